noncomputable section
/-! the model: what its reader leaves as it was -/
section FXR
variable {fd : Nat} {lay : List eY} {code : Nat → Nat → eE} {I : Nat → xM} {d M N p nx a b : Nat} {l : eL} {r : List eV} {w : eW} {Q : List eV → eW → Prop}
theorem e_Pn.callB {M' na : Nat} {f : eS → Option eS} {st : List eV} {v : eW} {Q' : List eV → eW → Prop} (hc : code M p = (2, f, M', na)) (h' : ∀ k, k < N → ∀ d, e_Pn fd lay code I k d M' (0, e_ent 0 (st.take na).reverse, [], v) Q') (h : ∀ r w', Q' r w' → e_Pn fd lay code I N d M (p + 3, l, r ++ st.drop na, w') Q) : e_Pn fd lay code I N d M (p, l, st, v) Q := by
  cases N with
  | zero => exact e_Pn.zero
  | succ n => exact e_Pn.callF hc (h' n (Nat.lt_succ_self n)) h
theorem e_Pn.incU (hN : e_Alk lay code) {i : Nat} {n' x : Int} (hc : code M p = (0, ei_inc i n' nx, a, b)) (hx : e_find l i = some (0, x)) (h : ∀ z : Int, e_Pn fd lay code I N d M (nx, (i, (0, z)) :: l.filter (e_flt 0 i), r, w) Q) : e_Pn fd lay code I N d M (p, l, r, w) Q := by
  refine e_Pn.step hN hc (fun t' q => ?_)
  unfold ei_inc at q
  simp only at q
  rw [hx] at q
  simp only at q
  cases q
  exact h _
def e_allB (P : Nat → Prop) : List (Int × Int × Nat) → Prop
  | [] => True
  | a :: l => P a.2.2 ∧ e_allB P l
theorem e_allB_arm {P : Nat → Prop} {x : Int} : ∀ {l : List (Int × Int × Nat)} {tg : Nat}, e_allB P l → e_arm x l = some tg → P tg
  | [], _, _, h => by cases h
  | q :: l, tg, h, h' => by
    unfold e_arm at h'
    cases g : (decide (q.1 ≤ x) && decide (x ≤ q.2.1)) with
    | true =>
      rw [g] at h'
      simp only [cond_true] at h'
      cases h'
      exact h.1
    | false =>
      rw [g] at h'
      simp only [cond_false] at h'
      exact e_allB_arm h.2 h'
theorem e_Pn.swU (hN : e_Alk lay code) {x : Int} {arms : List (Int × Int × Nat)} (hc : code M p = (0, ei_sw arms, a, b)) (h : e_allB (fun tg => e_Pn fd lay code I N d M (tg, l, r, w) Q) arms) : e_Pn fd lay code I N d M (p, l, (0, x) :: r, w) Q := by
  refine e_Pn.step hN hc (fun t' ht => ?_)
  unfold ei_sw at ht
  simp only at ht
  cases g : e_arm x arms with
  | none => rw [g] at ht; cases ht
  | some tg =>
    rw [g] at ht
    cases ht
    exact e_allB_arm h g
theorem e_Pn.binLU (hN : e_Alk lay code) {F : Int → Int → Option eV} {x y : Int} (T : Nat) (hF : ∀ x y v, F x y = some v → v.1 = T) (hc : code M p = (0, ei_binL F nx, a, b)) (h : ∀ z : Int, e_Pn fd lay code I N d M (nx, l, (T, z) :: r, w) Q) : e_Pn fd lay code I N d M (p, l, (4, y) :: (4, x) :: r, w) Q := by
  refine e_Pn.step hN hc (fun t' q => ?_)
  unfold ei_binL at q
  simp only at q
  cases g : F x y with
  | none => rw [g] at q; cases q
  | some v =>
    rw [g] at q
    cases q
    obtain ⟨t, z⟩ := v
    have e : t = T := hF _ _ _ g
    subst e
    exact h z
theorem e_Pn.unLU (hN : e_Alk lay code) {F : Int → eV} {x : Int} (T : Nat) (hF : ∀ x, (F x).1 = T) (hc : code M p = (0, ei_unL F nx, a, b)) (h : ∀ z : Int, e_Pn fd lay code I N d M (nx, l, (T, z) :: r, w) Q) : e_Pn fd lay code I N d M (p, l, (4, x) :: r, w) Q := by
  refine e_Pn.step hN hc (fun t' q => ?_)
  unfold ei_unL at q
  cases q
  have e := h (F x).2
  rw [← hF x] at e
  exact e
theorem e_Pn.unU (hN : e_Alk lay code) {F : Int → eV} {x : Int} (T : Nat) (hF : ∀ x, (F x).1 = T) (hc : code M p = (0, ei_un F nx, a, b)) (h : ∀ z : Int, e_Pn fd lay code I N d M (nx, l, (T, z) :: r, w) Q) : e_Pn fd lay code I N d M (p, l, (0, x) :: r, w) Q := by
  refine e_Pn.step hN hc (fun t' q => ?_)
  unfold ei_un at q
  cases q
  have e := h (F x).2
  rw [← hF x] at e
  exact e
theorem e_Pn.m2U (hN : e_Alk lay code) {F : Int → Int → Int} {x y : Int} (hc : code M p = (0, ei_m2 F nx, a, b)) (h : ∀ z : Int, e_Pn fd lay code I N d M (nx, l, (0, z) :: r, w) Q) : e_Pn fd lay code I N d M (p, l, (0, y) :: (0, x) :: r, w) Q := by
  refine e_Pn.step hN hc (fun t' q => ?_)
  unfold ei_m2 at q
  simp only at q
  cases g : Nat.ble (e_cats r) 8 with
  | false => rw [g] at q; cases q
  | true => rw [g] at q; cases q; exact h _
theorem e_Pn.SU (hN : e_Alk lay code) {g : List eV → Option (Nat × List eV)} {st : List eV} {T : Nat} (hg : ∀ q, g st = some q → ∃ z : Int, q = (nx, (T, z) :: r)) (hc : code M p = (0, e_S g, a, b)) (h : ∀ z : Int, e_Pn fd lay code I N d M (nx, l, (T, z) :: r, w) Q) : e_Pn fd lay code I N d M (p, l, st, w) Q := by
  refine e_Pn.step hN hc (fun t' q => ?_)
  unfold e_S at q
  simp only at q
  cases g' : g st with
  | none => rw [g'] at q; cases q
  | some v =>
    rw [g'] at q
    obtain ⟨z, rfl⟩ := hg v g'
    cases q
    exact h z
theorem g_slU {nx : Nat} {j : Int} {r : List eV} (q : Nat × List eV) (h : g_sl nx ((1, j) :: r) = some q) : ∃ z : Int, q = (nx, (0, z) :: r) := by
  unfold g_sl at h
  simp only at h
  cases g : Nat.ble (e_cats r) 8 with
  | false => rw [g] at h; cases h
  | true =>
    rw [g] at h
    simp only [cond_true] at h
    cases e : e_len j with
    | none => rw [e] at h; cases h
    | some n => rw [e] at h; cases h; exact ⟨n, rfl⟩
theorem g_scU {nx : Nat} {i j : Int} {r : List eV} (q : Nat × List eV) (h : g_sc nx ((0, i) :: (1, j) :: r) = some q) : ∃ z : Int, q = (nx, (0, z) :: r) := by
  unfold g_sc at h
  simp only at h
  cases g : Nat.ble (e_cats r) 8 with
  | false => rw [g] at h; cases h
  | true =>
    rw [g] at h
    simp only [cond_true] at h
    cases e : e_chr j i with
    | none => rw [e] at h; cases h
    | some n => rw [e] at h; cases h; exact ⟨n, rfl⟩
theorem g_ixU {nx : Nat} {i j : Int} {r : List eV} (q : Nat × List eV) (h : g_ix nx ((0, i) :: (1, j) :: r) = some q) : ∃ z : Int, q = (nx, (0, z) :: r) := by
  unfold g_ix at h
  simp only at h
  cases g : Nat.ble (e_cats r) 8 with
  | false => rw [g] at h; cases h
  | true =>
    rw [g] at h
    simp only [cond_true] at h
    cases e : e_idx j i with
    | none => rw [e] at h; cases h
    | some n => rw [e] at h; cases h; exact ⟨n, rfl⟩
theorem g_mlU {nx : Nat} {x y : Int} {r : List eV} (q : Nat × List eV) (h : g_ml nx ((4, y) :: (4, x) :: r) = some q) : ∃ z : Int, q = (nx, (4, z) :: r) := by
  unfold g_ml at h
  simp only at h
  cases g : Nat.ble (e_cats r) 8 with
  | false => rw [g] at h; cases h
  | true => rw [g] at h; cases h; exact ⟨_, rfl⟩
theorem e_Pn.lret {f : eS → Option eS} {z : Int} (hc : code M p = (1, f, 2, b)) (h : Q [(4, z)] w) : e_Pn fd lay code I N d M (p, l, [(4, z)], w) Q := e_Pn.ret hc (fun r' q => by cases q; exact h)
end FXR
def mRL : List (Int × Int) := [(65, 328), (66, 329), (67, 330), (68, 331), (69, 332), (70, 333), (71, 334), (72, 335), (73, 336), (90, 341), (91, 342), (92, 343), (93, 344), (8, 281)]
def mRw (v : eW) : Prop := ∀ q ∈ mRL, v 275 q.1 = q.2
/-- tables that the reader of the model leaves alone -/
def mz (v v' : eW) : Prop := (∀ i, v' 338 i = v 338 i) ∧ (∀ i, v' 339 i = v 339 i) ∧ v' 275 74 = v 275 74 ∧ v' 275 75 = v 275 75 ∧ v' 275 76 = v 275 76 ∧ v' 275 0 = v 275 0 ∧ v' 275 77 = v 275 77
theorem mz.tr {v v1 v2 : eW} (h : mz v v1) (h' : mz v1 v2) : mz v v2 := ⟨fun i => (h'.1 i).trans (h.1 i), fun i => (h'.2.1 i).trans (h.2.1 i), h'.2.2.1.trans h.2.2.1, h'.2.2.2.1.trans h.2.2.2.1, h'.2.2.2.2.1.trans h.2.2.2.2.1, h'.2.2.2.2.2.1.trans h.2.2.2.2.2.1, h'.2.2.2.2.2.2.trans h.2.2.2.2.2.2⟩
/-- what the reader of the model leaves: the tape, and a fault that there was -/
def mq (v v' : eW) : Prop := (∀ i, v' 281 i = v 281 i) ∧ v' 275 9 = v 275 9 ∧ (mRw v → mRw v') ∧ (v 275 88 ≠ 0 → v' 275 88 = v 275 88 ∧ v' 275 89 = v 275 89) ∧ mz v v'
theorem mq.r {v : eW} : mq v v := ⟨fun _ => rfl, rfl, fun h => h, fun _ => ⟨rfl, rfl⟩, fun _ => rfl, fun _ => rfl, rfl, rfl, rfl, rfl, rfl⟩
theorem mq.tr {v v1 v2 : eW} (h : mq v v1) (h' : mq v1 v2) : mq v v2 := ⟨fun i => (h'.1 i).trans (h.1 i), h'.2.1.trans h.2.1, fun g => h'.2.2.1 (h.2.2.1 g), fun g => ⟨((h'.2.2.2.1 (by rw [(h.2.2.2.1 g).1]; exact g)).1).trans (h.2.2.2.1 g).1, ((h'.2.2.2.1 (by rw [(h.2.2.2.1 g).1]; exact g)).2).trans (h.2.2.2.1 g).2⟩, h.2.2.2.2.tr h'.2.2.2.2⟩
theorem mq.rf {v v1 : eW} (h : mq v v1) (g : mRw v) : mRw v1 := h.2.2.1 g
/-- a write into a row -/
theorem mq.upA {v v1 v2 : eW} {c i z : Int} (h : mq v v1) (hv : e_up v1 c i z = v2) (h1 : c ≠ 275 ∧ c ≠ 281 ∧ c ≠ 338 ∧ c ≠ 339) : mq v v2 := h.tr (by
  subst hv
  have e : ∀ k, e_up v1 c i z 275 k = v1 275 k := fun k => e_up_ne _ _ (Or.inl (fun e => h1.1 e.symm))
  exact ⟨fun i => e_up_ne _ _ (Or.inl (fun e => h1.2.1 e.symm)), e _, fun g q hq => (e _).trans (g q hq), fun _ => ⟨e _, e _⟩, fun i => e_up_ne _ _ (Or.inl (fun e => h1.2.2.1 e.symm)), fun i => e_up_ne _ _ (Or.inl (fun e => h1.2.2.2 e.symm)), e _, e _, e _, e _, e _⟩)
/-- a write into a field that is none of these -/
theorem mq.upF {v v1 v2 : eW} {k z : Int} (h : mq v v1) (hv : e_up v1 275 k z = v2) (h1 : k ≠ 9 ∧ k ≠ 88 ∧ k ≠ 89 ∧ k ≠ 74 ∧ k ≠ 75 ∧ k ≠ 76 ∧ k ≠ 0 ∧ k ≠ 77) (h2 : mRL.all (fun q => decide (q.1 ≠ k)) = true) : mq v v2 := h.tr (by
  subst hv
  have e : ∀ j, j ≠ k → e_up v1 275 k z 275 j = v1 275 j := fun j g => e_up_ne _ _ (Or.inr g)
  refine ⟨fun i => e_up_ne _ _ (Or.inl (by decide)), e _ (fun e => h1.1 e.symm), fun g q hq => ?_, fun _ => ⟨e _ (fun e => h1.2.1 e.symm), e _ (fun e => h1.2.2.1 e.symm)⟩, fun i => e_up_ne _ _ (Or.inl (by decide)), fun i => e_up_ne _ _ (Or.inl (by decide)), e _ (fun e => h1.2.2.2.1 e.symm), e _ (fun e => h1.2.2.2.2.1 e.symm), e _ (fun e => h1.2.2.2.2.2.1 e.symm), e _ (fun e => h1.2.2.2.2.2.2.1 e.symm), e _ (fun e => h1.2.2.2.2.2.2.2 e.symm)⟩
  exact (e _ (of_decide_eq_true (List.all_eq_true.mp h2 q hq))).trans (g q hq))
/-- a fault that there was not -/
theorem mq.upS {v v1 v2 : eW} {k z : Int} (h : mq v v1) (hz : v 275 88 = 0) (hv : e_up v1 275 k z = v2) (h1 : k = 88 ∨ k = 89) : mq v v2 := by
  subst hv
  have e : ∀ j, j ≠ k → e_up v1 275 k z 275 j = v1 275 j := fun j g => e_up_ne _ _ (Or.inr g)
  refine ⟨fun i => (e_up_ne _ _ (Or.inl (by decide))).trans (h.1 i), (e _ (by omega)).trans h.2.1, fun g q hq => ?_, fun g => absurd hz g, fun i => (e_up_ne _ _ (Or.inl (by decide))).trans (h.2.2.2.2.1 i), fun i => (e_up_ne _ _ (Or.inl (by decide))).trans (h.2.2.2.2.2.1 i), (e _ (by omega)).trans h.2.2.2.2.2.2.1, (e _ (by omega)).trans h.2.2.2.2.2.2.2.1, (e _ (by omega)).trans h.2.2.2.2.2.2.2.2.1, (e _ (by omega)).trans h.2.2.2.2.2.2.2.2.2.1, (e _ (by omega)).trans h.2.2.2.2.2.2.2.2.2.2⟩
  have d : mRL.all (fun q => decide (q.1 ≠ 88 ∧ q.1 ≠ 89)) = true := by decide +kernel
  have d2 := of_decide_eq_true (List.all_eq_true.mp d q hq)
  exact (e _ (by omega)).trans (h.2.2.1 g q hq)
theorem mRw.of {v : eW} (h : e_Has mTy v) : mRw v := fun q hq => by
  have d : mRL.all (fun q => decide (mTy 275 q.1 = (q.2, q.2))) = true := by decide +kernel
  have d2 := of_decide_eq_true (List.all_eq_true.mp d q hq)
  exact e_Has.eq h d2

theorem u_266 {n d : Nat} {w : eW} (hR : mRw w) {x : Int} {y : Int} {z : Int} : e_Pn 20 elay ecode eI n d 266 (0, [(0, (4, x)), (2, (4, y)), (4, (4, z))], [], w) (fun r w' => (∃ z : Int, r = [(0, z)]) ∧ mq w w') := by
  refine e_Pn.run (t' := (2, [(0, (4, x)), (2, (4, y)), (4, (4, z))], [(4, y), (4, x)], w)) eAlk 2 rfl ?_
  refine e_Pn.binLU eAlk 0 (fun _ _ _ h => by cases h; rfl) rfl (fun z1 => ?_)
  refine e_Pn.if1 eAlk rfl (fun h2 => ?_) (fun h2 => ?_)
  · show e_Pn 20 elay ecode eI n d 266 (17, [(0, (4, x)), (2, (4, y)), (4, (4, z))], [], w) _
    refine e_Pn.run (t' := (18, [(0, (4, x)), (2, (4, y)), (4, (4, z))], [(0, 0)], w)) eAlk 1 rfl ?_
    exact e_Pn.ret4 rfl ⟨⟨_, rfl⟩, mq.r⟩
  · show e_Pn 20 elay ecode eI n d 266 (6, [(0, (4, x)), (2, (4, y)), (4, (4, z))], [], w) _
    refine e_Pn.run (t' := (9, [(0, (4, x)), (2, (4, y)), (4, (4, z))], [(4, z), (4, x)], w)) eAlk 2 rfl ?_
    refine e_Pn.binLU eAlk 0 (fun _ _ _ h => by cases h; rfl) rfl (fun z3 => ?_)
    refine e_Pn.if1 eAlk rfl (fun h4 => ?_) (fun h4 => ?_)
    · show e_Pn 20 elay ecode eI n d 266 (17, [(0, (4, x)), (2, (4, y)), (4, (4, z))], [], w) _
      refine e_Pn.run (t' := (18, [(0, (4, x)), (2, (4, y)), (4, (4, z))], [(0, 0)], w)) eAlk 1 rfl ?_
      exact e_Pn.ret4 rfl ⟨⟨_, rfl⟩, mq.r⟩
    · show e_Pn 20 elay ecode eI n d 266 (13, [(0, (4, x)), (2, (4, y)), (4, (4, z))], [], w) _
      refine e_Pn.run (t' := (18, [(0, (4, x)), (2, (4, y)), (4, (4, z))], [(0, 1)], w)) eAlk 2 rfl ?_
      exact e_Pn.ret4 rfl ⟨⟨_, rfl⟩, mq.r⟩
theorem u_324 {n d : Nat} {w : eW} (hR : mRw w) {x : Int} : e_Pn 20 elay ecode eI n d 324 (0, [(0, (0, x))], [], w) (fun r w' => (∃ z : Int, r = [(0, z)]) ∧ mq w w') := by
  refine e_Pn.run (t' := (8, [(0, (0, x))], [(4, 122), (4, 97), (4, x)], w)) eAlk 4 rfl ?_
  refine e_Pn.callA rfl (fun n9 d9 => u_266 (mq.r.rf hR)) (fun r2 w3 h1 => ?_)
  obtain ⟨⟨z4, rfl⟩, h1⟩ := h1
  have q5 := mq.r.tr h1
  show e_Pn 20 elay ecode eI n d 324 (11, [(0, (0, x))], [(0, z4)], w3) _
  refine e_Pn.if1 eAlk rfl (fun h6 => ?_) (fun h6 => ?_)
  · show e_Pn 20 elay ecode eI n d 324 (28, [(0, (0, x))], [], w3) _
    refine e_Pn.run (t' := (33, [(0, (0, x))], [(0, 1)], w3)) eAlk 2 rfl ?_
    exact e_Pn.ret4 rfl ⟨⟨_, rfl⟩, q5⟩
  · show e_Pn 20 elay ecode eI n d 324 (14, [(0, (0, x))], [], w3) _
    refine e_Pn.run (t' := (22, [(0, (0, x))], [(4, 90), (4, 65), (4, x)], w3)) eAlk 4 rfl ?_
    refine e_Pn.callA rfl (fun n9 d9 => u_266 (q5.rf hR)) (fun r8 w9 h7 => ?_)
    obtain ⟨⟨z10, rfl⟩, h7⟩ := h7
    have q11 := q5.tr h7
    show e_Pn 20 elay ecode eI n d 324 (25, [(0, (0, x))], [(0, z10)], w9) _
    refine e_Pn.if1 eAlk rfl (fun h12 => ?_) (fun h12 => ?_)
    · show e_Pn 20 elay ecode eI n d 324 (32, [(0, (0, x))], [], w9) _
      refine e_Pn.run (t' := (33, [(0, (0, x))], [(0, 0)], w9)) eAlk 1 rfl ?_
      exact e_Pn.ret4 rfl ⟨⟨_, rfl⟩, q11⟩
    · show e_Pn 20 elay ecode eI n d 324 (28, [(0, (0, x))], [], w9) _
      refine e_Pn.run (t' := (33, [(0, (0, x))], [(0, 1)], w9)) eAlk 2 rfl ?_
      exact e_Pn.ret4 rfl ⟨⟨_, rfl⟩, q11⟩
theorem u_325 {n d : Nat} {w : eW} (hR : mRw w) {x : Int} : e_Pn 20 elay ecode eI n d 325 (0, [(0, (0, x))], [], w) (fun r w' => (∃ z : Int, r = [(0, z)]) ∧ mq w w') := by
  refine e_Pn.run (t' := (8, [(0, (0, x))], [(4, 57), (4, 48), (4, x)], w)) eAlk 4 rfl ?_
  refine e_Pn.callA rfl (fun n9 d9 => u_266 (mq.r.rf hR)) (fun r2 w3 h1 => ?_)
  obtain ⟨⟨z4, rfl⟩, h1⟩ := h1
  have q5 := mq.r.tr h1
  show e_Pn 20 elay ecode eI n d 325 (11, [(0, (0, x))], [(0, z4)], w3) _
  exact e_Pn.ret4 rfl ⟨⟨_, rfl⟩, q5⟩
theorem u_326 {n d : Nat} {w : eW} (hR : mRw w) {x : Int} : e_Pn 20 elay ecode eI n d 326 (0, [(0, (1, 275)), (1, (0, x))], [], w) (fun r w' => (∃ z : Int, r = [(0, z)]) ∧ mq w w') := by
  refine e_Pn.run (t' := (2, [(0, (1, 275)), (1, (0, x))], [(1, 275), (0, x)], w)) eAlk 2 rfl ?_
  refine e_Pn.getf (z := w 275 9) eAlk rfl rfl rfl (fun b1 => ?_)
  refine e_Pn.if2 eAlk rfl (fun h2 => ?_) (fun h2 => ?_)
  · show e_Pn 20 elay ecode eI n d 326 (17, [(0, (1, 275)), (1, (0, x))], [], w) _
    refine e_Pn.run (t' := (20, [(0, (1, 275)), (1, (0, x))], [(0, (-1000))], w)) eAlk 1 rfl ?_
    exact e_Pn.ret1 rfl ⟨⟨_, rfl⟩, mq.r⟩
  · show e_Pn 20 elay ecode eI n d 326 (8, [(0, (1, 275)), (1, (0, x))], [], w) _
    refine e_Pn.run (t' := (9, [(0, (1, 275)), (1, (0, x))], [(1, 275)], w)) eAlk 1 rfl ?_
    refine e_Pn.getr (z := 281) eAlk rfl rfl (mq.r.rf hR (8, 281) (by decide)) (by omega) ?_
    refine e_Pn.run (t' := (13, [(0, (1, 275)), (1, (0, x))], [(0, x), (1, 281)], w)) eAlk 1 rfl ?_
    refine e_Pn.ald (z := w 281 x) eAlk rfl rfl (fun b3 b4 => ?_)
    refine e_Pn.run (t' := (20, [(0, (1, 275)), (1, (0, x))], [(0, w 281 x)], w)) eAlk 1 rfl ?_
    exact e_Pn.ret1 rfl ⟨⟨_, rfl⟩, mq.r⟩
set_option maxHeartbeats 4000000 in
theorem u_328 {n d : Nat} {w : eW} (hR : mRw w) : e_Pn 20 elay ecode eI n d 328 (0, [(0, (1, 275))], [], w) (fun r w' => r = [] ∧ mq w w') := by
  refine e_Pn.run (t' := (1, [(0, (1, 275))], [(1, 275)], w)) eAlk 1 rfl ?_
  refine e_Pn.getf (z := w 275 86) eAlk rfl rfl rfl (fun b1 => ?_)
  refine e_Pn.run (t' := (5, [(1, (0, w 275 86)), (0, (1, 275))], [], w)) eAlk 1 rfl ?_
  have hL2 : ∀ nn4 : Nat, nn4 ≤ n → ∀ (tl5 : eL) (y8 : Int) (w6 : eW), mq w w6 → e_Pn 20 elay ecode eI nn4 d 328 (5, (0, (1, 275)) :: (1, (0, y8)) :: tl5, [], w6) (fun r w' => r = [] ∧ mq w w') := by
    intro nn4
    induction nn4 with
    | zero => intro _ tl5 y8 w6 _; exact e_Pn.zero
    | succ nn4 ih3 =>
      intro hnnn4 tl5 y8 w6 q7
      refine e_Pn.runS (t' := (7, (0, (1, 275)) :: (1, (0, y8)) :: tl5, [(0, y8), (1, 275)], w6)) eAlk 1 rfl ?_
      refine e_Pn.callA rfl (fun n9 d9 => u_326 (q7.rf hR)) (fun r10 w11 h9 => ?_)
      obtain ⟨⟨z12, rfl⟩, h9⟩ := h9
      have q13 := q7.tr h9
      show e_Pn 20 elay ecode eI nn4 d 328 (10, (0, (1, 275)) :: (1, (0, y8)) :: tl5, [(0, z12)], w11) _
      refine e_Pn.callA rfl (fun n9 d9 => u_324 (q13.rf hR)) (fun r15 w16 h14 => ?_)
      obtain ⟨⟨z17, rfl⟩, h14⟩ := h14
      have q18 := q13.tr h14
      show e_Pn 20 elay ecode eI nn4 d 328 (13, (0, (1, 275)) :: (1, (0, y8)) :: tl5, [(0, z17)], w16) _
      refine e_Pn.if1 eAlk rfl (fun h19 => ?_) (fun h19 => ?_)
      · show e_Pn 20 elay ecode eI nn4 d 328 (27, (0, (1, 275)) :: (1, (0, y8)) :: tl5, [], w16) _
        refine e_Pn.incU eAlk rfl rfl (fun z20 => ?_)
        show e_Pn 20 elay ecode eI nn4 d 328 (30, (1, (0, z20)) :: (0, (1, 275)) :: List.filter (e_flt 0 1) tl5, [], w16) _
        refine e_Pn.run (t' := (5, (1, (0, z20)) :: (0, (1, 275)) :: List.filter (e_flt 0 1) tl5, [], w16)) eAlk 1 rfl ?_
        exact e_Pn.ord eAlk [0, 1] rfl rfl ((ih3 (by omega) _ z20 w16 q18).le (by omega))
      · show e_Pn 20 elay ecode eI nn4 d 328 (16, (0, (1, 275)) :: (1, (0, y8)) :: tl5, [], w16) _
        refine e_Pn.run (t' := (18, (0, (1, 275)) :: (1, (0, y8)) :: tl5, [(0, y8), (1, 275)], w16)) eAlk 2 rfl ?_
        refine e_Pn.callA rfl (fun n9 d9 => u_326 (q18.rf hR)) (fun r22 w23 h21 => ?_)
        obtain ⟨⟨z24, rfl⟩, h21⟩ := h21
        have q25 := q18.tr h21
        show e_Pn 20 elay ecode eI nn4 d 328 (21, (0, (1, 275)) :: (1, (0, y8)) :: tl5, [(0, z24)], w23) _
        refine e_Pn.callA rfl (fun n9 d9 => u_325 (q25.rf hR)) (fun r27 w28 h26 => ?_)
        obtain ⟨⟨z29, rfl⟩, h26⟩ := h26
        have q30 := q25.tr h26
        show e_Pn 20 elay ecode eI nn4 d 328 (24, (0, (1, 275)) :: (1, (0, y8)) :: tl5, [(0, z29)], w28) _
        refine e_Pn.if1 eAlk rfl (fun h31 => ?_) (fun h31 => ?_)
        · show e_Pn 20 elay ecode eI nn4 d 328 (33, (0, (1, 275)) :: (1, (0, y8)) :: tl5, [], w28) _
          refine e_Pn.run (t' := (35, (0, (1, 275)) :: (1, (0, y8)) :: tl5, [(0, y8), (1, 275)], w28)) eAlk 2 rfl ?_
          refine e_Pn.putf eAlk rfl rfl ?_
          generalize hw32 : e_up w28 275 87 y8 = w32
          have q33 : mq w w32 := mq.upF q30 hw32 (by decide) (by decide +kernel)
          refine e_Pn.run (t' := (41, (0, (1, 275)) :: (1, (0, y8)) :: tl5, [(1, 275), (0, y8), (1, 275)], w32)) eAlk 3 rfl ?_
          refine e_Pn.getf (z := w32 275 86) eAlk rfl rfl rfl (fun b34 => ?_)
          refine e_Pn.bin0 eAlk rfl (fun z35 hz35 => ?_)
          refine e_Pn.run (t' := (47, (0, (1, 275)) :: (1, (0, y8)) :: tl5, [(0, 24), (0, z35), (1, 275)], w32)) eAlk 1 rfl ?_
          refine e_Pn.if2 eAlk rfl (fun h36 => ?_) (fun h36 => ?_)
          · show e_Pn 20 elay ecode eI nn4 d 328 (54, (0, (1, 275)) :: (1, (0, y8)) :: tl5, [(1, 275)], w32) _
            refine e_Pn.run (t' := (55, (0, (1, 275)) :: (1, (0, y8)) :: tl5, [(0, 1), (1, 275)], w32)) eAlk 1 rfl ?_
            refine e_Pn.putf eAlk rfl rfl ?_
            generalize hw37 : e_up w32 275 84 1 = w37
            have q38 : mq w w37 := mq.upF q33 hw37 (by decide) (by decide +kernel)
            refine e_Pn.run (t' := (62, (3, (0, 0)) :: (2, (0, 0)) :: (0, (1, 275)) :: (1, (0, y8)) :: List.filter (e_flt 0 3) (List.filter (e_flt 0 2) tl5), [], w37)) eAlk 4 rfl ?_
            have hL39 : ∀ nn41 : Nat, nn41 ≤ nn4 → ∀ (tl42 : eL) (y45 : Int) (y46 : Int) (y47 : Int) (w43 : eW), mq w w43 → e_Pn 20 elay ecode eI nn41 d 328 (62, (0, (1, 275)) :: (1, (0, y45)) :: (2, (0, y46)) :: (3, (0, y47)) :: tl42, [], w43) (fun r w' => r = [] ∧ mq w w') := by
              intro nn41
              induction nn41 with
              | zero => intro _ tl42 y45 y46 y47 w43 _; exact e_Pn.zero
              | succ nn41 ih40 =>
                intro hnnn41 tl42 y45 y46 y47 w43 q44
                refine e_Pn.runS (t' := (66, (0, (1, 275)) :: (1, (0, y45)) :: (2, (0, y46)) :: (3, (0, y47)) :: tl42, [(1, 357), (0, y46)], w43)) eAlk 1 rfl ?_
                refine e_Pn.SU eAlk g_slU rfl (fun z48 => ?_)
                refine e_Pn.if2 eAlk rfl (fun h49 => ?_) (fun h49 => ?_)
                · show e_Pn 20 elay ecode eI nn41 d 328 (186, (0, (1, 275)) :: (1, (0, y45)) :: (2, (0, y46)) :: (3, (0, y47)) :: tl42, [], w43) _
                  exact e_Pn.ret0 rfl ⟨rfl, q44⟩
                · show e_Pn 20 elay ecode eI nn41 d 328 (72, (0, (1, 275)) :: (1, (0, y45)) :: (2, (0, y46)) :: (3, (0, y47)) :: tl42, [], w43) _
                  refine e_Pn.run (t' := (75, (4, (0, 0)) :: (0, (1, 275)) :: (1, (0, y45)) :: (2, (0, y46)) :: (3, (0, y47)) :: List.filter (e_flt 0 4) tl42, [], w43)) eAlk 2 rfl ?_
                  have hL50 : ∀ nn52 : Nat, nn52 ≤ nn41 → ∀ (tl53 : eL) (y56 : Int) (y57 : Int) (y58 : Int) (y59 : Int) (w54 : eW), mq w w54 → e_Pn 20 elay ecode eI nn52 d 328 (75, (0, (1, 275)) :: (1, (0, y56)) :: (2, (0, y57)) :: (3, (0, y58)) :: (4, (0, y59)) :: tl53, [], w54) (fun r w' => r = [] ∧ mq w w') := by
                    intro nn52
                    induction nn52 with
                    | zero => intro _ tl53 y56 y57 y58 y59 w54 _; exact e_Pn.zero
                    | succ nn52 ih51 =>
                      intro hnnn52 tl53 y56 y57 y58 y59 w54 q55
                      refine e_Pn.runS (t' := (81, (0, (1, 275)) :: (1, (0, y56)) :: (2, (0, y57)) :: (3, (0, y58)) :: (4, (0, y59)) :: tl53, [(0, y59), (0, y57), (1, 357)], w54)) eAlk 2 rfl ?_
                      refine e_Pn.bin0 eAlk rfl (fun z60 hz60 => ?_)
                      refine e_Pn.SU eAlk g_scU rfl (fun z61 => ?_)
                      refine e_Pn.run (t' := (87, (0, (1, 275)) :: (1, (0, y56)) :: (2, (0, y57)) :: (3, (0, y58)) :: (4, (0, y59)) :: tl53, [(0, 32), (0, z61)], w54)) eAlk 1 rfl ?_
                      refine e_Pn.if2 eAlk rfl (fun h62 => ?_) (fun h62 => ?_)
                      · show e_Pn 20 elay ecode eI nn52 d 328 (120, (0, (1, 275)) :: (1, (0, y56)) :: (2, (0, y57)) :: (3, (0, y58)) :: (4, (0, y59)) :: tl53, [], w54) _
                        refine e_Pn.run (t' := (126, (0, (1, 275)) :: (1, (0, y56)) :: (2, (0, y57)) :: (3, (0, y58)) :: (4, (0, y59)) :: tl53, [(0, y59), (0, y57), (1, 357)], w54)) eAlk 3 rfl ?_
                        refine e_Pn.bin0 eAlk rfl (fun z63 hz63 => ?_)
                        refine e_Pn.SU eAlk g_scU rfl (fun z64 => ?_)
                        refine e_Pn.run (t' := (132, (0, (1, 275)) :: (1, (0, y56)) :: (2, (0, y57)) :: (3, (0, y58)) :: (4, (0, y59)) :: tl53, [(0, 32), (0, z64)], w54)) eAlk 1 rfl ?_
                        refine e_Pn.if2 eAlk rfl (fun h65 => ?_) (fun h65 => ?_)
                        · show e_Pn 20 elay ecode eI nn52 d 328 (159, (0, (1, 275)) :: (1, (0, y56)) :: (2, (0, y57)) :: (3, (0, y58)) :: (4, (0, y59)) :: tl53, [], w54) _
                          have hL66 : ∀ nn68 : Nat, nn68 ≤ nn52 → ∀ (tl69 : eL) (y72 : Int) (y73 : Int) (y74 : Int) (y75 : Int) (w70 : eW), mq w w70 → e_Pn 20 elay ecode eI nn68 d 328 (159, (0, (1, 275)) :: (1, (0, y72)) :: (2, (0, y73)) :: (3, (0, y74)) :: (4, (0, y75)) :: tl69, [], w70) (fun r w' => r = [] ∧ mq w w') := by
                            intro nn68
                            induction nn68 with
                            | zero => intro _ tl69 y72 y73 y74 y75 w70 _; exact e_Pn.zero
                            | succ nn68 ih67 =>
                              intro hnnn68 tl69 y72 y73 y74 y75 w70 q71
                              refine e_Pn.runS (t' := (163, (0, (1, 275)) :: (1, (0, y72)) :: (2, (0, y73)) :: (3, (0, y74)) :: (4, (0, y75)) :: tl69, [(0, y73), (1, 357)], w70)) eAlk 1 rfl ?_
                              refine e_Pn.SU eAlk g_scU rfl (fun z76 => ?_)
                              refine e_Pn.run (t' := (168, (0, (1, 275)) :: (1, (0, y72)) :: (2, (0, y73)) :: (3, (0, y74)) :: (4, (0, y75)) :: tl69, [(0, 32), (0, z76)], w70)) eAlk 1 rfl ?_
                              refine e_Pn.if2 eAlk rfl (fun h77 => ?_) (fun h77 => ?_)
                              · show e_Pn 20 elay ecode eI nn68 d 328 (177, (0, (1, 275)) :: (1, (0, y72)) :: (2, (0, y73)) :: (3, (0, y74)) :: (4, (0, y75)) :: tl69, [], w70) _
                                refine e_Pn.incU eAlk rfl rfl (fun z78 => ?_)
                                show e_Pn 20 elay ecode eI nn68 d 328 (180, (2, (0, z78)) :: (0, (1, 275)) :: (1, (0, y72)) :: (3, (0, y74)) :: (4, (0, y75)) :: List.filter (e_flt 0 2) tl69, [], w70) _
                                refine e_Pn.incU eAlk rfl rfl (fun z79 => ?_)
                                show e_Pn 20 elay ecode eI nn68 d 328 (183, (3, (0, z79)) :: (2, (0, z78)) :: (0, (1, 275)) :: (1, (0, y72)) :: (4, (0, y75)) :: List.filter (e_flt 0 3) (List.filter (e_flt 0 2) tl69), [], w70) _
                                refine e_Pn.run (t' := (62, (3, (0, z79)) :: (2, (0, z78)) :: (0, (1, 275)) :: (1, (0, y72)) :: (4, (0, y75)) :: List.filter (e_flt 0 3) (List.filter (e_flt 0 2) tl69), [], w70)) eAlk 1 rfl ?_
                                exact e_Pn.ord eAlk [0, 1, 2, 3] rfl rfl ((ih40 (by omega) _ y72 z78 z79 w70 q71).le (by omega))
                              · show e_Pn 20 elay ecode eI nn68 d 328 (171, (0, (1, 275)) :: (1, (0, y72)) :: (2, (0, y73)) :: (3, (0, y74)) :: (4, (0, y75)) :: tl69, [], w70) _
                                refine e_Pn.incU eAlk rfl rfl (fun z80 => ?_)
                                show e_Pn 20 elay ecode eI nn68 d 328 (174, (2, (0, z80)) :: (0, (1, 275)) :: (1, (0, y72)) :: (3, (0, y74)) :: (4, (0, y75)) :: List.filter (e_flt 0 2) tl69, [], w70) _
                                refine e_Pn.run (t' := (159, (2, (0, z80)) :: (0, (1, 275)) :: (1, (0, y72)) :: (3, (0, y74)) :: (4, (0, y75)) :: List.filter (e_flt 0 2) tl69, [], w70)) eAlk 1 rfl ?_
                                exact e_Pn.ord eAlk [0, 1, 2, 3, 4] rfl rfl ((ih67 (by omega) _ y72 z80 y74 y75 w70 q71).le (by omega))
                          exact e_Pn.ord eAlk [0, 1, 2, 3, 4] rfl rfl (hL66 nn52 (Nat.le_refl _) _ y56 y57 y58 y59 w54 q55)
                        · show e_Pn 20 elay ecode eI nn52 d 328 (135, (0, (1, 275)) :: (1, (0, y56)) :: (2, (0, y57)) :: (3, (0, y58)) :: (4, (0, y59)) :: tl53, [], w54) _
                          refine e_Pn.run (t' := (138, (0, (1, 275)) :: (1, (0, y56)) :: (2, (0, y57)) :: (3, (0, y58)) :: (4, (0, y59)) :: tl53, [(1, 275), (0, y59)], w54)) eAlk 2 rfl ?_
                          refine e_Pn.getf (z := w54 275 87) eAlk rfl rfl rfl (fun b81 => ?_)
                          refine e_Pn.run (t' := (142, (0, (1, 275)) :: (1, (0, y56)) :: (2, (0, y57)) :: (3, (0, y58)) :: (4, (0, y59)) :: tl53, [(1, 275), (0, w54 275 87), (0, y59)], w54)) eAlk 1 rfl ?_
                          refine e_Pn.getf (z := w54 275 86) eAlk rfl rfl rfl (fun b82 => ?_)
                          refine e_Pn.bin0 eAlk rfl (fun z83 hz83 => ?_)
                          refine e_Pn.if2 eAlk rfl (fun h84 => ?_) (fun h84 => ?_)
                          · show e_Pn 20 elay ecode eI nn52 d 328 (159, (0, (1, 275)) :: (1, (0, y56)) :: (2, (0, y57)) :: (3, (0, y58)) :: (4, (0, y59)) :: tl53, [], w54) _
                            have hL85 : ∀ nn87 : Nat, nn87 ≤ nn52 → ∀ (tl88 : eL) (y91 : Int) (y92 : Int) (y93 : Int) (y94 : Int) (w89 : eW), mq w w89 → e_Pn 20 elay ecode eI nn87 d 328 (159, (0, (1, 275)) :: (1, (0, y91)) :: (2, (0, y92)) :: (3, (0, y93)) :: (4, (0, y94)) :: tl88, [], w89) (fun r w' => r = [] ∧ mq w w') := by
                              intro nn87
                              induction nn87 with
                              | zero => intro _ tl88 y91 y92 y93 y94 w89 _; exact e_Pn.zero
                              | succ nn87 ih86 =>
                                intro hnnn87 tl88 y91 y92 y93 y94 w89 q90
                                refine e_Pn.runS (t' := (163, (0, (1, 275)) :: (1, (0, y91)) :: (2, (0, y92)) :: (3, (0, y93)) :: (4, (0, y94)) :: tl88, [(0, y92), (1, 357)], w89)) eAlk 1 rfl ?_
                                refine e_Pn.SU eAlk g_scU rfl (fun z95 => ?_)
                                refine e_Pn.run (t' := (168, (0, (1, 275)) :: (1, (0, y91)) :: (2, (0, y92)) :: (3, (0, y93)) :: (4, (0, y94)) :: tl88, [(0, 32), (0, z95)], w89)) eAlk 1 rfl ?_
                                refine e_Pn.if2 eAlk rfl (fun h96 => ?_) (fun h96 => ?_)
                                · show e_Pn 20 elay ecode eI nn87 d 328 (177, (0, (1, 275)) :: (1, (0, y91)) :: (2, (0, y92)) :: (3, (0, y93)) :: (4, (0, y94)) :: tl88, [], w89) _
                                  refine e_Pn.incU eAlk rfl rfl (fun z97 => ?_)
                                  show e_Pn 20 elay ecode eI nn87 d 328 (180, (2, (0, z97)) :: (0, (1, 275)) :: (1, (0, y91)) :: (3, (0, y93)) :: (4, (0, y94)) :: List.filter (e_flt 0 2) tl88, [], w89) _
                                  refine e_Pn.incU eAlk rfl rfl (fun z98 => ?_)
                                  show e_Pn 20 elay ecode eI nn87 d 328 (183, (3, (0, z98)) :: (2, (0, z97)) :: (0, (1, 275)) :: (1, (0, y91)) :: (4, (0, y94)) :: List.filter (e_flt 0 3) (List.filter (e_flt 0 2) tl88), [], w89) _
                                  refine e_Pn.run (t' := (62, (3, (0, z98)) :: (2, (0, z97)) :: (0, (1, 275)) :: (1, (0, y91)) :: (4, (0, y94)) :: List.filter (e_flt 0 3) (List.filter (e_flt 0 2) tl88), [], w89)) eAlk 1 rfl ?_
                                  exact e_Pn.ord eAlk [0, 1, 2, 3] rfl rfl ((ih40 (by omega) _ y91 z97 z98 w89 q90).le (by omega))
                                · show e_Pn 20 elay ecode eI nn87 d 328 (171, (0, (1, 275)) :: (1, (0, y91)) :: (2, (0, y92)) :: (3, (0, y93)) :: (4, (0, y94)) :: tl88, [], w89) _
                                  refine e_Pn.incU eAlk rfl rfl (fun z99 => ?_)
                                  show e_Pn 20 elay ecode eI nn87 d 328 (174, (2, (0, z99)) :: (0, (1, 275)) :: (1, (0, y91)) :: (3, (0, y93)) :: (4, (0, y94)) :: List.filter (e_flt 0 2) tl88, [], w89) _
                                  refine e_Pn.run (t' := (159, (2, (0, z99)) :: (0, (1, 275)) :: (1, (0, y91)) :: (3, (0, y93)) :: (4, (0, y94)) :: List.filter (e_flt 0 2) tl88, [], w89)) eAlk 1 rfl ?_
                                  exact e_Pn.ord eAlk [0, 1, 2, 3, 4] rfl rfl ((ih86 (by omega) _ y91 z99 y93 y94 w89 q90).le (by omega))
                            exact e_Pn.ord eAlk [0, 1, 2, 3, 4] rfl rfl (hL85 nn52 (Nat.le_refl _) _ y56 y57 y58 y59 w54 q55)
                          · show e_Pn 20 elay ecode eI nn52 d 328 (149, (0, (1, 275)) :: (1, (0, y56)) :: (2, (0, y57)) :: (3, (0, y58)) :: (4, (0, y59)) :: tl53, [], w54) _
                            refine e_Pn.run (t' := (151, (0, (1, 275)) :: (1, (0, y56)) :: (2, (0, y57)) :: (3, (0, y58)) :: (4, (0, y59)) :: tl53, [(0, 4), (1, 275)], w54)) eAlk 2 rfl ?_
                            refine e_Pn.putf eAlk rfl rfl ?_
                            generalize hw100 : e_up w54 275 84 4 = w100
                            have q101 : mq w w100 := mq.upF q55 hw100 (by decide) (by decide +kernel)
                            refine e_Pn.run (t' := (156, (0, (1, 275)) :: (1, (0, y56)) :: (2, (0, y57)) :: (3, (0, y58)) :: (4, (0, y59)) :: tl53, [(0, y58), (1, 275)], w100)) eAlk 2 rfl ?_
                            refine e_Pn.putf eAlk rfl rfl ?_
                            generalize hw102 : e_up w100 275 85 y58 = w102
                            have q103 : mq w w102 := mq.upF q101 hw102 (by decide) (by decide +kernel)
                            have hL104 : ∀ nn106 : Nat, nn106 ≤ nn52 → ∀ (tl107 : eL) (y110 : Int) (y111 : Int) (y112 : Int) (y113 : Int) (w108 : eW), mq w w108 → e_Pn 20 elay ecode eI nn106 d 328 (159, (0, (1, 275)) :: (1, (0, y110)) :: (2, (0, y111)) :: (3, (0, y112)) :: (4, (0, y113)) :: tl107, [], w108) (fun r w' => r = [] ∧ mq w w') := by
                              intro nn106
                              induction nn106 with
                              | zero => intro _ tl107 y110 y111 y112 y113 w108 _; exact e_Pn.zero
                              | succ nn106 ih105 =>
                                intro hnnn106 tl107 y110 y111 y112 y113 w108 q109
                                refine e_Pn.runS (t' := (163, (0, (1, 275)) :: (1, (0, y110)) :: (2, (0, y111)) :: (3, (0, y112)) :: (4, (0, y113)) :: tl107, [(0, y111), (1, 357)], w108)) eAlk 1 rfl ?_
                                refine e_Pn.SU eAlk g_scU rfl (fun z114 => ?_)
                                refine e_Pn.run (t' := (168, (0, (1, 275)) :: (1, (0, y110)) :: (2, (0, y111)) :: (3, (0, y112)) :: (4, (0, y113)) :: tl107, [(0, 32), (0, z114)], w108)) eAlk 1 rfl ?_
                                refine e_Pn.if2 eAlk rfl (fun h115 => ?_) (fun h115 => ?_)
                                · show e_Pn 20 elay ecode eI nn106 d 328 (177, (0, (1, 275)) :: (1, (0, y110)) :: (2, (0, y111)) :: (3, (0, y112)) :: (4, (0, y113)) :: tl107, [], w108) _
                                  refine e_Pn.incU eAlk rfl rfl (fun z116 => ?_)
                                  show e_Pn 20 elay ecode eI nn106 d 328 (180, (2, (0, z116)) :: (0, (1, 275)) :: (1, (0, y110)) :: (3, (0, y112)) :: (4, (0, y113)) :: List.filter (e_flt 0 2) tl107, [], w108) _
                                  refine e_Pn.incU eAlk rfl rfl (fun z117 => ?_)
                                  show e_Pn 20 elay ecode eI nn106 d 328 (183, (3, (0, z117)) :: (2, (0, z116)) :: (0, (1, 275)) :: (1, (0, y110)) :: (4, (0, y113)) :: List.filter (e_flt 0 3) (List.filter (e_flt 0 2) tl107), [], w108) _
                                  refine e_Pn.run (t' := (62, (3, (0, z117)) :: (2, (0, z116)) :: (0, (1, 275)) :: (1, (0, y110)) :: (4, (0, y113)) :: List.filter (e_flt 0 3) (List.filter (e_flt 0 2) tl107), [], w108)) eAlk 1 rfl ?_
                                  exact e_Pn.ord eAlk [0, 1, 2, 3] rfl rfl ((ih40 (by omega) _ y110 z116 z117 w108 q109).le (by omega))
                                · show e_Pn 20 elay ecode eI nn106 d 328 (171, (0, (1, 275)) :: (1, (0, y110)) :: (2, (0, y111)) :: (3, (0, y112)) :: (4, (0, y113)) :: tl107, [], w108) _
                                  refine e_Pn.incU eAlk rfl rfl (fun z118 => ?_)
                                  show e_Pn 20 elay ecode eI nn106 d 328 (174, (2, (0, z118)) :: (0, (1, 275)) :: (1, (0, y110)) :: (3, (0, y112)) :: (4, (0, y113)) :: List.filter (e_flt 0 2) tl107, [], w108) _
                                  refine e_Pn.run (t' := (159, (2, (0, z118)) :: (0, (1, 275)) :: (1, (0, y110)) :: (3, (0, y112)) :: (4, (0, y113)) :: List.filter (e_flt 0 2) tl107, [], w108)) eAlk 1 rfl ?_
                                  exact e_Pn.ord eAlk [0, 1, 2, 3, 4] rfl rfl ((ih105 (by omega) _ y110 z118 y112 y113 w108 q109).le (by omega))
                            exact e_Pn.ord eAlk [0, 1, 2, 3, 4] rfl rfl (hL104 nn52 (Nat.le_refl _) _ y56 y57 y58 y59 w102 q103)
                      · show e_Pn 20 elay ecode eI nn52 d 328 (90, (0, (1, 275)) :: (1, (0, y56)) :: (2, (0, y57)) :: (3, (0, y58)) :: (4, (0, y59)) :: tl53, [], w54) _
                        refine e_Pn.run (t' := (96, (0, (1, 275)) :: (1, (0, y56)) :: (2, (0, y57)) :: (3, (0, y58)) :: (4, (0, y59)) :: tl53, [(0, y59), (0, y57), (1, 357)], w54)) eAlk 3 rfl ?_
                        refine e_Pn.bin0 eAlk rfl (fun z119 hz119 => ?_)
                        refine e_Pn.SU eAlk g_scU rfl (fun z120 => ?_)
                        refine e_Pn.run (t' := (102, (0, (1, 275)) :: (1, (0, y56)) :: (2, (0, y57)) :: (3, (0, y58)) :: (4, (0, y59)) :: tl53, [(1, 275), (1, 275), (0, z120)], w54)) eAlk 2 rfl ?_
                        refine e_Pn.getf (z := w54 275 86) eAlk rfl rfl rfl (fun b121 => ?_)
                        refine e_Pn.run (t' := (107, (0, (1, 275)) :: (1, (0, y56)) :: (2, (0, y57)) :: (3, (0, y58)) :: (4, (0, y59)) :: tl53, [(0, y59), (0, w54 275 86), (1, 275), (0, z120)], w54)) eAlk 1 rfl ?_
                        refine e_Pn.bin0 eAlk rfl (fun z122 hz122 => ?_)
                        refine e_Pn.callA rfl (fun n9 d9 => u_326 (q55.rf hR)) (fun r124 w125 h123 => ?_)
                        obtain ⟨⟨z126, rfl⟩, h123⟩ := h123
                        have q127 := q55.tr h123
                        show e_Pn 20 elay ecode eI nn52 d 328 (111, (0, (1, 275)) :: (1, (0, y56)) :: (2, (0, y57)) :: (3, (0, y58)) :: (4, (0, y59)) :: tl53, [(0, z126), (0, z120)], w125) _
                        refine e_Pn.if2 eAlk rfl (fun h128 => ?_) (fun h128 => ?_)
                        · show e_Pn 20 elay ecode eI nn52 d 328 (120, (0, (1, 275)) :: (1, (0, y56)) :: (2, (0, y57)) :: (3, (0, y58)) :: (4, (0, y59)) :: tl53, [], w125) _
                          refine e_Pn.run (t' := (126, (0, (1, 275)) :: (1, (0, y56)) :: (2, (0, y57)) :: (3, (0, y58)) :: (4, (0, y59)) :: tl53, [(0, y59), (0, y57), (1, 357)], w125)) eAlk 3 rfl ?_
                          refine e_Pn.bin0 eAlk rfl (fun z129 hz129 => ?_)
                          refine e_Pn.SU eAlk g_scU rfl (fun z130 => ?_)
                          refine e_Pn.run (t' := (132, (0, (1, 275)) :: (1, (0, y56)) :: (2, (0, y57)) :: (3, (0, y58)) :: (4, (0, y59)) :: tl53, [(0, 32), (0, z130)], w125)) eAlk 1 rfl ?_
                          refine e_Pn.if2 eAlk rfl (fun h131 => ?_) (fun h131 => ?_)
                          · show e_Pn 20 elay ecode eI nn52 d 328 (159, (0, (1, 275)) :: (1, (0, y56)) :: (2, (0, y57)) :: (3, (0, y58)) :: (4, (0, y59)) :: tl53, [], w125) _
                            have hL132 : ∀ nn134 : Nat, nn134 ≤ nn52 → ∀ (tl135 : eL) (y138 : Int) (y139 : Int) (y140 : Int) (y141 : Int) (w136 : eW), mq w w136 → e_Pn 20 elay ecode eI nn134 d 328 (159, (0, (1, 275)) :: (1, (0, y138)) :: (2, (0, y139)) :: (3, (0, y140)) :: (4, (0, y141)) :: tl135, [], w136) (fun r w' => r = [] ∧ mq w w') := by
                              intro nn134
                              induction nn134 with
                              | zero => intro _ tl135 y138 y139 y140 y141 w136 _; exact e_Pn.zero
                              | succ nn134 ih133 =>
                                intro hnnn134 tl135 y138 y139 y140 y141 w136 q137
                                refine e_Pn.runS (t' := (163, (0, (1, 275)) :: (1, (0, y138)) :: (2, (0, y139)) :: (3, (0, y140)) :: (4, (0, y141)) :: tl135, [(0, y139), (1, 357)], w136)) eAlk 1 rfl ?_
                                refine e_Pn.SU eAlk g_scU rfl (fun z142 => ?_)
                                refine e_Pn.run (t' := (168, (0, (1, 275)) :: (1, (0, y138)) :: (2, (0, y139)) :: (3, (0, y140)) :: (4, (0, y141)) :: tl135, [(0, 32), (0, z142)], w136)) eAlk 1 rfl ?_
                                refine e_Pn.if2 eAlk rfl (fun h143 => ?_) (fun h143 => ?_)
                                · show e_Pn 20 elay ecode eI nn134 d 328 (177, (0, (1, 275)) :: (1, (0, y138)) :: (2, (0, y139)) :: (3, (0, y140)) :: (4, (0, y141)) :: tl135, [], w136) _
                                  refine e_Pn.incU eAlk rfl rfl (fun z144 => ?_)
                                  show e_Pn 20 elay ecode eI nn134 d 328 (180, (2, (0, z144)) :: (0, (1, 275)) :: (1, (0, y138)) :: (3, (0, y140)) :: (4, (0, y141)) :: List.filter (e_flt 0 2) tl135, [], w136) _
                                  refine e_Pn.incU eAlk rfl rfl (fun z145 => ?_)
                                  show e_Pn 20 elay ecode eI nn134 d 328 (183, (3, (0, z145)) :: (2, (0, z144)) :: (0, (1, 275)) :: (1, (0, y138)) :: (4, (0, y141)) :: List.filter (e_flt 0 3) (List.filter (e_flt 0 2) tl135), [], w136) _
                                  refine e_Pn.run (t' := (62, (3, (0, z145)) :: (2, (0, z144)) :: (0, (1, 275)) :: (1, (0, y138)) :: (4, (0, y141)) :: List.filter (e_flt 0 3) (List.filter (e_flt 0 2) tl135), [], w136)) eAlk 1 rfl ?_
                                  exact e_Pn.ord eAlk [0, 1, 2, 3] rfl rfl ((ih40 (by omega) _ y138 z144 z145 w136 q137).le (by omega))
                                · show e_Pn 20 elay ecode eI nn134 d 328 (171, (0, (1, 275)) :: (1, (0, y138)) :: (2, (0, y139)) :: (3, (0, y140)) :: (4, (0, y141)) :: tl135, [], w136) _
                                  refine e_Pn.incU eAlk rfl rfl (fun z146 => ?_)
                                  show e_Pn 20 elay ecode eI nn134 d 328 (174, (2, (0, z146)) :: (0, (1, 275)) :: (1, (0, y138)) :: (3, (0, y140)) :: (4, (0, y141)) :: List.filter (e_flt 0 2) tl135, [], w136) _
                                  refine e_Pn.run (t' := (159, (2, (0, z146)) :: (0, (1, 275)) :: (1, (0, y138)) :: (3, (0, y140)) :: (4, (0, y141)) :: List.filter (e_flt 0 2) tl135, [], w136)) eAlk 1 rfl ?_
                                  exact e_Pn.ord eAlk [0, 1, 2, 3, 4] rfl rfl ((ih133 (by omega) _ y138 z146 y140 y141 w136 q137).le (by omega))
                            exact e_Pn.ord eAlk [0, 1, 2, 3, 4] rfl rfl (hL132 nn52 (Nat.le_refl _) _ y56 y57 y58 y59 w125 q127)
                          · show e_Pn 20 elay ecode eI nn52 d 328 (135, (0, (1, 275)) :: (1, (0, y56)) :: (2, (0, y57)) :: (3, (0, y58)) :: (4, (0, y59)) :: tl53, [], w125) _
                            refine e_Pn.run (t' := (138, (0, (1, 275)) :: (1, (0, y56)) :: (2, (0, y57)) :: (3, (0, y58)) :: (4, (0, y59)) :: tl53, [(1, 275), (0, y59)], w125)) eAlk 2 rfl ?_
                            refine e_Pn.getf (z := w125 275 87) eAlk rfl rfl rfl (fun b147 => ?_)
                            refine e_Pn.run (t' := (142, (0, (1, 275)) :: (1, (0, y56)) :: (2, (0, y57)) :: (3, (0, y58)) :: (4, (0, y59)) :: tl53, [(1, 275), (0, w125 275 87), (0, y59)], w125)) eAlk 1 rfl ?_
                            refine e_Pn.getf (z := w125 275 86) eAlk rfl rfl rfl (fun b148 => ?_)
                            refine e_Pn.bin0 eAlk rfl (fun z149 hz149 => ?_)
                            refine e_Pn.if2 eAlk rfl (fun h150 => ?_) (fun h150 => ?_)
                            · show e_Pn 20 elay ecode eI nn52 d 328 (159, (0, (1, 275)) :: (1, (0, y56)) :: (2, (0, y57)) :: (3, (0, y58)) :: (4, (0, y59)) :: tl53, [], w125) _
                              have hL151 : ∀ nn153 : Nat, nn153 ≤ nn52 → ∀ (tl154 : eL) (y157 : Int) (y158 : Int) (y159 : Int) (y160 : Int) (w155 : eW), mq w w155 → e_Pn 20 elay ecode eI nn153 d 328 (159, (0, (1, 275)) :: (1, (0, y157)) :: (2, (0, y158)) :: (3, (0, y159)) :: (4, (0, y160)) :: tl154, [], w155) (fun r w' => r = [] ∧ mq w w') := by
                                intro nn153
                                induction nn153 with
                                | zero => intro _ tl154 y157 y158 y159 y160 w155 _; exact e_Pn.zero
                                | succ nn153 ih152 =>
                                  intro hnnn153 tl154 y157 y158 y159 y160 w155 q156
                                  refine e_Pn.runS (t' := (163, (0, (1, 275)) :: (1, (0, y157)) :: (2, (0, y158)) :: (3, (0, y159)) :: (4, (0, y160)) :: tl154, [(0, y158), (1, 357)], w155)) eAlk 1 rfl ?_
                                  refine e_Pn.SU eAlk g_scU rfl (fun z161 => ?_)
                                  refine e_Pn.run (t' := (168, (0, (1, 275)) :: (1, (0, y157)) :: (2, (0, y158)) :: (3, (0, y159)) :: (4, (0, y160)) :: tl154, [(0, 32), (0, z161)], w155)) eAlk 1 rfl ?_
                                  refine e_Pn.if2 eAlk rfl (fun h162 => ?_) (fun h162 => ?_)
                                  · show e_Pn 20 elay ecode eI nn153 d 328 (177, (0, (1, 275)) :: (1, (0, y157)) :: (2, (0, y158)) :: (3, (0, y159)) :: (4, (0, y160)) :: tl154, [], w155) _
                                    refine e_Pn.incU eAlk rfl rfl (fun z163 => ?_)
                                    show e_Pn 20 elay ecode eI nn153 d 328 (180, (2, (0, z163)) :: (0, (1, 275)) :: (1, (0, y157)) :: (3, (0, y159)) :: (4, (0, y160)) :: List.filter (e_flt 0 2) tl154, [], w155) _
                                    refine e_Pn.incU eAlk rfl rfl (fun z164 => ?_)
                                    show e_Pn 20 elay ecode eI nn153 d 328 (183, (3, (0, z164)) :: (2, (0, z163)) :: (0, (1, 275)) :: (1, (0, y157)) :: (4, (0, y160)) :: List.filter (e_flt 0 3) (List.filter (e_flt 0 2) tl154), [], w155) _
                                    refine e_Pn.run (t' := (62, (3, (0, z164)) :: (2, (0, z163)) :: (0, (1, 275)) :: (1, (0, y157)) :: (4, (0, y160)) :: List.filter (e_flt 0 3) (List.filter (e_flt 0 2) tl154), [], w155)) eAlk 1 rfl ?_
                                    exact e_Pn.ord eAlk [0, 1, 2, 3] rfl rfl ((ih40 (by omega) _ y157 z163 z164 w155 q156).le (by omega))
                                  · show e_Pn 20 elay ecode eI nn153 d 328 (171, (0, (1, 275)) :: (1, (0, y157)) :: (2, (0, y158)) :: (3, (0, y159)) :: (4, (0, y160)) :: tl154, [], w155) _
                                    refine e_Pn.incU eAlk rfl rfl (fun z165 => ?_)
                                    show e_Pn 20 elay ecode eI nn153 d 328 (174, (2, (0, z165)) :: (0, (1, 275)) :: (1, (0, y157)) :: (3, (0, y159)) :: (4, (0, y160)) :: List.filter (e_flt 0 2) tl154, [], w155) _
                                    refine e_Pn.run (t' := (159, (2, (0, z165)) :: (0, (1, 275)) :: (1, (0, y157)) :: (3, (0, y159)) :: (4, (0, y160)) :: List.filter (e_flt 0 2) tl154, [], w155)) eAlk 1 rfl ?_
                                    exact e_Pn.ord eAlk [0, 1, 2, 3, 4] rfl rfl ((ih152 (by omega) _ y157 z165 y159 y160 w155 q156).le (by omega))
                              exact e_Pn.ord eAlk [0, 1, 2, 3, 4] rfl rfl (hL151 nn52 (Nat.le_refl _) _ y56 y57 y58 y59 w125 q127)
                            · show e_Pn 20 elay ecode eI nn52 d 328 (149, (0, (1, 275)) :: (1, (0, y56)) :: (2, (0, y57)) :: (3, (0, y58)) :: (4, (0, y59)) :: tl53, [], w125) _
                              refine e_Pn.run (t' := (151, (0, (1, 275)) :: (1, (0, y56)) :: (2, (0, y57)) :: (3, (0, y58)) :: (4, (0, y59)) :: tl53, [(0, 4), (1, 275)], w125)) eAlk 2 rfl ?_
                              refine e_Pn.putf eAlk rfl rfl ?_
                              generalize hw166 : e_up w125 275 84 4 = w166
                              have q167 : mq w w166 := mq.upF q127 hw166 (by decide) (by decide +kernel)
                              refine e_Pn.run (t' := (156, (0, (1, 275)) :: (1, (0, y56)) :: (2, (0, y57)) :: (3, (0, y58)) :: (4, (0, y59)) :: tl53, [(0, y58), (1, 275)], w166)) eAlk 2 rfl ?_
                              refine e_Pn.putf eAlk rfl rfl ?_
                              generalize hw168 : e_up w166 275 85 y58 = w168
                              have q169 : mq w w168 := mq.upF q167 hw168 (by decide) (by decide +kernel)
                              have hL170 : ∀ nn172 : Nat, nn172 ≤ nn52 → ∀ (tl173 : eL) (y176 : Int) (y177 : Int) (y178 : Int) (y179 : Int) (w174 : eW), mq w w174 → e_Pn 20 elay ecode eI nn172 d 328 (159, (0, (1, 275)) :: (1, (0, y176)) :: (2, (0, y177)) :: (3, (0, y178)) :: (4, (0, y179)) :: tl173, [], w174) (fun r w' => r = [] ∧ mq w w') := by
                                intro nn172
                                induction nn172 with
                                | zero => intro _ tl173 y176 y177 y178 y179 w174 _; exact e_Pn.zero
                                | succ nn172 ih171 =>
                                  intro hnnn172 tl173 y176 y177 y178 y179 w174 q175
                                  refine e_Pn.runS (t' := (163, (0, (1, 275)) :: (1, (0, y176)) :: (2, (0, y177)) :: (3, (0, y178)) :: (4, (0, y179)) :: tl173, [(0, y177), (1, 357)], w174)) eAlk 1 rfl ?_
                                  refine e_Pn.SU eAlk g_scU rfl (fun z180 => ?_)
                                  refine e_Pn.run (t' := (168, (0, (1, 275)) :: (1, (0, y176)) :: (2, (0, y177)) :: (3, (0, y178)) :: (4, (0, y179)) :: tl173, [(0, 32), (0, z180)], w174)) eAlk 1 rfl ?_
                                  refine e_Pn.if2 eAlk rfl (fun h181 => ?_) (fun h181 => ?_)
                                  · show e_Pn 20 elay ecode eI nn172 d 328 (177, (0, (1, 275)) :: (1, (0, y176)) :: (2, (0, y177)) :: (3, (0, y178)) :: (4, (0, y179)) :: tl173, [], w174) _
                                    refine e_Pn.incU eAlk rfl rfl (fun z182 => ?_)
                                    show e_Pn 20 elay ecode eI nn172 d 328 (180, (2, (0, z182)) :: (0, (1, 275)) :: (1, (0, y176)) :: (3, (0, y178)) :: (4, (0, y179)) :: List.filter (e_flt 0 2) tl173, [], w174) _
                                    refine e_Pn.incU eAlk rfl rfl (fun z183 => ?_)
                                    show e_Pn 20 elay ecode eI nn172 d 328 (183, (3, (0, z183)) :: (2, (0, z182)) :: (0, (1, 275)) :: (1, (0, y176)) :: (4, (0, y179)) :: List.filter (e_flt 0 3) (List.filter (e_flt 0 2) tl173), [], w174) _
                                    refine e_Pn.run (t' := (62, (3, (0, z183)) :: (2, (0, z182)) :: (0, (1, 275)) :: (1, (0, y176)) :: (4, (0, y179)) :: List.filter (e_flt 0 3) (List.filter (e_flt 0 2) tl173), [], w174)) eAlk 1 rfl ?_
                                    exact e_Pn.ord eAlk [0, 1, 2, 3] rfl rfl ((ih40 (by omega) _ y176 z182 z183 w174 q175).le (by omega))
                                  · show e_Pn 20 elay ecode eI nn172 d 328 (171, (0, (1, 275)) :: (1, (0, y176)) :: (2, (0, y177)) :: (3, (0, y178)) :: (4, (0, y179)) :: tl173, [], w174) _
                                    refine e_Pn.incU eAlk rfl rfl (fun z184 => ?_)
                                    show e_Pn 20 elay ecode eI nn172 d 328 (174, (2, (0, z184)) :: (0, (1, 275)) :: (1, (0, y176)) :: (3, (0, y178)) :: (4, (0, y179)) :: List.filter (e_flt 0 2) tl173, [], w174) _
                                    refine e_Pn.run (t' := (159, (2, (0, z184)) :: (0, (1, 275)) :: (1, (0, y176)) :: (3, (0, y178)) :: (4, (0, y179)) :: List.filter (e_flt 0 2) tl173, [], w174)) eAlk 1 rfl ?_
                                    exact e_Pn.ord eAlk [0, 1, 2, 3, 4] rfl rfl ((ih171 (by omega) _ y176 z184 y178 y179 w174 q175).le (by omega))
                              exact e_Pn.ord eAlk [0, 1, 2, 3, 4] rfl rfl (hL170 nn52 (Nat.le_refl _) _ y56 y57 y58 y59 w168 q169)
                        · show e_Pn 20 elay ecode eI nn52 d 328 (114, (0, (1, 275)) :: (1, (0, y56)) :: (2, (0, y57)) :: (3, (0, y58)) :: (4, (0, y59)) :: tl53, [], w125) _
                          refine e_Pn.incU eAlk rfl rfl (fun z185 => ?_)
                          show e_Pn 20 elay ecode eI nn52 d 328 (117, (4, (0, z185)) :: (0, (1, 275)) :: (1, (0, y56)) :: (2, (0, y57)) :: (3, (0, y58)) :: List.filter (e_flt 0 4) tl53, [], w125) _
                          refine e_Pn.run (t' := (75, (4, (0, z185)) :: (0, (1, 275)) :: (1, (0, y56)) :: (2, (0, y57)) :: (3, (0, y58)) :: List.filter (e_flt 0 4) tl53, [], w125)) eAlk 1 rfl ?_
                          exact e_Pn.ord eAlk [0, 1, 2, 3, 4] rfl rfl ((ih51 (by omega) _ y56 y57 y58 z185 w125 q127).le (by omega))
                  exact e_Pn.ord eAlk [0, 1, 2, 3, 4] rfl rfl (hL50 nn41 (Nat.le_refl _) _ y45 y46 y47 0 w43 q44)
            exact e_Pn.ord eAlk [0, 1, 2, 3] rfl rfl (hL39 nn4 (Nat.le_refl _) _ y8 0 0 w37 q38)
          · show e_Pn 20 elay ecode eI nn4 d 328 (50, (0, (1, 275)) :: (1, (0, y8)) :: tl5, [(1, 275)], w32) _
            refine e_Pn.run (t' := (55, (0, (1, 275)) :: (1, (0, y8)) :: tl5, [(0, 5), (1, 275)], w32)) eAlk 2 rfl ?_
            refine e_Pn.putf eAlk rfl rfl ?_
            generalize hw186 : e_up w32 275 84 5 = w186
            have q187 : mq w w186 := mq.upF q33 hw186 (by decide) (by decide +kernel)
            refine e_Pn.run (t' := (62, (3, (0, 0)) :: (2, (0, 0)) :: (0, (1, 275)) :: (1, (0, y8)) :: List.filter (e_flt 0 3) (List.filter (e_flt 0 2) tl5), [], w186)) eAlk 4 rfl ?_
            have hL188 : ∀ nn190 : Nat, nn190 ≤ nn4 → ∀ (tl191 : eL) (y194 : Int) (y195 : Int) (y196 : Int) (w192 : eW), mq w w192 → e_Pn 20 elay ecode eI nn190 d 328 (62, (0, (1, 275)) :: (1, (0, y194)) :: (2, (0, y195)) :: (3, (0, y196)) :: tl191, [], w192) (fun r w' => r = [] ∧ mq w w') := by
              intro nn190
              induction nn190 with
              | zero => intro _ tl191 y194 y195 y196 w192 _; exact e_Pn.zero
              | succ nn190 ih189 =>
                intro hnnn190 tl191 y194 y195 y196 w192 q193
                refine e_Pn.runS (t' := (66, (0, (1, 275)) :: (1, (0, y194)) :: (2, (0, y195)) :: (3, (0, y196)) :: tl191, [(1, 357), (0, y195)], w192)) eAlk 1 rfl ?_
                refine e_Pn.SU eAlk g_slU rfl (fun z197 => ?_)
                refine e_Pn.if2 eAlk rfl (fun h198 => ?_) (fun h198 => ?_)
                · show e_Pn 20 elay ecode eI nn190 d 328 (186, (0, (1, 275)) :: (1, (0, y194)) :: (2, (0, y195)) :: (3, (0, y196)) :: tl191, [], w192) _
                  exact e_Pn.ret0 rfl ⟨rfl, q193⟩
                · show e_Pn 20 elay ecode eI nn190 d 328 (72, (0, (1, 275)) :: (1, (0, y194)) :: (2, (0, y195)) :: (3, (0, y196)) :: tl191, [], w192) _
                  refine e_Pn.run (t' := (75, (4, (0, 0)) :: (0, (1, 275)) :: (1, (0, y194)) :: (2, (0, y195)) :: (3, (0, y196)) :: List.filter (e_flt 0 4) tl191, [], w192)) eAlk 2 rfl ?_
                  have hL199 : ∀ nn201 : Nat, nn201 ≤ nn190 → ∀ (tl202 : eL) (y205 : Int) (y206 : Int) (y207 : Int) (y208 : Int) (w203 : eW), mq w w203 → e_Pn 20 elay ecode eI nn201 d 328 (75, (0, (1, 275)) :: (1, (0, y205)) :: (2, (0, y206)) :: (3, (0, y207)) :: (4, (0, y208)) :: tl202, [], w203) (fun r w' => r = [] ∧ mq w w') := by
                    intro nn201
                    induction nn201 with
                    | zero => intro _ tl202 y205 y206 y207 y208 w203 _; exact e_Pn.zero
                    | succ nn201 ih200 =>
                      intro hnnn201 tl202 y205 y206 y207 y208 w203 q204
                      refine e_Pn.runS (t' := (81, (0, (1, 275)) :: (1, (0, y205)) :: (2, (0, y206)) :: (3, (0, y207)) :: (4, (0, y208)) :: tl202, [(0, y208), (0, y206), (1, 357)], w203)) eAlk 2 rfl ?_
                      refine e_Pn.bin0 eAlk rfl (fun z209 hz209 => ?_)
                      refine e_Pn.SU eAlk g_scU rfl (fun z210 => ?_)
                      refine e_Pn.run (t' := (87, (0, (1, 275)) :: (1, (0, y205)) :: (2, (0, y206)) :: (3, (0, y207)) :: (4, (0, y208)) :: tl202, [(0, 32), (0, z210)], w203)) eAlk 1 rfl ?_
                      refine e_Pn.if2 eAlk rfl (fun h211 => ?_) (fun h211 => ?_)
                      · show e_Pn 20 elay ecode eI nn201 d 328 (120, (0, (1, 275)) :: (1, (0, y205)) :: (2, (0, y206)) :: (3, (0, y207)) :: (4, (0, y208)) :: tl202, [], w203) _
                        refine e_Pn.run (t' := (126, (0, (1, 275)) :: (1, (0, y205)) :: (2, (0, y206)) :: (3, (0, y207)) :: (4, (0, y208)) :: tl202, [(0, y208), (0, y206), (1, 357)], w203)) eAlk 3 rfl ?_
                        refine e_Pn.bin0 eAlk rfl (fun z212 hz212 => ?_)
                        refine e_Pn.SU eAlk g_scU rfl (fun z213 => ?_)
                        refine e_Pn.run (t' := (132, (0, (1, 275)) :: (1, (0, y205)) :: (2, (0, y206)) :: (3, (0, y207)) :: (4, (0, y208)) :: tl202, [(0, 32), (0, z213)], w203)) eAlk 1 rfl ?_
                        refine e_Pn.if2 eAlk rfl (fun h214 => ?_) (fun h214 => ?_)
                        · show e_Pn 20 elay ecode eI nn201 d 328 (159, (0, (1, 275)) :: (1, (0, y205)) :: (2, (0, y206)) :: (3, (0, y207)) :: (4, (0, y208)) :: tl202, [], w203) _
                          have hL215 : ∀ nn217 : Nat, nn217 ≤ nn201 → ∀ (tl218 : eL) (y221 : Int) (y222 : Int) (y223 : Int) (y224 : Int) (w219 : eW), mq w w219 → e_Pn 20 elay ecode eI nn217 d 328 (159, (0, (1, 275)) :: (1, (0, y221)) :: (2, (0, y222)) :: (3, (0, y223)) :: (4, (0, y224)) :: tl218, [], w219) (fun r w' => r = [] ∧ mq w w') := by
                            intro nn217
                            induction nn217 with
                            | zero => intro _ tl218 y221 y222 y223 y224 w219 _; exact e_Pn.zero
                            | succ nn217 ih216 =>
                              intro hnnn217 tl218 y221 y222 y223 y224 w219 q220
                              refine e_Pn.runS (t' := (163, (0, (1, 275)) :: (1, (0, y221)) :: (2, (0, y222)) :: (3, (0, y223)) :: (4, (0, y224)) :: tl218, [(0, y222), (1, 357)], w219)) eAlk 1 rfl ?_
                              refine e_Pn.SU eAlk g_scU rfl (fun z225 => ?_)
                              refine e_Pn.run (t' := (168, (0, (1, 275)) :: (1, (0, y221)) :: (2, (0, y222)) :: (3, (0, y223)) :: (4, (0, y224)) :: tl218, [(0, 32), (0, z225)], w219)) eAlk 1 rfl ?_
                              refine e_Pn.if2 eAlk rfl (fun h226 => ?_) (fun h226 => ?_)
                              · show e_Pn 20 elay ecode eI nn217 d 328 (177, (0, (1, 275)) :: (1, (0, y221)) :: (2, (0, y222)) :: (3, (0, y223)) :: (4, (0, y224)) :: tl218, [], w219) _
                                refine e_Pn.incU eAlk rfl rfl (fun z227 => ?_)
                                show e_Pn 20 elay ecode eI nn217 d 328 (180, (2, (0, z227)) :: (0, (1, 275)) :: (1, (0, y221)) :: (3, (0, y223)) :: (4, (0, y224)) :: List.filter (e_flt 0 2) tl218, [], w219) _
                                refine e_Pn.incU eAlk rfl rfl (fun z228 => ?_)
                                show e_Pn 20 elay ecode eI nn217 d 328 (183, (3, (0, z228)) :: (2, (0, z227)) :: (0, (1, 275)) :: (1, (0, y221)) :: (4, (0, y224)) :: List.filter (e_flt 0 3) (List.filter (e_flt 0 2) tl218), [], w219) _
                                refine e_Pn.run (t' := (62, (3, (0, z228)) :: (2, (0, z227)) :: (0, (1, 275)) :: (1, (0, y221)) :: (4, (0, y224)) :: List.filter (e_flt 0 3) (List.filter (e_flt 0 2) tl218), [], w219)) eAlk 1 rfl ?_
                                exact e_Pn.ord eAlk [0, 1, 2, 3] rfl rfl ((ih189 (by omega) _ y221 z227 z228 w219 q220).le (by omega))
                              · show e_Pn 20 elay ecode eI nn217 d 328 (171, (0, (1, 275)) :: (1, (0, y221)) :: (2, (0, y222)) :: (3, (0, y223)) :: (4, (0, y224)) :: tl218, [], w219) _
                                refine e_Pn.incU eAlk rfl rfl (fun z229 => ?_)
                                show e_Pn 20 elay ecode eI nn217 d 328 (174, (2, (0, z229)) :: (0, (1, 275)) :: (1, (0, y221)) :: (3, (0, y223)) :: (4, (0, y224)) :: List.filter (e_flt 0 2) tl218, [], w219) _
                                refine e_Pn.run (t' := (159, (2, (0, z229)) :: (0, (1, 275)) :: (1, (0, y221)) :: (3, (0, y223)) :: (4, (0, y224)) :: List.filter (e_flt 0 2) tl218, [], w219)) eAlk 1 rfl ?_
                                exact e_Pn.ord eAlk [0, 1, 2, 3, 4] rfl rfl ((ih216 (by omega) _ y221 z229 y223 y224 w219 q220).le (by omega))
                          exact e_Pn.ord eAlk [0, 1, 2, 3, 4] rfl rfl (hL215 nn201 (Nat.le_refl _) _ y205 y206 y207 y208 w203 q204)
                        · show e_Pn 20 elay ecode eI nn201 d 328 (135, (0, (1, 275)) :: (1, (0, y205)) :: (2, (0, y206)) :: (3, (0, y207)) :: (4, (0, y208)) :: tl202, [], w203) _
                          refine e_Pn.run (t' := (138, (0, (1, 275)) :: (1, (0, y205)) :: (2, (0, y206)) :: (3, (0, y207)) :: (4, (0, y208)) :: tl202, [(1, 275), (0, y208)], w203)) eAlk 2 rfl ?_
                          refine e_Pn.getf (z := w203 275 87) eAlk rfl rfl rfl (fun b230 => ?_)
                          refine e_Pn.run (t' := (142, (0, (1, 275)) :: (1, (0, y205)) :: (2, (0, y206)) :: (3, (0, y207)) :: (4, (0, y208)) :: tl202, [(1, 275), (0, w203 275 87), (0, y208)], w203)) eAlk 1 rfl ?_
                          refine e_Pn.getf (z := w203 275 86) eAlk rfl rfl rfl (fun b231 => ?_)
                          refine e_Pn.bin0 eAlk rfl (fun z232 hz232 => ?_)
                          refine e_Pn.if2 eAlk rfl (fun h233 => ?_) (fun h233 => ?_)
                          · show e_Pn 20 elay ecode eI nn201 d 328 (159, (0, (1, 275)) :: (1, (0, y205)) :: (2, (0, y206)) :: (3, (0, y207)) :: (4, (0, y208)) :: tl202, [], w203) _
                            have hL234 : ∀ nn236 : Nat, nn236 ≤ nn201 → ∀ (tl237 : eL) (y240 : Int) (y241 : Int) (y242 : Int) (y243 : Int) (w238 : eW), mq w w238 → e_Pn 20 elay ecode eI nn236 d 328 (159, (0, (1, 275)) :: (1, (0, y240)) :: (2, (0, y241)) :: (3, (0, y242)) :: (4, (0, y243)) :: tl237, [], w238) (fun r w' => r = [] ∧ mq w w') := by
                              intro nn236
                              induction nn236 with
                              | zero => intro _ tl237 y240 y241 y242 y243 w238 _; exact e_Pn.zero
                              | succ nn236 ih235 =>
                                intro hnnn236 tl237 y240 y241 y242 y243 w238 q239
                                refine e_Pn.runS (t' := (163, (0, (1, 275)) :: (1, (0, y240)) :: (2, (0, y241)) :: (3, (0, y242)) :: (4, (0, y243)) :: tl237, [(0, y241), (1, 357)], w238)) eAlk 1 rfl ?_
                                refine e_Pn.SU eAlk g_scU rfl (fun z244 => ?_)
                                refine e_Pn.run (t' := (168, (0, (1, 275)) :: (1, (0, y240)) :: (2, (0, y241)) :: (3, (0, y242)) :: (4, (0, y243)) :: tl237, [(0, 32), (0, z244)], w238)) eAlk 1 rfl ?_
                                refine e_Pn.if2 eAlk rfl (fun h245 => ?_) (fun h245 => ?_)
                                · show e_Pn 20 elay ecode eI nn236 d 328 (177, (0, (1, 275)) :: (1, (0, y240)) :: (2, (0, y241)) :: (3, (0, y242)) :: (4, (0, y243)) :: tl237, [], w238) _
                                  refine e_Pn.incU eAlk rfl rfl (fun z246 => ?_)
                                  show e_Pn 20 elay ecode eI nn236 d 328 (180, (2, (0, z246)) :: (0, (1, 275)) :: (1, (0, y240)) :: (3, (0, y242)) :: (4, (0, y243)) :: List.filter (e_flt 0 2) tl237, [], w238) _
                                  refine e_Pn.incU eAlk rfl rfl (fun z247 => ?_)
                                  show e_Pn 20 elay ecode eI nn236 d 328 (183, (3, (0, z247)) :: (2, (0, z246)) :: (0, (1, 275)) :: (1, (0, y240)) :: (4, (0, y243)) :: List.filter (e_flt 0 3) (List.filter (e_flt 0 2) tl237), [], w238) _
                                  refine e_Pn.run (t' := (62, (3, (0, z247)) :: (2, (0, z246)) :: (0, (1, 275)) :: (1, (0, y240)) :: (4, (0, y243)) :: List.filter (e_flt 0 3) (List.filter (e_flt 0 2) tl237), [], w238)) eAlk 1 rfl ?_
                                  exact e_Pn.ord eAlk [0, 1, 2, 3] rfl rfl ((ih189 (by omega) _ y240 z246 z247 w238 q239).le (by omega))
                                · show e_Pn 20 elay ecode eI nn236 d 328 (171, (0, (1, 275)) :: (1, (0, y240)) :: (2, (0, y241)) :: (3, (0, y242)) :: (4, (0, y243)) :: tl237, [], w238) _
                                  refine e_Pn.incU eAlk rfl rfl (fun z248 => ?_)
                                  show e_Pn 20 elay ecode eI nn236 d 328 (174, (2, (0, z248)) :: (0, (1, 275)) :: (1, (0, y240)) :: (3, (0, y242)) :: (4, (0, y243)) :: List.filter (e_flt 0 2) tl237, [], w238) _
                                  refine e_Pn.run (t' := (159, (2, (0, z248)) :: (0, (1, 275)) :: (1, (0, y240)) :: (3, (0, y242)) :: (4, (0, y243)) :: List.filter (e_flt 0 2) tl237, [], w238)) eAlk 1 rfl ?_
                                  exact e_Pn.ord eAlk [0, 1, 2, 3, 4] rfl rfl ((ih235 (by omega) _ y240 z248 y242 y243 w238 q239).le (by omega))
                            exact e_Pn.ord eAlk [0, 1, 2, 3, 4] rfl rfl (hL234 nn201 (Nat.le_refl _) _ y205 y206 y207 y208 w203 q204)
                          · show e_Pn 20 elay ecode eI nn201 d 328 (149, (0, (1, 275)) :: (1, (0, y205)) :: (2, (0, y206)) :: (3, (0, y207)) :: (4, (0, y208)) :: tl202, [], w203) _
                            refine e_Pn.run (t' := (151, (0, (1, 275)) :: (1, (0, y205)) :: (2, (0, y206)) :: (3, (0, y207)) :: (4, (0, y208)) :: tl202, [(0, 4), (1, 275)], w203)) eAlk 2 rfl ?_
                            refine e_Pn.putf eAlk rfl rfl ?_
                            generalize hw249 : e_up w203 275 84 4 = w249
                            have q250 : mq w w249 := mq.upF q204 hw249 (by decide) (by decide +kernel)
                            refine e_Pn.run (t' := (156, (0, (1, 275)) :: (1, (0, y205)) :: (2, (0, y206)) :: (3, (0, y207)) :: (4, (0, y208)) :: tl202, [(0, y207), (1, 275)], w249)) eAlk 2 rfl ?_
                            refine e_Pn.putf eAlk rfl rfl ?_
                            generalize hw251 : e_up w249 275 85 y207 = w251
                            have q252 : mq w w251 := mq.upF q250 hw251 (by decide) (by decide +kernel)
                            have hL253 : ∀ nn255 : Nat, nn255 ≤ nn201 → ∀ (tl256 : eL) (y259 : Int) (y260 : Int) (y261 : Int) (y262 : Int) (w257 : eW), mq w w257 → e_Pn 20 elay ecode eI nn255 d 328 (159, (0, (1, 275)) :: (1, (0, y259)) :: (2, (0, y260)) :: (3, (0, y261)) :: (4, (0, y262)) :: tl256, [], w257) (fun r w' => r = [] ∧ mq w w') := by
                              intro nn255
                              induction nn255 with
                              | zero => intro _ tl256 y259 y260 y261 y262 w257 _; exact e_Pn.zero
                              | succ nn255 ih254 =>
                                intro hnnn255 tl256 y259 y260 y261 y262 w257 q258
                                refine e_Pn.runS (t' := (163, (0, (1, 275)) :: (1, (0, y259)) :: (2, (0, y260)) :: (3, (0, y261)) :: (4, (0, y262)) :: tl256, [(0, y260), (1, 357)], w257)) eAlk 1 rfl ?_
                                refine e_Pn.SU eAlk g_scU rfl (fun z263 => ?_)
                                refine e_Pn.run (t' := (168, (0, (1, 275)) :: (1, (0, y259)) :: (2, (0, y260)) :: (3, (0, y261)) :: (4, (0, y262)) :: tl256, [(0, 32), (0, z263)], w257)) eAlk 1 rfl ?_
                                refine e_Pn.if2 eAlk rfl (fun h264 => ?_) (fun h264 => ?_)
                                · show e_Pn 20 elay ecode eI nn255 d 328 (177, (0, (1, 275)) :: (1, (0, y259)) :: (2, (0, y260)) :: (3, (0, y261)) :: (4, (0, y262)) :: tl256, [], w257) _
                                  refine e_Pn.incU eAlk rfl rfl (fun z265 => ?_)
                                  show e_Pn 20 elay ecode eI nn255 d 328 (180, (2, (0, z265)) :: (0, (1, 275)) :: (1, (0, y259)) :: (3, (0, y261)) :: (4, (0, y262)) :: List.filter (e_flt 0 2) tl256, [], w257) _
                                  refine e_Pn.incU eAlk rfl rfl (fun z266 => ?_)
                                  show e_Pn 20 elay ecode eI nn255 d 328 (183, (3, (0, z266)) :: (2, (0, z265)) :: (0, (1, 275)) :: (1, (0, y259)) :: (4, (0, y262)) :: List.filter (e_flt 0 3) (List.filter (e_flt 0 2) tl256), [], w257) _
                                  refine e_Pn.run (t' := (62, (3, (0, z266)) :: (2, (0, z265)) :: (0, (1, 275)) :: (1, (0, y259)) :: (4, (0, y262)) :: List.filter (e_flt 0 3) (List.filter (e_flt 0 2) tl256), [], w257)) eAlk 1 rfl ?_
                                  exact e_Pn.ord eAlk [0, 1, 2, 3] rfl rfl ((ih189 (by omega) _ y259 z265 z266 w257 q258).le (by omega))
                                · show e_Pn 20 elay ecode eI nn255 d 328 (171, (0, (1, 275)) :: (1, (0, y259)) :: (2, (0, y260)) :: (3, (0, y261)) :: (4, (0, y262)) :: tl256, [], w257) _
                                  refine e_Pn.incU eAlk rfl rfl (fun z267 => ?_)
                                  show e_Pn 20 elay ecode eI nn255 d 328 (174, (2, (0, z267)) :: (0, (1, 275)) :: (1, (0, y259)) :: (3, (0, y261)) :: (4, (0, y262)) :: List.filter (e_flt 0 2) tl256, [], w257) _
                                  refine e_Pn.run (t' := (159, (2, (0, z267)) :: (0, (1, 275)) :: (1, (0, y259)) :: (3, (0, y261)) :: (4, (0, y262)) :: List.filter (e_flt 0 2) tl256, [], w257)) eAlk 1 rfl ?_
                                  exact e_Pn.ord eAlk [0, 1, 2, 3, 4] rfl rfl ((ih254 (by omega) _ y259 z267 y261 y262 w257 q258).le (by omega))
                            exact e_Pn.ord eAlk [0, 1, 2, 3, 4] rfl rfl (hL253 nn201 (Nat.le_refl _) _ y205 y206 y207 y208 w251 q252)
                      · show e_Pn 20 elay ecode eI nn201 d 328 (90, (0, (1, 275)) :: (1, (0, y205)) :: (2, (0, y206)) :: (3, (0, y207)) :: (4, (0, y208)) :: tl202, [], w203) _
                        refine e_Pn.run (t' := (96, (0, (1, 275)) :: (1, (0, y205)) :: (2, (0, y206)) :: (3, (0, y207)) :: (4, (0, y208)) :: tl202, [(0, y208), (0, y206), (1, 357)], w203)) eAlk 3 rfl ?_
                        refine e_Pn.bin0 eAlk rfl (fun z268 hz268 => ?_)
                        refine e_Pn.SU eAlk g_scU rfl (fun z269 => ?_)
                        refine e_Pn.run (t' := (102, (0, (1, 275)) :: (1, (0, y205)) :: (2, (0, y206)) :: (3, (0, y207)) :: (4, (0, y208)) :: tl202, [(1, 275), (1, 275), (0, z269)], w203)) eAlk 2 rfl ?_
                        refine e_Pn.getf (z := w203 275 86) eAlk rfl rfl rfl (fun b270 => ?_)
                        refine e_Pn.run (t' := (107, (0, (1, 275)) :: (1, (0, y205)) :: (2, (0, y206)) :: (3, (0, y207)) :: (4, (0, y208)) :: tl202, [(0, y208), (0, w203 275 86), (1, 275), (0, z269)], w203)) eAlk 1 rfl ?_
                        refine e_Pn.bin0 eAlk rfl (fun z271 hz271 => ?_)
                        refine e_Pn.callA rfl (fun n9 d9 => u_326 (q204.rf hR)) (fun r273 w274 h272 => ?_)
                        obtain ⟨⟨z275, rfl⟩, h272⟩ := h272
                        have q276 := q204.tr h272
                        show e_Pn 20 elay ecode eI nn201 d 328 (111, (0, (1, 275)) :: (1, (0, y205)) :: (2, (0, y206)) :: (3, (0, y207)) :: (4, (0, y208)) :: tl202, [(0, z275), (0, z269)], w274) _
                        refine e_Pn.if2 eAlk rfl (fun h277 => ?_) (fun h277 => ?_)
                        · show e_Pn 20 elay ecode eI nn201 d 328 (120, (0, (1, 275)) :: (1, (0, y205)) :: (2, (0, y206)) :: (3, (0, y207)) :: (4, (0, y208)) :: tl202, [], w274) _
                          refine e_Pn.run (t' := (126, (0, (1, 275)) :: (1, (0, y205)) :: (2, (0, y206)) :: (3, (0, y207)) :: (4, (0, y208)) :: tl202, [(0, y208), (0, y206), (1, 357)], w274)) eAlk 3 rfl ?_
                          refine e_Pn.bin0 eAlk rfl (fun z278 hz278 => ?_)
                          refine e_Pn.SU eAlk g_scU rfl (fun z279 => ?_)
                          refine e_Pn.run (t' := (132, (0, (1, 275)) :: (1, (0, y205)) :: (2, (0, y206)) :: (3, (0, y207)) :: (4, (0, y208)) :: tl202, [(0, 32), (0, z279)], w274)) eAlk 1 rfl ?_
                          refine e_Pn.if2 eAlk rfl (fun h280 => ?_) (fun h280 => ?_)
                          · show e_Pn 20 elay ecode eI nn201 d 328 (159, (0, (1, 275)) :: (1, (0, y205)) :: (2, (0, y206)) :: (3, (0, y207)) :: (4, (0, y208)) :: tl202, [], w274) _
                            have hL281 : ∀ nn283 : Nat, nn283 ≤ nn201 → ∀ (tl284 : eL) (y287 : Int) (y288 : Int) (y289 : Int) (y290 : Int) (w285 : eW), mq w w285 → e_Pn 20 elay ecode eI nn283 d 328 (159, (0, (1, 275)) :: (1, (0, y287)) :: (2, (0, y288)) :: (3, (0, y289)) :: (4, (0, y290)) :: tl284, [], w285) (fun r w' => r = [] ∧ mq w w') := by
                              intro nn283
                              induction nn283 with
                              | zero => intro _ tl284 y287 y288 y289 y290 w285 _; exact e_Pn.zero
                              | succ nn283 ih282 =>
                                intro hnnn283 tl284 y287 y288 y289 y290 w285 q286
                                refine e_Pn.runS (t' := (163, (0, (1, 275)) :: (1, (0, y287)) :: (2, (0, y288)) :: (3, (0, y289)) :: (4, (0, y290)) :: tl284, [(0, y288), (1, 357)], w285)) eAlk 1 rfl ?_
                                refine e_Pn.SU eAlk g_scU rfl (fun z291 => ?_)
                                refine e_Pn.run (t' := (168, (0, (1, 275)) :: (1, (0, y287)) :: (2, (0, y288)) :: (3, (0, y289)) :: (4, (0, y290)) :: tl284, [(0, 32), (0, z291)], w285)) eAlk 1 rfl ?_
                                refine e_Pn.if2 eAlk rfl (fun h292 => ?_) (fun h292 => ?_)
                                · show e_Pn 20 elay ecode eI nn283 d 328 (177, (0, (1, 275)) :: (1, (0, y287)) :: (2, (0, y288)) :: (3, (0, y289)) :: (4, (0, y290)) :: tl284, [], w285) _
                                  refine e_Pn.incU eAlk rfl rfl (fun z293 => ?_)
                                  show e_Pn 20 elay ecode eI nn283 d 328 (180, (2, (0, z293)) :: (0, (1, 275)) :: (1, (0, y287)) :: (3, (0, y289)) :: (4, (0, y290)) :: List.filter (e_flt 0 2) tl284, [], w285) _
                                  refine e_Pn.incU eAlk rfl rfl (fun z294 => ?_)
                                  show e_Pn 20 elay ecode eI nn283 d 328 (183, (3, (0, z294)) :: (2, (0, z293)) :: (0, (1, 275)) :: (1, (0, y287)) :: (4, (0, y290)) :: List.filter (e_flt 0 3) (List.filter (e_flt 0 2) tl284), [], w285) _
                                  refine e_Pn.run (t' := (62, (3, (0, z294)) :: (2, (0, z293)) :: (0, (1, 275)) :: (1, (0, y287)) :: (4, (0, y290)) :: List.filter (e_flt 0 3) (List.filter (e_flt 0 2) tl284), [], w285)) eAlk 1 rfl ?_
                                  exact e_Pn.ord eAlk [0, 1, 2, 3] rfl rfl ((ih189 (by omega) _ y287 z293 z294 w285 q286).le (by omega))
                                · show e_Pn 20 elay ecode eI nn283 d 328 (171, (0, (1, 275)) :: (1, (0, y287)) :: (2, (0, y288)) :: (3, (0, y289)) :: (4, (0, y290)) :: tl284, [], w285) _
                                  refine e_Pn.incU eAlk rfl rfl (fun z295 => ?_)
                                  show e_Pn 20 elay ecode eI nn283 d 328 (174, (2, (0, z295)) :: (0, (1, 275)) :: (1, (0, y287)) :: (3, (0, y289)) :: (4, (0, y290)) :: List.filter (e_flt 0 2) tl284, [], w285) _
                                  refine e_Pn.run (t' := (159, (2, (0, z295)) :: (0, (1, 275)) :: (1, (0, y287)) :: (3, (0, y289)) :: (4, (0, y290)) :: List.filter (e_flt 0 2) tl284, [], w285)) eAlk 1 rfl ?_
                                  exact e_Pn.ord eAlk [0, 1, 2, 3, 4] rfl rfl ((ih282 (by omega) _ y287 z295 y289 y290 w285 q286).le (by omega))
                            exact e_Pn.ord eAlk [0, 1, 2, 3, 4] rfl rfl (hL281 nn201 (Nat.le_refl _) _ y205 y206 y207 y208 w274 q276)
                          · show e_Pn 20 elay ecode eI nn201 d 328 (135, (0, (1, 275)) :: (1, (0, y205)) :: (2, (0, y206)) :: (3, (0, y207)) :: (4, (0, y208)) :: tl202, [], w274) _
                            refine e_Pn.run (t' := (138, (0, (1, 275)) :: (1, (0, y205)) :: (2, (0, y206)) :: (3, (0, y207)) :: (4, (0, y208)) :: tl202, [(1, 275), (0, y208)], w274)) eAlk 2 rfl ?_
                            refine e_Pn.getf (z := w274 275 87) eAlk rfl rfl rfl (fun b296 => ?_)
                            refine e_Pn.run (t' := (142, (0, (1, 275)) :: (1, (0, y205)) :: (2, (0, y206)) :: (3, (0, y207)) :: (4, (0, y208)) :: tl202, [(1, 275), (0, w274 275 87), (0, y208)], w274)) eAlk 1 rfl ?_
                            refine e_Pn.getf (z := w274 275 86) eAlk rfl rfl rfl (fun b297 => ?_)
                            refine e_Pn.bin0 eAlk rfl (fun z298 hz298 => ?_)
                            refine e_Pn.if2 eAlk rfl (fun h299 => ?_) (fun h299 => ?_)
                            · show e_Pn 20 elay ecode eI nn201 d 328 (159, (0, (1, 275)) :: (1, (0, y205)) :: (2, (0, y206)) :: (3, (0, y207)) :: (4, (0, y208)) :: tl202, [], w274) _
                              have hL300 : ∀ nn302 : Nat, nn302 ≤ nn201 → ∀ (tl303 : eL) (y306 : Int) (y307 : Int) (y308 : Int) (y309 : Int) (w304 : eW), mq w w304 → e_Pn 20 elay ecode eI nn302 d 328 (159, (0, (1, 275)) :: (1, (0, y306)) :: (2, (0, y307)) :: (3, (0, y308)) :: (4, (0, y309)) :: tl303, [], w304) (fun r w' => r = [] ∧ mq w w') := by
                                intro nn302
                                induction nn302 with
                                | zero => intro _ tl303 y306 y307 y308 y309 w304 _; exact e_Pn.zero
                                | succ nn302 ih301 =>
                                  intro hnnn302 tl303 y306 y307 y308 y309 w304 q305
                                  refine e_Pn.runS (t' := (163, (0, (1, 275)) :: (1, (0, y306)) :: (2, (0, y307)) :: (3, (0, y308)) :: (4, (0, y309)) :: tl303, [(0, y307), (1, 357)], w304)) eAlk 1 rfl ?_
                                  refine e_Pn.SU eAlk g_scU rfl (fun z310 => ?_)
                                  refine e_Pn.run (t' := (168, (0, (1, 275)) :: (1, (0, y306)) :: (2, (0, y307)) :: (3, (0, y308)) :: (4, (0, y309)) :: tl303, [(0, 32), (0, z310)], w304)) eAlk 1 rfl ?_
                                  refine e_Pn.if2 eAlk rfl (fun h311 => ?_) (fun h311 => ?_)
                                  · show e_Pn 20 elay ecode eI nn302 d 328 (177, (0, (1, 275)) :: (1, (0, y306)) :: (2, (0, y307)) :: (3, (0, y308)) :: (4, (0, y309)) :: tl303, [], w304) _
                                    refine e_Pn.incU eAlk rfl rfl (fun z312 => ?_)
                                    show e_Pn 20 elay ecode eI nn302 d 328 (180, (2, (0, z312)) :: (0, (1, 275)) :: (1, (0, y306)) :: (3, (0, y308)) :: (4, (0, y309)) :: List.filter (e_flt 0 2) tl303, [], w304) _
                                    refine e_Pn.incU eAlk rfl rfl (fun z313 => ?_)
                                    show e_Pn 20 elay ecode eI nn302 d 328 (183, (3, (0, z313)) :: (2, (0, z312)) :: (0, (1, 275)) :: (1, (0, y306)) :: (4, (0, y309)) :: List.filter (e_flt 0 3) (List.filter (e_flt 0 2) tl303), [], w304) _
                                    refine e_Pn.run (t' := (62, (3, (0, z313)) :: (2, (0, z312)) :: (0, (1, 275)) :: (1, (0, y306)) :: (4, (0, y309)) :: List.filter (e_flt 0 3) (List.filter (e_flt 0 2) tl303), [], w304)) eAlk 1 rfl ?_
                                    exact e_Pn.ord eAlk [0, 1, 2, 3] rfl rfl ((ih189 (by omega) _ y306 z312 z313 w304 q305).le (by omega))
                                  · show e_Pn 20 elay ecode eI nn302 d 328 (171, (0, (1, 275)) :: (1, (0, y306)) :: (2, (0, y307)) :: (3, (0, y308)) :: (4, (0, y309)) :: tl303, [], w304) _
                                    refine e_Pn.incU eAlk rfl rfl (fun z314 => ?_)
                                    show e_Pn 20 elay ecode eI nn302 d 328 (174, (2, (0, z314)) :: (0, (1, 275)) :: (1, (0, y306)) :: (3, (0, y308)) :: (4, (0, y309)) :: List.filter (e_flt 0 2) tl303, [], w304) _
                                    refine e_Pn.run (t' := (159, (2, (0, z314)) :: (0, (1, 275)) :: (1, (0, y306)) :: (3, (0, y308)) :: (4, (0, y309)) :: List.filter (e_flt 0 2) tl303, [], w304)) eAlk 1 rfl ?_
                                    exact e_Pn.ord eAlk [0, 1, 2, 3, 4] rfl rfl ((ih301 (by omega) _ y306 z314 y308 y309 w304 q305).le (by omega))
                              exact e_Pn.ord eAlk [0, 1, 2, 3, 4] rfl rfl (hL300 nn201 (Nat.le_refl _) _ y205 y206 y207 y208 w274 q276)
                            · show e_Pn 20 elay ecode eI nn201 d 328 (149, (0, (1, 275)) :: (1, (0, y205)) :: (2, (0, y206)) :: (3, (0, y207)) :: (4, (0, y208)) :: tl202, [], w274) _
                              refine e_Pn.run (t' := (151, (0, (1, 275)) :: (1, (0, y205)) :: (2, (0, y206)) :: (3, (0, y207)) :: (4, (0, y208)) :: tl202, [(0, 4), (1, 275)], w274)) eAlk 2 rfl ?_
                              refine e_Pn.putf eAlk rfl rfl ?_
                              generalize hw315 : e_up w274 275 84 4 = w315
                              have q316 : mq w w315 := mq.upF q276 hw315 (by decide) (by decide +kernel)
                              refine e_Pn.run (t' := (156, (0, (1, 275)) :: (1, (0, y205)) :: (2, (0, y206)) :: (3, (0, y207)) :: (4, (0, y208)) :: tl202, [(0, y207), (1, 275)], w315)) eAlk 2 rfl ?_
                              refine e_Pn.putf eAlk rfl rfl ?_
                              generalize hw317 : e_up w315 275 85 y207 = w317
                              have q318 : mq w w317 := mq.upF q316 hw317 (by decide) (by decide +kernel)
                              have hL319 : ∀ nn321 : Nat, nn321 ≤ nn201 → ∀ (tl322 : eL) (y325 : Int) (y326 : Int) (y327 : Int) (y328 : Int) (w323 : eW), mq w w323 → e_Pn 20 elay ecode eI nn321 d 328 (159, (0, (1, 275)) :: (1, (0, y325)) :: (2, (0, y326)) :: (3, (0, y327)) :: (4, (0, y328)) :: tl322, [], w323) (fun r w' => r = [] ∧ mq w w') := by
                                intro nn321
                                induction nn321 with
                                | zero => intro _ tl322 y325 y326 y327 y328 w323 _; exact e_Pn.zero
                                | succ nn321 ih320 =>
                                  intro hnnn321 tl322 y325 y326 y327 y328 w323 q324
                                  refine e_Pn.runS (t' := (163, (0, (1, 275)) :: (1, (0, y325)) :: (2, (0, y326)) :: (3, (0, y327)) :: (4, (0, y328)) :: tl322, [(0, y326), (1, 357)], w323)) eAlk 1 rfl ?_
                                  refine e_Pn.SU eAlk g_scU rfl (fun z329 => ?_)
                                  refine e_Pn.run (t' := (168, (0, (1, 275)) :: (1, (0, y325)) :: (2, (0, y326)) :: (3, (0, y327)) :: (4, (0, y328)) :: tl322, [(0, 32), (0, z329)], w323)) eAlk 1 rfl ?_
                                  refine e_Pn.if2 eAlk rfl (fun h330 => ?_) (fun h330 => ?_)
                                  · show e_Pn 20 elay ecode eI nn321 d 328 (177, (0, (1, 275)) :: (1, (0, y325)) :: (2, (0, y326)) :: (3, (0, y327)) :: (4, (0, y328)) :: tl322, [], w323) _
                                    refine e_Pn.incU eAlk rfl rfl (fun z331 => ?_)
                                    show e_Pn 20 elay ecode eI nn321 d 328 (180, (2, (0, z331)) :: (0, (1, 275)) :: (1, (0, y325)) :: (3, (0, y327)) :: (4, (0, y328)) :: List.filter (e_flt 0 2) tl322, [], w323) _
                                    refine e_Pn.incU eAlk rfl rfl (fun z332 => ?_)
                                    show e_Pn 20 elay ecode eI nn321 d 328 (183, (3, (0, z332)) :: (2, (0, z331)) :: (0, (1, 275)) :: (1, (0, y325)) :: (4, (0, y328)) :: List.filter (e_flt 0 3) (List.filter (e_flt 0 2) tl322), [], w323) _
                                    refine e_Pn.run (t' := (62, (3, (0, z332)) :: (2, (0, z331)) :: (0, (1, 275)) :: (1, (0, y325)) :: (4, (0, y328)) :: List.filter (e_flt 0 3) (List.filter (e_flt 0 2) tl322), [], w323)) eAlk 1 rfl ?_
                                    exact e_Pn.ord eAlk [0, 1, 2, 3] rfl rfl ((ih189 (by omega) _ y325 z331 z332 w323 q324).le (by omega))
                                  · show e_Pn 20 elay ecode eI nn321 d 328 (171, (0, (1, 275)) :: (1, (0, y325)) :: (2, (0, y326)) :: (3, (0, y327)) :: (4, (0, y328)) :: tl322, [], w323) _
                                    refine e_Pn.incU eAlk rfl rfl (fun z333 => ?_)
                                    show e_Pn 20 elay ecode eI nn321 d 328 (174, (2, (0, z333)) :: (0, (1, 275)) :: (1, (0, y325)) :: (3, (0, y327)) :: (4, (0, y328)) :: List.filter (e_flt 0 2) tl322, [], w323) _
                                    refine e_Pn.run (t' := (159, (2, (0, z333)) :: (0, (1, 275)) :: (1, (0, y325)) :: (3, (0, y327)) :: (4, (0, y328)) :: List.filter (e_flt 0 2) tl322, [], w323)) eAlk 1 rfl ?_
                                    exact e_Pn.ord eAlk [0, 1, 2, 3, 4] rfl rfl ((ih320 (by omega) _ y325 z333 y327 y328 w323 q324).le (by omega))
                              exact e_Pn.ord eAlk [0, 1, 2, 3, 4] rfl rfl (hL319 nn201 (Nat.le_refl _) _ y205 y206 y207 y208 w317 q318)
                        · show e_Pn 20 elay ecode eI nn201 d 328 (114, (0, (1, 275)) :: (1, (0, y205)) :: (2, (0, y206)) :: (3, (0, y207)) :: (4, (0, y208)) :: tl202, [], w274) _
                          refine e_Pn.incU eAlk rfl rfl (fun z334 => ?_)
                          show e_Pn 20 elay ecode eI nn201 d 328 (117, (4, (0, z334)) :: (0, (1, 275)) :: (1, (0, y205)) :: (2, (0, y206)) :: (3, (0, y207)) :: List.filter (e_flt 0 4) tl202, [], w274) _
                          refine e_Pn.run (t' := (75, (4, (0, z334)) :: (0, (1, 275)) :: (1, (0, y205)) :: (2, (0, y206)) :: (3, (0, y207)) :: List.filter (e_flt 0 4) tl202, [], w274)) eAlk 1 rfl ?_
                          exact e_Pn.ord eAlk [0, 1, 2, 3, 4] rfl rfl ((ih200 (by omega) _ y205 y206 y207 z334 w274 q276).le (by omega))
                  exact e_Pn.ord eAlk [0, 1, 2, 3, 4] rfl rfl (hL199 nn190 (Nat.le_refl _) _ y194 y195 y196 0 w192 q193)
            exact e_Pn.ord eAlk [0, 1, 2, 3] rfl rfl (hL188 nn4 (Nat.le_refl _) _ y8 0 0 w186 q187)
        · show e_Pn 20 elay ecode eI nn4 d 328 (27, (0, (1, 275)) :: (1, (0, y8)) :: tl5, [], w28) _
          refine e_Pn.incU eAlk rfl rfl (fun z335 => ?_)
          show e_Pn 20 elay ecode eI nn4 d 328 (30, (1, (0, z335)) :: (0, (1, 275)) :: List.filter (e_flt 0 1) tl5, [], w28) _
          refine e_Pn.run (t' := (5, (1, (0, z335)) :: (0, (1, 275)) :: List.filter (e_flt 0 1) tl5, [], w28)) eAlk 1 rfl ?_
          exact e_Pn.ord eAlk [0, 1] rfl rfl ((ih3 (by omega) _ z335 w28 q30).le (by omega))
  exact e_Pn.ord eAlk [0, 1] rfl rfl (hL2 n (Nat.le_refl _) _ (w 275 86) w mq.r)
theorem u_329 {n d : Nat} {w : eW} (hR : mRw w) : e_Pn 20 elay ecode eI n d 329 (0, [(0, (1, 275))], [], w) (fun r w' => r = [] ∧ mq w w') := by
  refine e_Pn.run (t' := (3, [(1, (4, 0)), (0, (1, 275))], [(1, 275)], w)) eAlk 3 rfl ?_
  refine e_Pn.getf (z := w 275 86) eAlk rfl rfl rfl (fun b1 => ?_)
  refine e_Pn.run (t' := (7, [(3, (0, w 275 86)), (1, (4, 0)), (0, (1, 275))], [], w)) eAlk 1 rfl ?_
  have hL2 : ∀ nn4 : Nat, nn4 ≤ n → ∀ (tl5 : eL) (y8 : Int) (y9 : Int) (w6 : eW), mq w w6 → e_Pn 20 elay ecode eI nn4 d 329 (7, (0, (1, 275)) :: (1, (4, y8)) :: (3, (0, y9)) :: tl5, [], w6) (fun r w' => r = [] ∧ mq w w') := by
    intro nn4
    induction nn4 with
    | zero => intro _ tl5 y8 y9 w6 _; exact e_Pn.zero
    | succ nn4 ih3 =>
      intro hnnn4 tl5 y8 y9 w6 q7
      refine e_Pn.runS (t' := (9, (0, (1, 275)) :: (1, (4, y8)) :: (3, (0, y9)) :: tl5, [(0, y9), (1, 275)], w6)) eAlk 1 rfl ?_
      refine e_Pn.callA rfl (fun n9 d9 => u_326 (q7.rf hR)) (fun r11 w12 h10 => ?_)
      obtain ⟨⟨z13, rfl⟩, h10⟩ := h10
      have q14 := q7.tr h10
      show e_Pn 20 elay ecode eI nn4 d 329 (12, (0, (1, 275)) :: (1, (4, y8)) :: (3, (0, y9)) :: tl5, [(0, z13)], w12) _
      refine e_Pn.callA rfl (fun n9 d9 => u_325 (q14.rf hR)) (fun r16 w17 h15 => ?_)
      obtain ⟨⟨z18, rfl⟩, h15⟩ := h15
      have q19 := q14.tr h15
      show e_Pn 20 elay ecode eI nn4 d 329 (15, (0, (1, 275)) :: (1, (4, y8)) :: (3, (0, y9)) :: tl5, [(0, z18)], w17) _
      refine e_Pn.if1 eAlk rfl (fun h20 => ?_) (fun h20 => ?_)
      · show e_Pn 20 elay ecode eI nn4 d 329 (53, (0, (1, 275)) :: (1, (4, y8)) :: (3, (0, y9)) :: tl5, [], w17) _
        refine e_Pn.run (t' := (55, (0, (1, 275)) :: (1, (4, y8)) :: (3, (0, y9)) :: tl5, [(0, y9), (1, 275)], w17)) eAlk 2 rfl ?_
        refine e_Pn.putf eAlk rfl rfl ?_
        generalize hw21 : e_up w17 275 87 y9 = w21
        have q22 : mq w w21 := mq.upF q19 hw21 (by decide) (by decide +kernel)
        refine e_Pn.run (t' := (63, (0, (1, 275)) :: (1, (4, y8)) :: (3, (0, y9)) :: tl5, [(4, 2147483647), (4, y8), (1, 275)], w21)) eAlk 3 rfl ?_
        refine e_Pn.binLU eAlk 0 (fun _ _ _ h => by cases h; rfl) rfl (fun z23 => ?_)
        refine e_Pn.if1 eAlk rfl (fun h24 => ?_) (fun h24 => ?_)
        · show e_Pn 20 elay ecode eI nn4 d 329 (71, (0, (1, 275)) :: (1, (4, y8)) :: (3, (0, y9)) :: tl5, [(1, 275)], w21) _
          refine e_Pn.run (t' := (72, (0, (1, 275)) :: (1, (4, y8)) :: (3, (0, y9)) :: tl5, [(0, 2), (1, 275)], w21)) eAlk 1 rfl ?_
          refine e_Pn.putf eAlk rfl rfl ?_
          generalize hw25 : e_up w21 275 84 2 = w25
          have q26 : mq w w25 := mq.upF q22 hw25 (by decide) (by decide +kernel)
          refine e_Pn.run (t' := (77, (0, (1, 275)) :: (1, (4, y8)) :: (3, (0, y9)) :: tl5, [(4, y8), (1, 275)], w25)) eAlk 2 rfl ?_
          refine e_Pn.unLU eAlk 0 (fun _ => rfl) rfl (fun z27 => ?_)
          refine e_Pn.putf eAlk rfl rfl ?_
          generalize hw28 : e_up w25 275 85 z27 = w28
          have q29 : mq w w28 := mq.upF q26 hw28 (by decide) (by decide +kernel)
          exact e_Pn.ret0 rfl ⟨rfl, q29⟩
        · show e_Pn 20 elay ecode eI nn4 d 329 (67, (0, (1, 275)) :: (1, (4, y8)) :: (3, (0, y9)) :: tl5, [(1, 275)], w21) _
          refine e_Pn.run (t' := (72, (0, (1, 275)) :: (1, (4, y8)) :: (3, (0, y9)) :: tl5, [(0, 5), (1, 275)], w21)) eAlk 2 rfl ?_
          refine e_Pn.putf eAlk rfl rfl ?_
          generalize hw30 : e_up w21 275 84 5 = w30
          have q31 : mq w w30 := mq.upF q22 hw30 (by decide) (by decide +kernel)
          refine e_Pn.run (t' := (77, (0, (1, 275)) :: (1, (4, y8)) :: (3, (0, y9)) :: tl5, [(4, y8), (1, 275)], w30)) eAlk 2 rfl ?_
          refine e_Pn.unLU eAlk 0 (fun _ => rfl) rfl (fun z32 => ?_)
          refine e_Pn.putf eAlk rfl rfl ?_
          generalize hw33 : e_up w30 275 85 z32 = w33
          have q34 : mq w w33 := mq.upF q31 hw33 (by decide) (by decide +kernel)
          exact e_Pn.ret0 rfl ⟨rfl, q34⟩
      · show e_Pn 20 elay ecode eI nn4 d 329 (18, (0, (1, 275)) :: (1, (4, y8)) :: (3, (0, y9)) :: tl5, [], w17) _
        refine e_Pn.run (t' := (22, (0, (1, 275)) :: (1, (4, y8)) :: (3, (0, y9)) :: tl5, [(4, 2147483647), (4, y8)], w17)) eAlk 2 rfl ?_
        refine e_Pn.binLU eAlk 0 (fun _ _ _ h => by cases h; rfl) rfl (fun z35 => ?_)
        refine e_Pn.if1 eAlk rfl (fun h36 => ?_) (fun h36 => ?_)
        · show e_Pn 20 elay ecode eI nn4 d 329 (30, (0, (1, 275)) :: (1, (4, y8)) :: (3, (0, y9)) :: tl5, [], w17) _
          refine e_Pn.run (t' := (34, (0, (1, 275)) :: (1, (4, y8)) :: (3, (0, y9)) :: tl5, [(4, y8), (4, 10)], w17)) eAlk 2 rfl ?_
          refine e_Pn.binLU eAlk 4 (fun _ _ _ h => by cases h; rfl) rfl (fun x37 => ?_)
          refine e_Pn.run (t' := (37, (0, (1, 275)) :: (1, (4, y8)) :: (3, (0, y9)) :: tl5, [(0, y9), (1, 275), (4, x37)], w17)) eAlk 2 rfl ?_
          refine e_Pn.callA rfl (fun n9 d9 => u_326 (q19.rf hR)) (fun r39 w40 h38 => ?_)
          obtain ⟨⟨z41, rfl⟩, h38⟩ := h38
          have q42 := q19.tr h38
          show e_Pn 20 elay ecode eI nn4 d 329 (40, (0, (1, 275)) :: (1, (4, y8)) :: (3, (0, y9)) :: tl5, [(0, z41), (4, x37)], w40) _
          refine e_Pn.run (t' := (41, (0, (1, 275)) :: (1, (4, y8)) :: (3, (0, y9)) :: tl5, [(4, z41), (4, x37)], w40)) eAlk 1 rfl ?_
          refine e_Pn.binLU eAlk 4 (fun _ _ _ h => by cases h; rfl) rfl (fun x43 => ?_)
          refine e_Pn.run (t' := (45, (0, (1, 275)) :: (1, (4, y8)) :: (3, (0, y9)) :: tl5, [(4, 48), (4, x43)], w40)) eAlk 1 rfl ?_
          refine e_Pn.binLU eAlk 4 (fun _ _ _ h => by cases h; rfl) rfl (fun x44 => ?_)
          refine e_Pn.run (t' := (47, (1, (4, x44)) :: (0, (1, 275)) :: (3, (0, y9)) :: List.filter (e_flt 1 1) tl5, [], w40)) eAlk 1 rfl ?_
          refine e_Pn.incU eAlk rfl rfl (fun z45 => ?_)
          show e_Pn 20 elay ecode eI nn4 d 329 (50, (3, (0, z45)) :: (1, (4, x44)) :: (0, (1, 275)) :: List.filter (e_flt 0 3) (List.filter (e_flt 1 1) tl5), [], w40) _
          refine e_Pn.run (t' := (7, (3, (0, z45)) :: (1, (4, x44)) :: (0, (1, 275)) :: List.filter (e_flt 0 3) (List.filter (e_flt 1 1) tl5), [], w40)) eAlk 1 rfl ?_
          exact e_Pn.ord eAlk [0, 1, 3] rfl rfl ((ih3 (by omega) _ x44 z45 w40 q42).le (by omega))
        · show e_Pn 20 elay ecode eI nn4 d 329 (26, (0, (1, 275)) :: (1, (4, y8)) :: (3, (0, y9)) :: tl5, [], w17) _
          refine e_Pn.run (t' := (47, (1, (4, y8)) :: (0, (1, 275)) :: (3, (0, y9)) :: List.filter (e_flt 1 1) tl5, [], w17)) eAlk 3 rfl ?_
          refine e_Pn.incU eAlk rfl rfl (fun z46 => ?_)
          show e_Pn 20 elay ecode eI nn4 d 329 (50, (3, (0, z46)) :: (1, (4, y8)) :: (0, (1, 275)) :: List.filter (e_flt 0 3) (List.filter (e_flt 1 1) tl5), [], w17) _
          refine e_Pn.run (t' := (7, (3, (0, z46)) :: (1, (4, y8)) :: (0, (1, 275)) :: List.filter (e_flt 0 3) (List.filter (e_flt 1 1) tl5), [], w17)) eAlk 1 rfl ?_
          exact e_Pn.ord eAlk [0, 1, 3] rfl rfl ((ih3 (by omega) _ y8 z46 w17 q19).le (by omega))
  exact e_Pn.ord eAlk [0, 1, 3] rfl rfl (hL2 n (Nat.le_refl _) _ 0 (w 275 86) w mq.r)
set_option maxHeartbeats 4000000 in
theorem u_330 {n d : Nat} {w : eW} (hR : mRw w) {x : Int} : e_Pn 20 elay ecode eI n d 330 (0, [(0, (1, 275)), (1, (0, x))], [], w) (fun r w' => r = [] ∧ mq w w') := by
  refine e_Pn.run (t' := (2, [(0, (1, 275)), (1, (0, x))], [(0, 3), (1, 275)], w)) eAlk 2 rfl ?_
  refine e_Pn.putf eAlk rfl rfl ?_
  generalize hw1 : e_up w 275 84 3 = w1
  have q2 : mq w w1 := mq.upF mq.r hw1 (by decide) (by decide +kernel)
  refine e_Pn.run (t' := (7, [(0, (1, 275)), (1, (0, x))], [(0, x), (1, 275)], w1)) eAlk 2 rfl ?_
  refine e_Pn.putf eAlk rfl rfl ?_
  generalize hw3 : e_up w1 275 85 x = w3
  have q4 : mq w w3 := mq.upF q2 hw3 (by decide) (by decide +kernel)
  refine e_Pn.run (t' := (12, [(0, (1, 275)), (1, (0, x))], [(1, 275), (1, 275)], w3)) eAlk 2 rfl ?_
  refine e_Pn.getf (z := w3 275 86) eAlk rfl rfl rfl (fun b5 => ?_)
  refine e_Pn.run (t' := (16, [(0, (1, 275)), (1, (0, x))], [(0, 1), (0, w3 275 86), (1, 275)], w3)) eAlk 1 rfl ?_
  refine e_Pn.bin0 eAlk rfl (fun z6 hz6 => ?_)
  refine e_Pn.callA rfl (fun n9 d9 => u_326 (q4.rf hR)) (fun r8 w9 h7 => ?_)
  obtain ⟨⟨z10, rfl⟩, h7⟩ := h7
  have q11 := q4.tr h7
  show e_Pn 20 elay ecode eI n d 330 (20, [(0, (1, 275)), (1, (0, x))], [(0, z10)], w9) _
  refine e_Pn.run (t' := (22, [(0, (1, 275)), (1, (0, x))], [(0, 61), (0, z10)], w9)) eAlk 1 rfl ?_
  refine e_Pn.if2 eAlk rfl (fun h12 => ?_) (fun h12 => ?_)
  · show e_Pn 20 elay ecode eI n d 330 (29, [(0, (1, 275)), (1, (0, x))], [], w9) _
    refine e_Pn.run (t' := (34, [(2, (0, 0)), (0, (1, 275)), (1, (0, x))], [(0, 33), (0, x)], w9)) eAlk 4 rfl ?_
    refine e_Pn.if2 eAlk rfl (fun h13 => ?_) (fun h13 => ?_)
    · show e_Pn 20 elay ecode eI n d 330 (49, [(2, (0, 0)), (0, (1, 275)), (1, (0, x))], [], w9) _
      refine e_Pn.run (t' := (50, [(2, (0, 0)), (0, (1, 275)), (1, (0, x))], [(0, 0)], w9)) eAlk 1 rfl ?_
      refine e_Pn.if1 eAlk rfl (fun h14 => ?_) (fun h14 => ?_)
      rotate_left
      · exfalso; have q9 : ¬ ((0 : Int) = 0) := h14; omega
      show e_Pn 20 elay ecode eI n d 330 (94, [(2, (0, 0)), (0, (1, 275)), (1, (0, x))], [], w9) _
      refine e_Pn.run (t' := (97, [(2, (0, 0)), (0, (1, 275)), (1, (0, x))], [(0, 43), (0, x)], w9)) eAlk 2 rfl ?_
      refine e_Pn.if2 eAlk rfl (fun h15 => ?_) (fun h15 => ?_)
      · show e_Pn 20 elay ecode eI n d 330 (177, [(2, (0, 0)), (0, (1, 275)), (1, (0, x))], [], w9) _
        exact e_Pn.ret0 rfl ⟨rfl, q11⟩
      · show e_Pn 20 elay ecode eI n d 330 (100, [(2, (0, 0)), (0, (1, 275)), (1, (0, x))], [], w9) _
        refine e_Pn.run (t' := (103, [(2, (0, 0)), (0, (1, 275)), (1, (0, x))], [(0, 45), (0, x)], w9)) eAlk 2 rfl ?_
        refine e_Pn.if2 eAlk rfl (fun h16 => ?_) (fun h16 => ?_)
        · show e_Pn 20 elay ecode eI n d 330 (177, [(2, (0, 0)), (0, (1, 275)), (1, (0, x))], [], w9) _
          exact e_Pn.ret0 rfl ⟨rfl, q11⟩
        · show e_Pn 20 elay ecode eI n d 330 (106, [(2, (0, 0)), (0, (1, 275)), (1, (0, x))], [], w9) _
          refine e_Pn.run (t' := (109, [(2, (0, 0)), (0, (1, 275)), (1, (0, x))], [(0, 42), (0, x)], w9)) eAlk 2 rfl ?_
          refine e_Pn.if2 eAlk rfl (fun h17 => ?_) (fun h17 => ?_)
          · show e_Pn 20 elay ecode eI n d 330 (177, [(2, (0, 0)), (0, (1, 275)), (1, (0, x))], [], w9) _
            exact e_Pn.ret0 rfl ⟨rfl, q11⟩
          · show e_Pn 20 elay ecode eI n d 330 (112, [(2, (0, 0)), (0, (1, 275)), (1, (0, x))], [], w9) _
            refine e_Pn.run (t' := (115, [(2, (0, 0)), (0, (1, 275)), (1, (0, x))], [(0, 47), (0, x)], w9)) eAlk 2 rfl ?_
            refine e_Pn.if2 eAlk rfl (fun h18 => ?_) (fun h18 => ?_)
            · show e_Pn 20 elay ecode eI n d 330 (177, [(2, (0, 0)), (0, (1, 275)), (1, (0, x))], [], w9) _
              exact e_Pn.ret0 rfl ⟨rfl, q11⟩
            · show e_Pn 20 elay ecode eI n d 330 (118, [(2, (0, 0)), (0, (1, 275)), (1, (0, x))], [], w9) _
              refine e_Pn.run (t' := (121, [(2, (0, 0)), (0, (1, 275)), (1, (0, x))], [(0, 37), (0, x)], w9)) eAlk 2 rfl ?_
              refine e_Pn.if2 eAlk rfl (fun h19 => ?_) (fun h19 => ?_)
              · show e_Pn 20 elay ecode eI n d 330 (177, [(2, (0, 0)), (0, (1, 275)), (1, (0, x))], [], w9) _
                exact e_Pn.ret0 rfl ⟨rfl, q11⟩
              · show e_Pn 20 elay ecode eI n d 330 (124, [(2, (0, 0)), (0, (1, 275)), (1, (0, x))], [], w9) _
                refine e_Pn.run (t' := (127, [(2, (0, 0)), (0, (1, 275)), (1, (0, x))], [(0, 61), (0, x)], w9)) eAlk 2 rfl ?_
                refine e_Pn.if2 eAlk rfl (fun h20 => ?_) (fun h20 => ?_)
                · show e_Pn 20 elay ecode eI n d 330 (177, [(2, (0, 0)), (0, (1, 275)), (1, (0, x))], [], w9) _
                  exact e_Pn.ret0 rfl ⟨rfl, q11⟩
                · show e_Pn 20 elay ecode eI n d 330 (130, [(2, (0, 0)), (0, (1, 275)), (1, (0, x))], [], w9) _
                  refine e_Pn.run (t' := (133, [(2, (0, 0)), (0, (1, 275)), (1, (0, x))], [(0, 60), (0, x)], w9)) eAlk 2 rfl ?_
                  refine e_Pn.if2 eAlk rfl (fun h21 => ?_) (fun h21 => ?_)
                  · show e_Pn 20 elay ecode eI n d 330 (177, [(2, (0, 0)), (0, (1, 275)), (1, (0, x))], [], w9) _
                    exact e_Pn.ret0 rfl ⟨rfl, q11⟩
                  · show e_Pn 20 elay ecode eI n d 330 (136, [(2, (0, 0)), (0, (1, 275)), (1, (0, x))], [], w9) _
                    refine e_Pn.run (t' := (139, [(2, (0, 0)), (0, (1, 275)), (1, (0, x))], [(0, 62), (0, x)], w9)) eAlk 2 rfl ?_
                    refine e_Pn.if2 eAlk rfl (fun h22 => ?_) (fun h22 => ?_)
                    · show e_Pn 20 elay ecode eI n d 330 (177, [(2, (0, 0)), (0, (1, 275)), (1, (0, x))], [], w9) _
                      exact e_Pn.ret0 rfl ⟨rfl, q11⟩
                    · show e_Pn 20 elay ecode eI n d 330 (142, [(2, (0, 0)), (0, (1, 275)), (1, (0, x))], [], w9) _
                      refine e_Pn.run (t' := (145, [(2, (0, 0)), (0, (1, 275)), (1, (0, x))], [(0, 40), (0, x)], w9)) eAlk 2 rfl ?_
                      refine e_Pn.if2 eAlk rfl (fun h23 => ?_) (fun h23 => ?_)
                      · show e_Pn 20 elay ecode eI n d 330 (177, [(2, (0, 0)), (0, (1, 275)), (1, (0, x))], [], w9) _
                        exact e_Pn.ret0 rfl ⟨rfl, q11⟩
                      · show e_Pn 20 elay ecode eI n d 330 (148, [(2, (0, 0)), (0, (1, 275)), (1, (0, x))], [], w9) _
                        refine e_Pn.run (t' := (151, [(2, (0, 0)), (0, (1, 275)), (1, (0, x))], [(0, 41), (0, x)], w9)) eAlk 2 rfl ?_
                        refine e_Pn.if2 eAlk rfl (fun h24 => ?_) (fun h24 => ?_)
                        · show e_Pn 20 elay ecode eI n d 330 (177, [(2, (0, 0)), (0, (1, 275)), (1, (0, x))], [], w9) _
                          exact e_Pn.ret0 rfl ⟨rfl, q11⟩
                        · show e_Pn 20 elay ecode eI n d 330 (154, [(2, (0, 0)), (0, (1, 275)), (1, (0, x))], [], w9) _
                          refine e_Pn.run (t' := (157, [(2, (0, 0)), (0, (1, 275)), (1, (0, x))], [(0, 44), (0, x)], w9)) eAlk 2 rfl ?_
                          refine e_Pn.if2 eAlk rfl (fun h25 => ?_) (fun h25 => ?_)
                          · show e_Pn 20 elay ecode eI n d 330 (177, [(2, (0, 0)), (0, (1, 275)), (1, (0, x))], [], w9) _
                            exact e_Pn.ret0 rfl ⟨rfl, q11⟩
                          · show e_Pn 20 elay ecode eI n d 330 (160, [(2, (0, 0)), (0, (1, 275)), (1, (0, x))], [], w9) _
                            refine e_Pn.run (t' := (163, [(2, (0, 0)), (0, (1, 275)), (1, (0, x))], [(0, 59), (0, x)], w9)) eAlk 2 rfl ?_
                            refine e_Pn.if2 eAlk rfl (fun h26 => ?_) (fun h26 => ?_)
                            · show e_Pn 20 elay ecode eI n d 330 (177, [(2, (0, 0)), (0, (1, 275)), (1, (0, x))], [], w9) _
                              exact e_Pn.ret0 rfl ⟨rfl, q11⟩
                            · show e_Pn 20 elay ecode eI n d 330 (166, [(2, (0, 0)), (0, (1, 275)), (1, (0, x))], [], w9) _
                              refine e_Pn.run (t' := (169, [(2, (0, 0)), (0, (1, 275)), (1, (0, x))], [(0, 58), (0, x)], w9)) eAlk 2 rfl ?_
                              refine e_Pn.if2 eAlk rfl (fun h27 => ?_) (fun h27 => ?_)
                              · show e_Pn 20 elay ecode eI n d 330 (177, [(2, (0, 0)), (0, (1, 275)), (1, (0, x))], [], w9) _
                                exact e_Pn.ret0 rfl ⟨rfl, q11⟩
                              · show e_Pn 20 elay ecode eI n d 330 (172, [(2, (0, 0)), (0, (1, 275)), (1, (0, x))], [], w9) _
                                refine e_Pn.run (t' := (174, [(2, (0, 0)), (0, (1, 275)), (1, (0, x))], [(0, 5), (1, 275)], w9)) eAlk 2 rfl ?_
                                refine e_Pn.putf eAlk rfl rfl ?_
                                generalize hw28 : e_up w9 275 84 5 = w28
                                have q29 : mq w w28 := mq.upF q11 hw28 (by decide) (by decide +kernel)
                                exact e_Pn.ret0 rfl ⟨rfl, q29⟩
    · show e_Pn 20 elay ecode eI n d 330 (37, [(2, (0, 0)), (0, (1, 275)), (1, (0, x))], [], w9) _
      refine e_Pn.run (t' := (40, [(2, (0, 0)), (0, (1, 275)), (1, (0, x))], [(0, 60), (0, x)], w9)) eAlk 2 rfl ?_
      refine e_Pn.if2 eAlk rfl (fun h30 => ?_) (fun h30 => ?_)
      · show e_Pn 20 elay ecode eI n d 330 (49, [(2, (0, 0)), (0, (1, 275)), (1, (0, x))], [], w9) _
        refine e_Pn.run (t' := (50, [(2, (0, 0)), (0, (1, 275)), (1, (0, x))], [(0, 0)], w9)) eAlk 1 rfl ?_
        refine e_Pn.if1 eAlk rfl (fun h31 => ?_) (fun h31 => ?_)
        rotate_left
        · exfalso; have q9 : ¬ ((0 : Int) = 0) := h31; omega
        show e_Pn 20 elay ecode eI n d 330 (94, [(2, (0, 0)), (0, (1, 275)), (1, (0, x))], [], w9) _
        refine e_Pn.run (t' := (97, [(2, (0, 0)), (0, (1, 275)), (1, (0, x))], [(0, 43), (0, x)], w9)) eAlk 2 rfl ?_
        refine e_Pn.if2 eAlk rfl (fun h32 => ?_) (fun h32 => ?_)
        · show e_Pn 20 elay ecode eI n d 330 (177, [(2, (0, 0)), (0, (1, 275)), (1, (0, x))], [], w9) _
          exact e_Pn.ret0 rfl ⟨rfl, q11⟩
        · show e_Pn 20 elay ecode eI n d 330 (100, [(2, (0, 0)), (0, (1, 275)), (1, (0, x))], [], w9) _
          refine e_Pn.run (t' := (103, [(2, (0, 0)), (0, (1, 275)), (1, (0, x))], [(0, 45), (0, x)], w9)) eAlk 2 rfl ?_
          refine e_Pn.if2 eAlk rfl (fun h33 => ?_) (fun h33 => ?_)
          · show e_Pn 20 elay ecode eI n d 330 (177, [(2, (0, 0)), (0, (1, 275)), (1, (0, x))], [], w9) _
            exact e_Pn.ret0 rfl ⟨rfl, q11⟩
          · show e_Pn 20 elay ecode eI n d 330 (106, [(2, (0, 0)), (0, (1, 275)), (1, (0, x))], [], w9) _
            refine e_Pn.run (t' := (109, [(2, (0, 0)), (0, (1, 275)), (1, (0, x))], [(0, 42), (0, x)], w9)) eAlk 2 rfl ?_
            refine e_Pn.if2 eAlk rfl (fun h34 => ?_) (fun h34 => ?_)
            · show e_Pn 20 elay ecode eI n d 330 (177, [(2, (0, 0)), (0, (1, 275)), (1, (0, x))], [], w9) _
              exact e_Pn.ret0 rfl ⟨rfl, q11⟩
            · show e_Pn 20 elay ecode eI n d 330 (112, [(2, (0, 0)), (0, (1, 275)), (1, (0, x))], [], w9) _
              refine e_Pn.run (t' := (115, [(2, (0, 0)), (0, (1, 275)), (1, (0, x))], [(0, 47), (0, x)], w9)) eAlk 2 rfl ?_
              refine e_Pn.if2 eAlk rfl (fun h35 => ?_) (fun h35 => ?_)
              · show e_Pn 20 elay ecode eI n d 330 (177, [(2, (0, 0)), (0, (1, 275)), (1, (0, x))], [], w9) _
                exact e_Pn.ret0 rfl ⟨rfl, q11⟩
              · show e_Pn 20 elay ecode eI n d 330 (118, [(2, (0, 0)), (0, (1, 275)), (1, (0, x))], [], w9) _
                refine e_Pn.run (t' := (121, [(2, (0, 0)), (0, (1, 275)), (1, (0, x))], [(0, 37), (0, x)], w9)) eAlk 2 rfl ?_
                refine e_Pn.if2 eAlk rfl (fun h36 => ?_) (fun h36 => ?_)
                · show e_Pn 20 elay ecode eI n d 330 (177, [(2, (0, 0)), (0, (1, 275)), (1, (0, x))], [], w9) _
                  exact e_Pn.ret0 rfl ⟨rfl, q11⟩
                · show e_Pn 20 elay ecode eI n d 330 (124, [(2, (0, 0)), (0, (1, 275)), (1, (0, x))], [], w9) _
                  refine e_Pn.run (t' := (127, [(2, (0, 0)), (0, (1, 275)), (1, (0, x))], [(0, 61), (0, x)], w9)) eAlk 2 rfl ?_
                  refine e_Pn.if2 eAlk rfl (fun h37 => ?_) (fun h37 => ?_)
                  · show e_Pn 20 elay ecode eI n d 330 (177, [(2, (0, 0)), (0, (1, 275)), (1, (0, x))], [], w9) _
                    exact e_Pn.ret0 rfl ⟨rfl, q11⟩
                  · show e_Pn 20 elay ecode eI n d 330 (130, [(2, (0, 0)), (0, (1, 275)), (1, (0, x))], [], w9) _
                    refine e_Pn.run (t' := (133, [(2, (0, 0)), (0, (1, 275)), (1, (0, x))], [(0, 60), (0, x)], w9)) eAlk 2 rfl ?_
                    refine e_Pn.if2 eAlk rfl (fun h38 => ?_) (fun h38 => ?_)
                    · show e_Pn 20 elay ecode eI n d 330 (177, [(2, (0, 0)), (0, (1, 275)), (1, (0, x))], [], w9) _
                      exact e_Pn.ret0 rfl ⟨rfl, q11⟩
                    · show e_Pn 20 elay ecode eI n d 330 (136, [(2, (0, 0)), (0, (1, 275)), (1, (0, x))], [], w9) _
                      refine e_Pn.run (t' := (139, [(2, (0, 0)), (0, (1, 275)), (1, (0, x))], [(0, 62), (0, x)], w9)) eAlk 2 rfl ?_
                      refine e_Pn.if2 eAlk rfl (fun h39 => ?_) (fun h39 => ?_)
                      · show e_Pn 20 elay ecode eI n d 330 (177, [(2, (0, 0)), (0, (1, 275)), (1, (0, x))], [], w9) _
                        exact e_Pn.ret0 rfl ⟨rfl, q11⟩
                      · show e_Pn 20 elay ecode eI n d 330 (142, [(2, (0, 0)), (0, (1, 275)), (1, (0, x))], [], w9) _
                        refine e_Pn.run (t' := (145, [(2, (0, 0)), (0, (1, 275)), (1, (0, x))], [(0, 40), (0, x)], w9)) eAlk 2 rfl ?_
                        refine e_Pn.if2 eAlk rfl (fun h40 => ?_) (fun h40 => ?_)
                        · show e_Pn 20 elay ecode eI n d 330 (177, [(2, (0, 0)), (0, (1, 275)), (1, (0, x))], [], w9) _
                          exact e_Pn.ret0 rfl ⟨rfl, q11⟩
                        · show e_Pn 20 elay ecode eI n d 330 (148, [(2, (0, 0)), (0, (1, 275)), (1, (0, x))], [], w9) _
                          refine e_Pn.run (t' := (151, [(2, (0, 0)), (0, (1, 275)), (1, (0, x))], [(0, 41), (0, x)], w9)) eAlk 2 rfl ?_
                          refine e_Pn.if2 eAlk rfl (fun h41 => ?_) (fun h41 => ?_)
                          · show e_Pn 20 elay ecode eI n d 330 (177, [(2, (0, 0)), (0, (1, 275)), (1, (0, x))], [], w9) _
                            exact e_Pn.ret0 rfl ⟨rfl, q11⟩
                          · show e_Pn 20 elay ecode eI n d 330 (154, [(2, (0, 0)), (0, (1, 275)), (1, (0, x))], [], w9) _
                            refine e_Pn.run (t' := (157, [(2, (0, 0)), (0, (1, 275)), (1, (0, x))], [(0, 44), (0, x)], w9)) eAlk 2 rfl ?_
                            refine e_Pn.if2 eAlk rfl (fun h42 => ?_) (fun h42 => ?_)
                            · show e_Pn 20 elay ecode eI n d 330 (177, [(2, (0, 0)), (0, (1, 275)), (1, (0, x))], [], w9) _
                              exact e_Pn.ret0 rfl ⟨rfl, q11⟩
                            · show e_Pn 20 elay ecode eI n d 330 (160, [(2, (0, 0)), (0, (1, 275)), (1, (0, x))], [], w9) _
                              refine e_Pn.run (t' := (163, [(2, (0, 0)), (0, (1, 275)), (1, (0, x))], [(0, 59), (0, x)], w9)) eAlk 2 rfl ?_
                              refine e_Pn.if2 eAlk rfl (fun h43 => ?_) (fun h43 => ?_)
                              · show e_Pn 20 elay ecode eI n d 330 (177, [(2, (0, 0)), (0, (1, 275)), (1, (0, x))], [], w9) _
                                exact e_Pn.ret0 rfl ⟨rfl, q11⟩
                              · show e_Pn 20 elay ecode eI n d 330 (166, [(2, (0, 0)), (0, (1, 275)), (1, (0, x))], [], w9) _
                                refine e_Pn.run (t' := (169, [(2, (0, 0)), (0, (1, 275)), (1, (0, x))], [(0, 58), (0, x)], w9)) eAlk 2 rfl ?_
                                refine e_Pn.if2 eAlk rfl (fun h44 => ?_) (fun h44 => ?_)
                                · show e_Pn 20 elay ecode eI n d 330 (177, [(2, (0, 0)), (0, (1, 275)), (1, (0, x))], [], w9) _
                                  exact e_Pn.ret0 rfl ⟨rfl, q11⟩
                                · show e_Pn 20 elay ecode eI n d 330 (172, [(2, (0, 0)), (0, (1, 275)), (1, (0, x))], [], w9) _
                                  refine e_Pn.run (t' := (174, [(2, (0, 0)), (0, (1, 275)), (1, (0, x))], [(0, 5), (1, 275)], w9)) eAlk 2 rfl ?_
                                  refine e_Pn.putf eAlk rfl rfl ?_
                                  generalize hw45 : e_up w9 275 84 5 = w45
                                  have q46 : mq w w45 := mq.upF q11 hw45 (by decide) (by decide +kernel)
                                  exact e_Pn.ret0 rfl ⟨rfl, q46⟩
      · show e_Pn 20 elay ecode eI n d 330 (43, [(2, (0, 0)), (0, (1, 275)), (1, (0, x))], [], w9) _
        refine e_Pn.run (t' := (46, [(2, (0, 0)), (0, (1, 275)), (1, (0, x))], [(0, 62), (0, x)], w9)) eAlk 2 rfl ?_
        refine e_Pn.if2 eAlk rfl (fun h47 => ?_) (fun h47 => ?_)
        · show e_Pn 20 elay ecode eI n d 330 (94, [(2, (0, 0)), (0, (1, 275)), (1, (0, x))], [], w9) _
          refine e_Pn.run (t' := (97, [(2, (0, 0)), (0, (1, 275)), (1, (0, x))], [(0, 43), (0, x)], w9)) eAlk 2 rfl ?_
          refine e_Pn.if2 eAlk rfl (fun h48 => ?_) (fun h48 => ?_)
          · show e_Pn 20 elay ecode eI n d 330 (177, [(2, (0, 0)), (0, (1, 275)), (1, (0, x))], [], w9) _
            exact e_Pn.ret0 rfl ⟨rfl, q11⟩
          · show e_Pn 20 elay ecode eI n d 330 (100, [(2, (0, 0)), (0, (1, 275)), (1, (0, x))], [], w9) _
            refine e_Pn.run (t' := (103, [(2, (0, 0)), (0, (1, 275)), (1, (0, x))], [(0, 45), (0, x)], w9)) eAlk 2 rfl ?_
            refine e_Pn.if2 eAlk rfl (fun h49 => ?_) (fun h49 => ?_)
            · show e_Pn 20 elay ecode eI n d 330 (177, [(2, (0, 0)), (0, (1, 275)), (1, (0, x))], [], w9) _
              exact e_Pn.ret0 rfl ⟨rfl, q11⟩
            · show e_Pn 20 elay ecode eI n d 330 (106, [(2, (0, 0)), (0, (1, 275)), (1, (0, x))], [], w9) _
              refine e_Pn.run (t' := (109, [(2, (0, 0)), (0, (1, 275)), (1, (0, x))], [(0, 42), (0, x)], w9)) eAlk 2 rfl ?_
              refine e_Pn.if2 eAlk rfl (fun h50 => ?_) (fun h50 => ?_)
              · show e_Pn 20 elay ecode eI n d 330 (177, [(2, (0, 0)), (0, (1, 275)), (1, (0, x))], [], w9) _
                exact e_Pn.ret0 rfl ⟨rfl, q11⟩
              · show e_Pn 20 elay ecode eI n d 330 (112, [(2, (0, 0)), (0, (1, 275)), (1, (0, x))], [], w9) _
                refine e_Pn.run (t' := (115, [(2, (0, 0)), (0, (1, 275)), (1, (0, x))], [(0, 47), (0, x)], w9)) eAlk 2 rfl ?_
                refine e_Pn.if2 eAlk rfl (fun h51 => ?_) (fun h51 => ?_)
                · show e_Pn 20 elay ecode eI n d 330 (177, [(2, (0, 0)), (0, (1, 275)), (1, (0, x))], [], w9) _
                  exact e_Pn.ret0 rfl ⟨rfl, q11⟩
                · show e_Pn 20 elay ecode eI n d 330 (118, [(2, (0, 0)), (0, (1, 275)), (1, (0, x))], [], w9) _
                  refine e_Pn.run (t' := (121, [(2, (0, 0)), (0, (1, 275)), (1, (0, x))], [(0, 37), (0, x)], w9)) eAlk 2 rfl ?_
                  refine e_Pn.if2 eAlk rfl (fun h52 => ?_) (fun h52 => ?_)
                  · show e_Pn 20 elay ecode eI n d 330 (177, [(2, (0, 0)), (0, (1, 275)), (1, (0, x))], [], w9) _
                    exact e_Pn.ret0 rfl ⟨rfl, q11⟩
                  · show e_Pn 20 elay ecode eI n d 330 (124, [(2, (0, 0)), (0, (1, 275)), (1, (0, x))], [], w9) _
                    refine e_Pn.run (t' := (127, [(2, (0, 0)), (0, (1, 275)), (1, (0, x))], [(0, 61), (0, x)], w9)) eAlk 2 rfl ?_
                    refine e_Pn.if2 eAlk rfl (fun h53 => ?_) (fun h53 => ?_)
                    · show e_Pn 20 elay ecode eI n d 330 (177, [(2, (0, 0)), (0, (1, 275)), (1, (0, x))], [], w9) _
                      exact e_Pn.ret0 rfl ⟨rfl, q11⟩
                    · show e_Pn 20 elay ecode eI n d 330 (130, [(2, (0, 0)), (0, (1, 275)), (1, (0, x))], [], w9) _
                      refine e_Pn.run (t' := (133, [(2, (0, 0)), (0, (1, 275)), (1, (0, x))], [(0, 60), (0, x)], w9)) eAlk 2 rfl ?_
                      refine e_Pn.if2 eAlk rfl (fun h54 => ?_) (fun h54 => ?_)
                      · show e_Pn 20 elay ecode eI n d 330 (177, [(2, (0, 0)), (0, (1, 275)), (1, (0, x))], [], w9) _
                        exact e_Pn.ret0 rfl ⟨rfl, q11⟩
                      · show e_Pn 20 elay ecode eI n d 330 (136, [(2, (0, 0)), (0, (1, 275)), (1, (0, x))], [], w9) _
                        refine e_Pn.run (t' := (139, [(2, (0, 0)), (0, (1, 275)), (1, (0, x))], [(0, 62), (0, x)], w9)) eAlk 2 rfl ?_
                        refine e_Pn.if2 eAlk rfl (fun h55 => ?_) (fun h55 => ?_)
                        · show e_Pn 20 elay ecode eI n d 330 (177, [(2, (0, 0)), (0, (1, 275)), (1, (0, x))], [], w9) _
                          exact e_Pn.ret0 rfl ⟨rfl, q11⟩
                        · show e_Pn 20 elay ecode eI n d 330 (142, [(2, (0, 0)), (0, (1, 275)), (1, (0, x))], [], w9) _
                          refine e_Pn.run (t' := (145, [(2, (0, 0)), (0, (1, 275)), (1, (0, x))], [(0, 40), (0, x)], w9)) eAlk 2 rfl ?_
                          refine e_Pn.if2 eAlk rfl (fun h56 => ?_) (fun h56 => ?_)
                          · show e_Pn 20 elay ecode eI n d 330 (177, [(2, (0, 0)), (0, (1, 275)), (1, (0, x))], [], w9) _
                            exact e_Pn.ret0 rfl ⟨rfl, q11⟩
                          · show e_Pn 20 elay ecode eI n d 330 (148, [(2, (0, 0)), (0, (1, 275)), (1, (0, x))], [], w9) _
                            refine e_Pn.run (t' := (151, [(2, (0, 0)), (0, (1, 275)), (1, (0, x))], [(0, 41), (0, x)], w9)) eAlk 2 rfl ?_
                            refine e_Pn.if2 eAlk rfl (fun h57 => ?_) (fun h57 => ?_)
                            · show e_Pn 20 elay ecode eI n d 330 (177, [(2, (0, 0)), (0, (1, 275)), (1, (0, x))], [], w9) _
                              exact e_Pn.ret0 rfl ⟨rfl, q11⟩
                            · show e_Pn 20 elay ecode eI n d 330 (154, [(2, (0, 0)), (0, (1, 275)), (1, (0, x))], [], w9) _
                              refine e_Pn.run (t' := (157, [(2, (0, 0)), (0, (1, 275)), (1, (0, x))], [(0, 44), (0, x)], w9)) eAlk 2 rfl ?_
                              refine e_Pn.if2 eAlk rfl (fun h58 => ?_) (fun h58 => ?_)
                              · show e_Pn 20 elay ecode eI n d 330 (177, [(2, (0, 0)), (0, (1, 275)), (1, (0, x))], [], w9) _
                                exact e_Pn.ret0 rfl ⟨rfl, q11⟩
                              · show e_Pn 20 elay ecode eI n d 330 (160, [(2, (0, 0)), (0, (1, 275)), (1, (0, x))], [], w9) _
                                refine e_Pn.run (t' := (163, [(2, (0, 0)), (0, (1, 275)), (1, (0, x))], [(0, 59), (0, x)], w9)) eAlk 2 rfl ?_
                                refine e_Pn.if2 eAlk rfl (fun h59 => ?_) (fun h59 => ?_)
                                · show e_Pn 20 elay ecode eI n d 330 (177, [(2, (0, 0)), (0, (1, 275)), (1, (0, x))], [], w9) _
                                  exact e_Pn.ret0 rfl ⟨rfl, q11⟩
                                · show e_Pn 20 elay ecode eI n d 330 (166, [(2, (0, 0)), (0, (1, 275)), (1, (0, x))], [], w9) _
                                  refine e_Pn.run (t' := (169, [(2, (0, 0)), (0, (1, 275)), (1, (0, x))], [(0, 58), (0, x)], w9)) eAlk 2 rfl ?_
                                  refine e_Pn.if2 eAlk rfl (fun h60 => ?_) (fun h60 => ?_)
                                  · show e_Pn 20 elay ecode eI n d 330 (177, [(2, (0, 0)), (0, (1, 275)), (1, (0, x))], [], w9) _
                                    exact e_Pn.ret0 rfl ⟨rfl, q11⟩
                                  · show e_Pn 20 elay ecode eI n d 330 (172, [(2, (0, 0)), (0, (1, 275)), (1, (0, x))], [], w9) _
                                    refine e_Pn.run (t' := (174, [(2, (0, 0)), (0, (1, 275)), (1, (0, x))], [(0, 5), (1, 275)], w9)) eAlk 2 rfl ?_
                                    refine e_Pn.putf eAlk rfl rfl ?_
                                    generalize hw61 : e_up w9 275 84 5 = w61
                                    have q62 : mq w w61 := mq.upF q11 hw61 (by decide) (by decide +kernel)
                                    exact e_Pn.ret0 rfl ⟨rfl, q62⟩
        · show e_Pn 20 elay ecode eI n d 330 (49, [(2, (0, 0)), (0, (1, 275)), (1, (0, x))], [], w9) _
          refine e_Pn.run (t' := (50, [(2, (0, 0)), (0, (1, 275)), (1, (0, x))], [(0, 0)], w9)) eAlk 1 rfl ?_
          refine e_Pn.if1 eAlk rfl (fun h63 => ?_) (fun h63 => ?_)
          rotate_left
          · exfalso; have q9 : ¬ ((0 : Int) = 0) := h63; omega
          show e_Pn 20 elay ecode eI n d 330 (94, [(2, (0, 0)), (0, (1, 275)), (1, (0, x))], [], w9) _
          refine e_Pn.run (t' := (97, [(2, (0, 0)), (0, (1, 275)), (1, (0, x))], [(0, 43), (0, x)], w9)) eAlk 2 rfl ?_
          refine e_Pn.if2 eAlk rfl (fun h64 => ?_) (fun h64 => ?_)
          · show e_Pn 20 elay ecode eI n d 330 (177, [(2, (0, 0)), (0, (1, 275)), (1, (0, x))], [], w9) _
            exact e_Pn.ret0 rfl ⟨rfl, q11⟩
          · show e_Pn 20 elay ecode eI n d 330 (100, [(2, (0, 0)), (0, (1, 275)), (1, (0, x))], [], w9) _
            refine e_Pn.run (t' := (103, [(2, (0, 0)), (0, (1, 275)), (1, (0, x))], [(0, 45), (0, x)], w9)) eAlk 2 rfl ?_
            refine e_Pn.if2 eAlk rfl (fun h65 => ?_) (fun h65 => ?_)
            · show e_Pn 20 elay ecode eI n d 330 (177, [(2, (0, 0)), (0, (1, 275)), (1, (0, x))], [], w9) _
              exact e_Pn.ret0 rfl ⟨rfl, q11⟩
            · show e_Pn 20 elay ecode eI n d 330 (106, [(2, (0, 0)), (0, (1, 275)), (1, (0, x))], [], w9) _
              refine e_Pn.run (t' := (109, [(2, (0, 0)), (0, (1, 275)), (1, (0, x))], [(0, 42), (0, x)], w9)) eAlk 2 rfl ?_
              refine e_Pn.if2 eAlk rfl (fun h66 => ?_) (fun h66 => ?_)
              · show e_Pn 20 elay ecode eI n d 330 (177, [(2, (0, 0)), (0, (1, 275)), (1, (0, x))], [], w9) _
                exact e_Pn.ret0 rfl ⟨rfl, q11⟩
              · show e_Pn 20 elay ecode eI n d 330 (112, [(2, (0, 0)), (0, (1, 275)), (1, (0, x))], [], w9) _
                refine e_Pn.run (t' := (115, [(2, (0, 0)), (0, (1, 275)), (1, (0, x))], [(0, 47), (0, x)], w9)) eAlk 2 rfl ?_
                refine e_Pn.if2 eAlk rfl (fun h67 => ?_) (fun h67 => ?_)
                · show e_Pn 20 elay ecode eI n d 330 (177, [(2, (0, 0)), (0, (1, 275)), (1, (0, x))], [], w9) _
                  exact e_Pn.ret0 rfl ⟨rfl, q11⟩
                · show e_Pn 20 elay ecode eI n d 330 (118, [(2, (0, 0)), (0, (1, 275)), (1, (0, x))], [], w9) _
                  refine e_Pn.run (t' := (121, [(2, (0, 0)), (0, (1, 275)), (1, (0, x))], [(0, 37), (0, x)], w9)) eAlk 2 rfl ?_
                  refine e_Pn.if2 eAlk rfl (fun h68 => ?_) (fun h68 => ?_)
                  · show e_Pn 20 elay ecode eI n d 330 (177, [(2, (0, 0)), (0, (1, 275)), (1, (0, x))], [], w9) _
                    exact e_Pn.ret0 rfl ⟨rfl, q11⟩
                  · show e_Pn 20 elay ecode eI n d 330 (124, [(2, (0, 0)), (0, (1, 275)), (1, (0, x))], [], w9) _
                    refine e_Pn.run (t' := (127, [(2, (0, 0)), (0, (1, 275)), (1, (0, x))], [(0, 61), (0, x)], w9)) eAlk 2 rfl ?_
                    refine e_Pn.if2 eAlk rfl (fun h69 => ?_) (fun h69 => ?_)
                    · show e_Pn 20 elay ecode eI n d 330 (177, [(2, (0, 0)), (0, (1, 275)), (1, (0, x))], [], w9) _
                      exact e_Pn.ret0 rfl ⟨rfl, q11⟩
                    · show e_Pn 20 elay ecode eI n d 330 (130, [(2, (0, 0)), (0, (1, 275)), (1, (0, x))], [], w9) _
                      refine e_Pn.run (t' := (133, [(2, (0, 0)), (0, (1, 275)), (1, (0, x))], [(0, 60), (0, x)], w9)) eAlk 2 rfl ?_
                      refine e_Pn.if2 eAlk rfl (fun h70 => ?_) (fun h70 => ?_)
                      · show e_Pn 20 elay ecode eI n d 330 (177, [(2, (0, 0)), (0, (1, 275)), (1, (0, x))], [], w9) _
                        exact e_Pn.ret0 rfl ⟨rfl, q11⟩
                      · show e_Pn 20 elay ecode eI n d 330 (136, [(2, (0, 0)), (0, (1, 275)), (1, (0, x))], [], w9) _
                        refine e_Pn.run (t' := (139, [(2, (0, 0)), (0, (1, 275)), (1, (0, x))], [(0, 62), (0, x)], w9)) eAlk 2 rfl ?_
                        refine e_Pn.if2 eAlk rfl (fun h71 => ?_) (fun h71 => ?_)
                        · show e_Pn 20 elay ecode eI n d 330 (177, [(2, (0, 0)), (0, (1, 275)), (1, (0, x))], [], w9) _
                          exact e_Pn.ret0 rfl ⟨rfl, q11⟩
                        · show e_Pn 20 elay ecode eI n d 330 (142, [(2, (0, 0)), (0, (1, 275)), (1, (0, x))], [], w9) _
                          refine e_Pn.run (t' := (145, [(2, (0, 0)), (0, (1, 275)), (1, (0, x))], [(0, 40), (0, x)], w9)) eAlk 2 rfl ?_
                          refine e_Pn.if2 eAlk rfl (fun h72 => ?_) (fun h72 => ?_)
                          · show e_Pn 20 elay ecode eI n d 330 (177, [(2, (0, 0)), (0, (1, 275)), (1, (0, x))], [], w9) _
                            exact e_Pn.ret0 rfl ⟨rfl, q11⟩
                          · show e_Pn 20 elay ecode eI n d 330 (148, [(2, (0, 0)), (0, (1, 275)), (1, (0, x))], [], w9) _
                            refine e_Pn.run (t' := (151, [(2, (0, 0)), (0, (1, 275)), (1, (0, x))], [(0, 41), (0, x)], w9)) eAlk 2 rfl ?_
                            refine e_Pn.if2 eAlk rfl (fun h73 => ?_) (fun h73 => ?_)
                            · show e_Pn 20 elay ecode eI n d 330 (177, [(2, (0, 0)), (0, (1, 275)), (1, (0, x))], [], w9) _
                              exact e_Pn.ret0 rfl ⟨rfl, q11⟩
                            · show e_Pn 20 elay ecode eI n d 330 (154, [(2, (0, 0)), (0, (1, 275)), (1, (0, x))], [], w9) _
                              refine e_Pn.run (t' := (157, [(2, (0, 0)), (0, (1, 275)), (1, (0, x))], [(0, 44), (0, x)], w9)) eAlk 2 rfl ?_
                              refine e_Pn.if2 eAlk rfl (fun h74 => ?_) (fun h74 => ?_)
                              · show e_Pn 20 elay ecode eI n d 330 (177, [(2, (0, 0)), (0, (1, 275)), (1, (0, x))], [], w9) _
                                exact e_Pn.ret0 rfl ⟨rfl, q11⟩
                              · show e_Pn 20 elay ecode eI n d 330 (160, [(2, (0, 0)), (0, (1, 275)), (1, (0, x))], [], w9) _
                                refine e_Pn.run (t' := (163, [(2, (0, 0)), (0, (1, 275)), (1, (0, x))], [(0, 59), (0, x)], w9)) eAlk 2 rfl ?_
                                refine e_Pn.if2 eAlk rfl (fun h75 => ?_) (fun h75 => ?_)
                                · show e_Pn 20 elay ecode eI n d 330 (177, [(2, (0, 0)), (0, (1, 275)), (1, (0, x))], [], w9) _
                                  exact e_Pn.ret0 rfl ⟨rfl, q11⟩
                                · show e_Pn 20 elay ecode eI n d 330 (166, [(2, (0, 0)), (0, (1, 275)), (1, (0, x))], [], w9) _
                                  refine e_Pn.run (t' := (169, [(2, (0, 0)), (0, (1, 275)), (1, (0, x))], [(0, 58), (0, x)], w9)) eAlk 2 rfl ?_
                                  refine e_Pn.if2 eAlk rfl (fun h76 => ?_) (fun h76 => ?_)
                                  · show e_Pn 20 elay ecode eI n d 330 (177, [(2, (0, 0)), (0, (1, 275)), (1, (0, x))], [], w9) _
                                    exact e_Pn.ret0 rfl ⟨rfl, q11⟩
                                  · show e_Pn 20 elay ecode eI n d 330 (172, [(2, (0, 0)), (0, (1, 275)), (1, (0, x))], [], w9) _
                                    refine e_Pn.run (t' := (174, [(2, (0, 0)), (0, (1, 275)), (1, (0, x))], [(0, 5), (1, 275)], w9)) eAlk 2 rfl ?_
                                    refine e_Pn.putf eAlk rfl rfl ?_
                                    generalize hw77 : e_up w9 275 84 5 = w77
                                    have q78 : mq w w77 := mq.upF q11 hw77 (by decide) (by decide +kernel)
                                    exact e_Pn.ret0 rfl ⟨rfl, q78⟩
  · show e_Pn 20 elay ecode eI n d 330 (25, [(0, (1, 275)), (1, (0, x))], [], w9) _
    refine e_Pn.run (t' := (34, [(2, (0, 1)), (0, (1, 275)), (1, (0, x))], [(0, 33), (0, x)], w9)) eAlk 5 rfl ?_
    refine e_Pn.if2 eAlk rfl (fun h79 => ?_) (fun h79 => ?_)
    · show e_Pn 20 elay ecode eI n d 330 (49, [(2, (0, 1)), (0, (1, 275)), (1, (0, x))], [], w9) _
      refine e_Pn.run (t' := (50, [(2, (0, 1)), (0, (1, 275)), (1, (0, x))], [(0, 1)], w9)) eAlk 1 rfl ?_
      refine e_Pn.if1 eAlk rfl (fun h80 => ?_) (fun h80 => ?_)
      · exfalso; replace h80 : (1 : Int) = 0 := h80; omega
      show e_Pn 20 elay ecode eI n d 330 (53, [(2, (0, 1)), (0, (1, 275)), (1, (0, x))], [], w9) _
      refine e_Pn.run (t' := (55, [(2, (0, 1)), (0, (1, 275)), (1, (0, x))], [(1, 275), (1, 275)], w9)) eAlk 2 rfl ?_
      refine e_Pn.getf (z := w9 275 87) eAlk rfl rfl rfl (fun b81 => ?_)
      refine e_Pn.run (t' := (59, [(2, (0, 1)), (0, (1, 275)), (1, (0, x))], [(0, 1), (0, w9 275 87), (1, 275)], w9)) eAlk 1 rfl ?_
      refine e_Pn.bin0 eAlk rfl (fun z82 hz82 => ?_)
      refine e_Pn.putf eAlk rfl rfl ?_
      generalize hw83 : e_up w9 275 87 z82 = w83
      have q84 : mq w w83 := mq.upF q11 hw83 (by decide) (by decide +kernel)
      refine e_Pn.run (t' := (67, [(2, (0, 1)), (0, (1, 275)), (1, (0, x))], [(0, 33), (0, x), (1, 275)], w83)) eAlk 3 rfl ?_
      refine e_Pn.if2 eAlk rfl (fun h85 => ?_) (fun h85 => ?_)
      · show e_Pn 20 elay ecode eI n d 330 (75, [(2, (0, 1)), (0, (1, 275)), (1, (0, x))], [(1, 275)], w83) _
        refine e_Pn.run (t' := (78, [(2, (0, 1)), (0, (1, 275)), (1, (0, x))], [(0, 60), (0, x), (1, 275)], w83)) eAlk 2 rfl ?_
        refine e_Pn.if2 eAlk rfl (fun h86 => ?_) (fun h86 => ?_)
        · show e_Pn 20 elay ecode eI n d 330 (86, [(2, (0, 1)), (0, (1, 275)), (1, (0, x))], [(1, 275)], w83) _
          refine e_Pn.run (t' := (88, [(2, (0, 1)), (0, (1, 275)), (1, (0, x))], [(0, 103), (1, 275)], w83)) eAlk 1 rfl ?_
          refine e_Pn.putf eAlk rfl rfl ?_
          generalize hw87 : e_up w83 275 85 103 = w87
          have q88 : mq w w87 := mq.upF q84 hw87 (by decide) (by decide +kernel)
          refine e_Pn.run (t' := (177, [(2, (0, 1)), (0, (1, 275)), (1, (0, x))], [], w87)) eAlk 1 rfl ?_
          exact e_Pn.ret0 rfl ⟨rfl, q88⟩
        · show e_Pn 20 elay ecode eI n d 330 (81, [(2, (0, 1)), (0, (1, 275)), (1, (0, x))], [(1, 275)], w83) _
          refine e_Pn.run (t' := (88, [(2, (0, 1)), (0, (1, 275)), (1, (0, x))], [(0, 108), (1, 275)], w83)) eAlk 2 rfl ?_
          refine e_Pn.putf eAlk rfl rfl ?_
          generalize hw89 : e_up w83 275 85 108 = w89
          have q90 : mq w w89 := mq.upF q84 hw89 (by decide) (by decide +kernel)
          refine e_Pn.run (t' := (177, [(2, (0, 1)), (0, (1, 275)), (1, (0, x))], [], w89)) eAlk 1 rfl ?_
          exact e_Pn.ret0 rfl ⟨rfl, q90⟩
      · show e_Pn 20 elay ecode eI n d 330 (70, [(2, (0, 1)), (0, (1, 275)), (1, (0, x))], [(1, 275)], w83) _
        refine e_Pn.run (t' := (88, [(2, (0, 1)), (0, (1, 275)), (1, (0, x))], [(0, 110), (1, 275)], w83)) eAlk 2 rfl ?_
        refine e_Pn.putf eAlk rfl rfl ?_
        generalize hw91 : e_up w83 275 85 110 = w91
        have q92 : mq w w91 := mq.upF q84 hw91 (by decide) (by decide +kernel)
        refine e_Pn.run (t' := (177, [(2, (0, 1)), (0, (1, 275)), (1, (0, x))], [], w91)) eAlk 1 rfl ?_
        exact e_Pn.ret0 rfl ⟨rfl, q92⟩
    · show e_Pn 20 elay ecode eI n d 330 (37, [(2, (0, 1)), (0, (1, 275)), (1, (0, x))], [], w9) _
      refine e_Pn.run (t' := (40, [(2, (0, 1)), (0, (1, 275)), (1, (0, x))], [(0, 60), (0, x)], w9)) eAlk 2 rfl ?_
      refine e_Pn.if2 eAlk rfl (fun h93 => ?_) (fun h93 => ?_)
      · show e_Pn 20 elay ecode eI n d 330 (49, [(2, (0, 1)), (0, (1, 275)), (1, (0, x))], [], w9) _
        refine e_Pn.run (t' := (50, [(2, (0, 1)), (0, (1, 275)), (1, (0, x))], [(0, 1)], w9)) eAlk 1 rfl ?_
        refine e_Pn.if1 eAlk rfl (fun h94 => ?_) (fun h94 => ?_)
        · exfalso; replace h94 : (1 : Int) = 0 := h94; omega
        show e_Pn 20 elay ecode eI n d 330 (53, [(2, (0, 1)), (0, (1, 275)), (1, (0, x))], [], w9) _
        refine e_Pn.run (t' := (55, [(2, (0, 1)), (0, (1, 275)), (1, (0, x))], [(1, 275), (1, 275)], w9)) eAlk 2 rfl ?_
        refine e_Pn.getf (z := w9 275 87) eAlk rfl rfl rfl (fun b95 => ?_)
        refine e_Pn.run (t' := (59, [(2, (0, 1)), (0, (1, 275)), (1, (0, x))], [(0, 1), (0, w9 275 87), (1, 275)], w9)) eAlk 1 rfl ?_
        refine e_Pn.bin0 eAlk rfl (fun z96 hz96 => ?_)
        refine e_Pn.putf eAlk rfl rfl ?_
        generalize hw97 : e_up w9 275 87 z96 = w97
        have q98 : mq w w97 := mq.upF q11 hw97 (by decide) (by decide +kernel)
        refine e_Pn.run (t' := (67, [(2, (0, 1)), (0, (1, 275)), (1, (0, x))], [(0, 33), (0, x), (1, 275)], w97)) eAlk 3 rfl ?_
        refine e_Pn.if2 eAlk rfl (fun h99 => ?_) (fun h99 => ?_)
        · show e_Pn 20 elay ecode eI n d 330 (75, [(2, (0, 1)), (0, (1, 275)), (1, (0, x))], [(1, 275)], w97) _
          refine e_Pn.run (t' := (78, [(2, (0, 1)), (0, (1, 275)), (1, (0, x))], [(0, 60), (0, x), (1, 275)], w97)) eAlk 2 rfl ?_
          refine e_Pn.if2 eAlk rfl (fun h100 => ?_) (fun h100 => ?_)
          · show e_Pn 20 elay ecode eI n d 330 (86, [(2, (0, 1)), (0, (1, 275)), (1, (0, x))], [(1, 275)], w97) _
            refine e_Pn.run (t' := (88, [(2, (0, 1)), (0, (1, 275)), (1, (0, x))], [(0, 103), (1, 275)], w97)) eAlk 1 rfl ?_
            refine e_Pn.putf eAlk rfl rfl ?_
            generalize hw101 : e_up w97 275 85 103 = w101
            have q102 : mq w w101 := mq.upF q98 hw101 (by decide) (by decide +kernel)
            refine e_Pn.run (t' := (177, [(2, (0, 1)), (0, (1, 275)), (1, (0, x))], [], w101)) eAlk 1 rfl ?_
            exact e_Pn.ret0 rfl ⟨rfl, q102⟩
          · show e_Pn 20 elay ecode eI n d 330 (81, [(2, (0, 1)), (0, (1, 275)), (1, (0, x))], [(1, 275)], w97) _
            refine e_Pn.run (t' := (88, [(2, (0, 1)), (0, (1, 275)), (1, (0, x))], [(0, 108), (1, 275)], w97)) eAlk 2 rfl ?_
            refine e_Pn.putf eAlk rfl rfl ?_
            generalize hw103 : e_up w97 275 85 108 = w103
            have q104 : mq w w103 := mq.upF q98 hw103 (by decide) (by decide +kernel)
            refine e_Pn.run (t' := (177, [(2, (0, 1)), (0, (1, 275)), (1, (0, x))], [], w103)) eAlk 1 rfl ?_
            exact e_Pn.ret0 rfl ⟨rfl, q104⟩
        · show e_Pn 20 elay ecode eI n d 330 (70, [(2, (0, 1)), (0, (1, 275)), (1, (0, x))], [(1, 275)], w97) _
          refine e_Pn.run (t' := (88, [(2, (0, 1)), (0, (1, 275)), (1, (0, x))], [(0, 110), (1, 275)], w97)) eAlk 2 rfl ?_
          refine e_Pn.putf eAlk rfl rfl ?_
          generalize hw105 : e_up w97 275 85 110 = w105
          have q106 : mq w w105 := mq.upF q98 hw105 (by decide) (by decide +kernel)
          refine e_Pn.run (t' := (177, [(2, (0, 1)), (0, (1, 275)), (1, (0, x))], [], w105)) eAlk 1 rfl ?_
          exact e_Pn.ret0 rfl ⟨rfl, q106⟩
      · show e_Pn 20 elay ecode eI n d 330 (43, [(2, (0, 1)), (0, (1, 275)), (1, (0, x))], [], w9) _
        refine e_Pn.run (t' := (46, [(2, (0, 1)), (0, (1, 275)), (1, (0, x))], [(0, 62), (0, x)], w9)) eAlk 2 rfl ?_
        refine e_Pn.if2 eAlk rfl (fun h107 => ?_) (fun h107 => ?_)
        · show e_Pn 20 elay ecode eI n d 330 (94, [(2, (0, 1)), (0, (1, 275)), (1, (0, x))], [], w9) _
          refine e_Pn.run (t' := (97, [(2, (0, 1)), (0, (1, 275)), (1, (0, x))], [(0, 43), (0, x)], w9)) eAlk 2 rfl ?_
          refine e_Pn.if2 eAlk rfl (fun h108 => ?_) (fun h108 => ?_)
          · show e_Pn 20 elay ecode eI n d 330 (177, [(2, (0, 1)), (0, (1, 275)), (1, (0, x))], [], w9) _
            exact e_Pn.ret0 rfl ⟨rfl, q11⟩
          · show e_Pn 20 elay ecode eI n d 330 (100, [(2, (0, 1)), (0, (1, 275)), (1, (0, x))], [], w9) _
            refine e_Pn.run (t' := (103, [(2, (0, 1)), (0, (1, 275)), (1, (0, x))], [(0, 45), (0, x)], w9)) eAlk 2 rfl ?_
            refine e_Pn.if2 eAlk rfl (fun h109 => ?_) (fun h109 => ?_)
            · show e_Pn 20 elay ecode eI n d 330 (177, [(2, (0, 1)), (0, (1, 275)), (1, (0, x))], [], w9) _
              exact e_Pn.ret0 rfl ⟨rfl, q11⟩
            · show e_Pn 20 elay ecode eI n d 330 (106, [(2, (0, 1)), (0, (1, 275)), (1, (0, x))], [], w9) _
              refine e_Pn.run (t' := (109, [(2, (0, 1)), (0, (1, 275)), (1, (0, x))], [(0, 42), (0, x)], w9)) eAlk 2 rfl ?_
              refine e_Pn.if2 eAlk rfl (fun h110 => ?_) (fun h110 => ?_)
              · show e_Pn 20 elay ecode eI n d 330 (177, [(2, (0, 1)), (0, (1, 275)), (1, (0, x))], [], w9) _
                exact e_Pn.ret0 rfl ⟨rfl, q11⟩
              · show e_Pn 20 elay ecode eI n d 330 (112, [(2, (0, 1)), (0, (1, 275)), (1, (0, x))], [], w9) _
                refine e_Pn.run (t' := (115, [(2, (0, 1)), (0, (1, 275)), (1, (0, x))], [(0, 47), (0, x)], w9)) eAlk 2 rfl ?_
                refine e_Pn.if2 eAlk rfl (fun h111 => ?_) (fun h111 => ?_)
                · show e_Pn 20 elay ecode eI n d 330 (177, [(2, (0, 1)), (0, (1, 275)), (1, (0, x))], [], w9) _
                  exact e_Pn.ret0 rfl ⟨rfl, q11⟩
                · show e_Pn 20 elay ecode eI n d 330 (118, [(2, (0, 1)), (0, (1, 275)), (1, (0, x))], [], w9) _
                  refine e_Pn.run (t' := (121, [(2, (0, 1)), (0, (1, 275)), (1, (0, x))], [(0, 37), (0, x)], w9)) eAlk 2 rfl ?_
                  refine e_Pn.if2 eAlk rfl (fun h112 => ?_) (fun h112 => ?_)
                  · show e_Pn 20 elay ecode eI n d 330 (177, [(2, (0, 1)), (0, (1, 275)), (1, (0, x))], [], w9) _
                    exact e_Pn.ret0 rfl ⟨rfl, q11⟩
                  · show e_Pn 20 elay ecode eI n d 330 (124, [(2, (0, 1)), (0, (1, 275)), (1, (0, x))], [], w9) _
                    refine e_Pn.run (t' := (127, [(2, (0, 1)), (0, (1, 275)), (1, (0, x))], [(0, 61), (0, x)], w9)) eAlk 2 rfl ?_
                    refine e_Pn.if2 eAlk rfl (fun h113 => ?_) (fun h113 => ?_)
                    · show e_Pn 20 elay ecode eI n d 330 (177, [(2, (0, 1)), (0, (1, 275)), (1, (0, x))], [], w9) _
                      exact e_Pn.ret0 rfl ⟨rfl, q11⟩
                    · show e_Pn 20 elay ecode eI n d 330 (130, [(2, (0, 1)), (0, (1, 275)), (1, (0, x))], [], w9) _
                      refine e_Pn.run (t' := (133, [(2, (0, 1)), (0, (1, 275)), (1, (0, x))], [(0, 60), (0, x)], w9)) eAlk 2 rfl ?_
                      refine e_Pn.if2 eAlk rfl (fun h114 => ?_) (fun h114 => ?_)
                      · show e_Pn 20 elay ecode eI n d 330 (177, [(2, (0, 1)), (0, (1, 275)), (1, (0, x))], [], w9) _
                        exact e_Pn.ret0 rfl ⟨rfl, q11⟩
                      · show e_Pn 20 elay ecode eI n d 330 (136, [(2, (0, 1)), (0, (1, 275)), (1, (0, x))], [], w9) _
                        refine e_Pn.run (t' := (139, [(2, (0, 1)), (0, (1, 275)), (1, (0, x))], [(0, 62), (0, x)], w9)) eAlk 2 rfl ?_
                        refine e_Pn.if2 eAlk rfl (fun h115 => ?_) (fun h115 => ?_)
                        · show e_Pn 20 elay ecode eI n d 330 (177, [(2, (0, 1)), (0, (1, 275)), (1, (0, x))], [], w9) _
                          exact e_Pn.ret0 rfl ⟨rfl, q11⟩
                        · show e_Pn 20 elay ecode eI n d 330 (142, [(2, (0, 1)), (0, (1, 275)), (1, (0, x))], [], w9) _
                          refine e_Pn.run (t' := (145, [(2, (0, 1)), (0, (1, 275)), (1, (0, x))], [(0, 40), (0, x)], w9)) eAlk 2 rfl ?_
                          refine e_Pn.if2 eAlk rfl (fun h116 => ?_) (fun h116 => ?_)
                          · show e_Pn 20 elay ecode eI n d 330 (177, [(2, (0, 1)), (0, (1, 275)), (1, (0, x))], [], w9) _
                            exact e_Pn.ret0 rfl ⟨rfl, q11⟩
                          · show e_Pn 20 elay ecode eI n d 330 (148, [(2, (0, 1)), (0, (1, 275)), (1, (0, x))], [], w9) _
                            refine e_Pn.run (t' := (151, [(2, (0, 1)), (0, (1, 275)), (1, (0, x))], [(0, 41), (0, x)], w9)) eAlk 2 rfl ?_
                            refine e_Pn.if2 eAlk rfl (fun h117 => ?_) (fun h117 => ?_)
                            · show e_Pn 20 elay ecode eI n d 330 (177, [(2, (0, 1)), (0, (1, 275)), (1, (0, x))], [], w9) _
                              exact e_Pn.ret0 rfl ⟨rfl, q11⟩
                            · show e_Pn 20 elay ecode eI n d 330 (154, [(2, (0, 1)), (0, (1, 275)), (1, (0, x))], [], w9) _
                              refine e_Pn.run (t' := (157, [(2, (0, 1)), (0, (1, 275)), (1, (0, x))], [(0, 44), (0, x)], w9)) eAlk 2 rfl ?_
                              refine e_Pn.if2 eAlk rfl (fun h118 => ?_) (fun h118 => ?_)
                              · show e_Pn 20 elay ecode eI n d 330 (177, [(2, (0, 1)), (0, (1, 275)), (1, (0, x))], [], w9) _
                                exact e_Pn.ret0 rfl ⟨rfl, q11⟩
                              · show e_Pn 20 elay ecode eI n d 330 (160, [(2, (0, 1)), (0, (1, 275)), (1, (0, x))], [], w9) _
                                refine e_Pn.run (t' := (163, [(2, (0, 1)), (0, (1, 275)), (1, (0, x))], [(0, 59), (0, x)], w9)) eAlk 2 rfl ?_
                                refine e_Pn.if2 eAlk rfl (fun h119 => ?_) (fun h119 => ?_)
                                · show e_Pn 20 elay ecode eI n d 330 (177, [(2, (0, 1)), (0, (1, 275)), (1, (0, x))], [], w9) _
                                  exact e_Pn.ret0 rfl ⟨rfl, q11⟩
                                · show e_Pn 20 elay ecode eI n d 330 (166, [(2, (0, 1)), (0, (1, 275)), (1, (0, x))], [], w9) _
                                  refine e_Pn.run (t' := (169, [(2, (0, 1)), (0, (1, 275)), (1, (0, x))], [(0, 58), (0, x)], w9)) eAlk 2 rfl ?_
                                  refine e_Pn.if2 eAlk rfl (fun h120 => ?_) (fun h120 => ?_)
                                  · show e_Pn 20 elay ecode eI n d 330 (177, [(2, (0, 1)), (0, (1, 275)), (1, (0, x))], [], w9) _
                                    exact e_Pn.ret0 rfl ⟨rfl, q11⟩
                                  · show e_Pn 20 elay ecode eI n d 330 (172, [(2, (0, 1)), (0, (1, 275)), (1, (0, x))], [], w9) _
                                    refine e_Pn.run (t' := (174, [(2, (0, 1)), (0, (1, 275)), (1, (0, x))], [(0, 5), (1, 275)], w9)) eAlk 2 rfl ?_
                                    refine e_Pn.putf eAlk rfl rfl ?_
                                    generalize hw121 : e_up w9 275 84 5 = w121
                                    have q122 : mq w w121 := mq.upF q11 hw121 (by decide) (by decide +kernel)
                                    exact e_Pn.ret0 rfl ⟨rfl, q122⟩
        · show e_Pn 20 elay ecode eI n d 330 (49, [(2, (0, 1)), (0, (1, 275)), (1, (0, x))], [], w9) _
          refine e_Pn.run (t' := (50, [(2, (0, 1)), (0, (1, 275)), (1, (0, x))], [(0, 1)], w9)) eAlk 1 rfl ?_
          refine e_Pn.if1 eAlk rfl (fun h123 => ?_) (fun h123 => ?_)
          · exfalso; replace h123 : (1 : Int) = 0 := h123; omega
          show e_Pn 20 elay ecode eI n d 330 (53, [(2, (0, 1)), (0, (1, 275)), (1, (0, x))], [], w9) _
          refine e_Pn.run (t' := (55, [(2, (0, 1)), (0, (1, 275)), (1, (0, x))], [(1, 275), (1, 275)], w9)) eAlk 2 rfl ?_
          refine e_Pn.getf (z := w9 275 87) eAlk rfl rfl rfl (fun b124 => ?_)
          refine e_Pn.run (t' := (59, [(2, (0, 1)), (0, (1, 275)), (1, (0, x))], [(0, 1), (0, w9 275 87), (1, 275)], w9)) eAlk 1 rfl ?_
          refine e_Pn.bin0 eAlk rfl (fun z125 hz125 => ?_)
          refine e_Pn.putf eAlk rfl rfl ?_
          generalize hw126 : e_up w9 275 87 z125 = w126
          have q127 : mq w w126 := mq.upF q11 hw126 (by decide) (by decide +kernel)
          refine e_Pn.run (t' := (67, [(2, (0, 1)), (0, (1, 275)), (1, (0, x))], [(0, 33), (0, x), (1, 275)], w126)) eAlk 3 rfl ?_
          refine e_Pn.if2 eAlk rfl (fun h128 => ?_) (fun h128 => ?_)
          · show e_Pn 20 elay ecode eI n d 330 (75, [(2, (0, 1)), (0, (1, 275)), (1, (0, x))], [(1, 275)], w126) _
            refine e_Pn.run (t' := (78, [(2, (0, 1)), (0, (1, 275)), (1, (0, x))], [(0, 60), (0, x), (1, 275)], w126)) eAlk 2 rfl ?_
            refine e_Pn.if2 eAlk rfl (fun h129 => ?_) (fun h129 => ?_)
            · show e_Pn 20 elay ecode eI n d 330 (86, [(2, (0, 1)), (0, (1, 275)), (1, (0, x))], [(1, 275)], w126) _
              refine e_Pn.run (t' := (88, [(2, (0, 1)), (0, (1, 275)), (1, (0, x))], [(0, 103), (1, 275)], w126)) eAlk 1 rfl ?_
              refine e_Pn.putf eAlk rfl rfl ?_
              generalize hw130 : e_up w126 275 85 103 = w130
              have q131 : mq w w130 := mq.upF q127 hw130 (by decide) (by decide +kernel)
              refine e_Pn.run (t' := (177, [(2, (0, 1)), (0, (1, 275)), (1, (0, x))], [], w130)) eAlk 1 rfl ?_
              exact e_Pn.ret0 rfl ⟨rfl, q131⟩
            · show e_Pn 20 elay ecode eI n d 330 (81, [(2, (0, 1)), (0, (1, 275)), (1, (0, x))], [(1, 275)], w126) _
              refine e_Pn.run (t' := (88, [(2, (0, 1)), (0, (1, 275)), (1, (0, x))], [(0, 108), (1, 275)], w126)) eAlk 2 rfl ?_
              refine e_Pn.putf eAlk rfl rfl ?_
              generalize hw132 : e_up w126 275 85 108 = w132
              have q133 : mq w w132 := mq.upF q127 hw132 (by decide) (by decide +kernel)
              refine e_Pn.run (t' := (177, [(2, (0, 1)), (0, (1, 275)), (1, (0, x))], [], w132)) eAlk 1 rfl ?_
              exact e_Pn.ret0 rfl ⟨rfl, q133⟩
          · show e_Pn 20 elay ecode eI n d 330 (70, [(2, (0, 1)), (0, (1, 275)), (1, (0, x))], [(1, 275)], w126) _
            refine e_Pn.run (t' := (88, [(2, (0, 1)), (0, (1, 275)), (1, (0, x))], [(0, 110), (1, 275)], w126)) eAlk 2 rfl ?_
            refine e_Pn.putf eAlk rfl rfl ?_
            generalize hw134 : e_up w126 275 85 110 = w134
            have q135 : mq w w134 := mq.upF q127 hw134 (by decide) (by decide +kernel)
            refine e_Pn.run (t' := (177, [(2, (0, 1)), (0, (1, 275)), (1, (0, x))], [], w134)) eAlk 1 rfl ?_
            exact e_Pn.ret0 rfl ⟨rfl, q135⟩
set_option maxHeartbeats 4000000 in
theorem u_327 {n d : Nat} {w : eW} (hR : mRw w) : e_Pn 20 elay ecode eI n d 327 (0, [(0, (1, 275))], [], w) (fun r w' => r = [] ∧ mq w w') := by
  refine e_Pn.run (t' := (1, [(0, (1, 275))], [(1, 275)], w)) eAlk 1 rfl ?_
  refine e_Pn.getf (z := w 275 87) eAlk rfl rfl rfl (fun b1 => ?_)
  refine e_Pn.run (t' := (7, [(2, (0, 1)), (1, (0, w 275 87)), (0, (1, 275))], [], w)) eAlk 3 rfl ?_
  have hL2 : ∀ nn4 : Nat, nn4 ≤ n → ∀ (tl5 : eL) (y8 : Int) (y9 : Int) (w6 : eW), mq w w6 → e_Pn 20 elay ecode eI nn4 d 327 (7, (0, (1, 275)) :: (1, (0, y8)) :: (2, (0, y9)) :: tl5, [], w6) (fun r w' => r = [] ∧ mq w w') := by
    intro nn4
    induction nn4 with
    | zero => intro _ tl5 y8 y9 w6 _; exact e_Pn.zero
    | succ nn4 ih3 =>
      intro hnnn4 tl5 y8 y9 w6 q7
      refine e_Pn.runS (t' := (8, (0, (1, 275)) :: (1, (0, y8)) :: (2, (0, y9)) :: tl5, [(0, y9)], w6)) eAlk 0 rfl ?_
      refine e_Pn.if1 eAlk rfl (fun h10 => ?_) (fun h10 => ?_)
      · show e_Pn 20 elay ecode eI nn4 d 327 (85, (0, (1, 275)) :: (1, (0, y8)) :: (2, (0, y9)) :: tl5, [], w6) _
        refine e_Pn.run (t' := (87, (0, (1, 275)) :: (1, (0, y8)) :: (2, (0, y9)) :: tl5, [(0, y8), (1, 275)], w6)) eAlk 2 rfl ?_
        refine e_Pn.putf eAlk rfl rfl ?_
        generalize hw11 : e_up w6 275 86 y8 = w11
        have q12 : mq w w11 := mq.upF q7 hw11 (by decide) (by decide +kernel)
        refine e_Pn.run (t' := (93, (0, (1, 275)) :: (1, (0, y8)) :: (2, (0, y9)) :: tl5, [(0, 1), (0, y8), (1, 275)], w11)) eAlk 3 rfl ?_
        refine e_Pn.bin0 eAlk rfl (fun z13 hz13 => ?_)
        refine e_Pn.putf eAlk rfl rfl ?_
        generalize hw14 : e_up w11 275 87 z13 = w14
        have q15 : mq w w14 := mq.upF q12 hw14 (by decide) (by decide +kernel)
        refine e_Pn.run (t' := (99, (0, (1, 275)) :: (1, (0, y8)) :: (2, (0, y9)) :: tl5, [(0, 0), (1, 275)], w14)) eAlk 2 rfl ?_
        refine e_Pn.putf eAlk rfl rfl ?_
        generalize hw16 : e_up w14 275 85 0 = w16
        have q17 : mq w w16 := mq.upF q15 hw16 (by decide) (by decide +kernel)
        refine e_Pn.run (t' := (104, (0, (1, 275)) :: (1, (0, y8)) :: (2, (0, y9)) :: tl5, [(0, y8), (1, 275)], w16)) eAlk 2 rfl ?_
        refine e_Pn.callA rfl (fun n9 d9 => u_326 (q17.rf hR)) (fun r19 w20 h18 => ?_)
        obtain ⟨⟨z21, rfl⟩, h18⟩ := h18
        have q22 := q17.tr h18
        show e_Pn 20 elay ecode eI nn4 d 327 (107, (0, (1, 275)) :: (1, (0, y8)) :: (2, (0, y9)) :: tl5, [(0, z21)], w20) _
        refine e_Pn.run (t' := (110, (3, (0, z21)) :: (0, (1, 275)) :: (1, (0, y8)) :: (2, (0, y9)) :: List.filter (e_flt 0 3) tl5, [(1, 275), (0, y8)], w20)) eAlk 3 rfl ?_
        refine e_Pn.getf (z := w20 275 9) eAlk rfl rfl rfl (fun b23 => ?_)
        refine e_Pn.if2 eAlk rfl (fun h24 => ?_) (fun h24 => ?_)
        · show e_Pn 20 elay ecode eI nn4 d 327 (129, (3, (0, z21)) :: (0, (1, 275)) :: (1, (0, y8)) :: (2, (0, y9)) :: List.filter (e_flt 0 3) tl5, [], w20) _
          refine e_Pn.run (t' := (130, (3, (0, z21)) :: (0, (1, 275)) :: (1, (0, y8)) :: (2, (0, y9)) :: List.filter (e_flt 0 3) tl5, [(0, z21)], w20)) eAlk 1 rfl ?_
          refine e_Pn.callA rfl (fun n9 d9 => u_324 (q22.rf hR)) (fun r26 w27 h25 => ?_)
          obtain ⟨⟨z28, rfl⟩, h25⟩ := h25
          have q29 := q22.tr h25
          show e_Pn 20 elay ecode eI nn4 d 327 (133, (3, (0, z21)) :: (0, (1, 275)) :: (1, (0, y8)) :: (2, (0, y9)) :: List.filter (e_flt 0 3) tl5, [(0, z28)], w27) _
          refine e_Pn.if1 eAlk rfl (fun h30 => ?_) (fun h30 => ?_)
          · show e_Pn 20 elay ecode eI nn4 d 327 (143, (3, (0, z21)) :: (0, (1, 275)) :: (1, (0, y8)) :: (2, (0, y9)) :: List.filter (e_flt 0 3) tl5, [], w27) _
            refine e_Pn.run (t' := (144, (3, (0, z21)) :: (0, (1, 275)) :: (1, (0, y8)) :: (2, (0, y9)) :: List.filter (e_flt 0 3) tl5, [(0, z21)], w27)) eAlk 1 rfl ?_
            refine e_Pn.callA rfl (fun n9 d9 => u_325 (q29.rf hR)) (fun r32 w33 h31 => ?_)
            obtain ⟨⟨z34, rfl⟩, h31⟩ := h31
            have q35 := q29.tr h31
            show e_Pn 20 elay ecode eI nn4 d 327 (147, (3, (0, z21)) :: (0, (1, 275)) :: (1, (0, y8)) :: (2, (0, y9)) :: List.filter (e_flt 0 3) tl5, [(0, z34)], w33) _
            refine e_Pn.if1 eAlk rfl (fun h36 => ?_) (fun h36 => ?_)
            · show e_Pn 20 elay ecode eI nn4 d 327 (157, (3, (0, z21)) :: (0, (1, 275)) :: (1, (0, y8)) :: (2, (0, y9)) :: List.filter (e_flt 0 3) tl5, [], w33) _
              refine e_Pn.run (t' := (159, (3, (0, z21)) :: (0, (1, 275)) :: (1, (0, y8)) :: (2, (0, y9)) :: List.filter (e_flt 0 3) tl5, [(0, z21), (1, 275)], w33)) eAlk 2 rfl ?_
              refine e_Pn.callA rfl (fun n9 d9 => u_330 (q35.rf hR)) (fun r38 w39 h37 => ?_)
              obtain ⟨rfl, h37⟩ := h37
              have q40 := q35.tr h37
              show e_Pn 20 elay ecode eI nn4 d 327 (162, (3, (0, z21)) :: (0, (1, 275)) :: (1, (0, y8)) :: (2, (0, y9)) :: List.filter (e_flt 0 3) tl5, [], w39) _
              exact e_Pn.ret0 rfl ⟨rfl, q40⟩
            · show e_Pn 20 elay ecode eI nn4 d 327 (150, (3, (0, z21)) :: (0, (1, 275)) :: (1, (0, y8)) :: (2, (0, y9)) :: List.filter (e_flt 0 3) tl5, [], w33) _
              refine e_Pn.run (t' := (151, (3, (0, z21)) :: (0, (1, 275)) :: (1, (0, y8)) :: (2, (0, y9)) :: List.filter (e_flt 0 3) tl5, [(1, 275)], w33)) eAlk 1 rfl ?_
              refine e_Pn.callA rfl (fun n9 d9 => u_329 (q35.rf hR)) (fun r42 w43 h41 => ?_)
              obtain ⟨rfl, h41⟩ := h41
              have q44 := q35.tr h41
              show e_Pn 20 elay ecode eI nn4 d 327 (154, (3, (0, z21)) :: (0, (1, 275)) :: (1, (0, y8)) :: (2, (0, y9)) :: List.filter (e_flt 0 3) tl5, [], w43) _
              refine e_Pn.run (t' := (162, (3, (0, z21)) :: (0, (1, 275)) :: (1, (0, y8)) :: (2, (0, y9)) :: List.filter (e_flt 0 3) tl5, [], w43)) eAlk 1 rfl ?_
              exact e_Pn.ret0 rfl ⟨rfl, q44⟩
          · show e_Pn 20 elay ecode eI nn4 d 327 (136, (3, (0, z21)) :: (0, (1, 275)) :: (1, (0, y8)) :: (2, (0, y9)) :: List.filter (e_flt 0 3) tl5, [], w27) _
            refine e_Pn.run (t' := (137, (3, (0, z21)) :: (0, (1, 275)) :: (1, (0, y8)) :: (2, (0, y9)) :: List.filter (e_flt 0 3) tl5, [(1, 275)], w27)) eAlk 1 rfl ?_
            refine e_Pn.callA rfl (fun n9 d9 => u_328 (q29.rf hR)) (fun r46 w47 h45 => ?_)
            obtain ⟨rfl, h45⟩ := h45
            have q48 := q29.tr h45
            show e_Pn 20 elay ecode eI nn4 d 327 (140, (3, (0, z21)) :: (0, (1, 275)) :: (1, (0, y8)) :: (2, (0, y9)) :: List.filter (e_flt 0 3) tl5, [], w47) _
            refine e_Pn.run (t' := (162, (3, (0, z21)) :: (0, (1, 275)) :: (1, (0, y8)) :: (2, (0, y9)) :: List.filter (e_flt 0 3) tl5, [], w47)) eAlk 1 rfl ?_
            exact e_Pn.ret0 rfl ⟨rfl, q48⟩
        · show e_Pn 20 elay ecode eI nn4 d 327 (116, (3, (0, z21)) :: (0, (1, 275)) :: (1, (0, y8)) :: (2, (0, y9)) :: List.filter (e_flt 0 3) tl5, [], w20) _
          refine e_Pn.run (t' := (118, (3, (0, z21)) :: (0, (1, 275)) :: (1, (0, y8)) :: (2, (0, y9)) :: List.filter (e_flt 0 3) tl5, [(0, 0), (1, 275)], w20)) eAlk 2 rfl ?_
          refine e_Pn.putf eAlk rfl rfl ?_
          generalize hw49 : e_up w20 275 84 0 = w49
          have q50 : mq w w49 := mq.upF q22 hw49 (by decide) (by decide +kernel)
          refine e_Pn.run (t' := (123, (3, (0, z21)) :: (0, (1, 275)) :: (1, (0, y8)) :: (2, (0, y9)) :: List.filter (e_flt 0 3) tl5, [(0, y8), (1, 275)], w49)) eAlk 2 rfl ?_
          refine e_Pn.putf eAlk rfl rfl ?_
          generalize hw51 : e_up w49 275 87 y8 = w51
          have q52 : mq w w51 := mq.upF q50 hw51 (by decide) (by decide +kernel)
          refine e_Pn.run (t' := (162, (3, (0, z21)) :: (0, (1, 275)) :: (1, (0, y8)) :: (2, (0, y9)) :: List.filter (e_flt 0 3) tl5, [], w51)) eAlk 1 rfl ?_
          exact e_Pn.ret0 rfl ⟨rfl, q52⟩
      · show e_Pn 20 elay ecode eI nn4 d 327 (11, (0, (1, 275)) :: (1, (0, y8)) :: (2, (0, y9)) :: tl5, [], w6) _
        refine e_Pn.run (t' := (13, (0, (1, 275)) :: (1, (0, y8)) :: (2, (0, y9)) :: tl5, [(1, 275), (0, y8)], w6)) eAlk 2 rfl ?_
        refine e_Pn.getf (z := w6 275 9) eAlk rfl rfl rfl (fun b53 => ?_)
        refine e_Pn.if2 eAlk rfl (fun h54 => ?_) (fun h54 => ?_)
        · show e_Pn 20 elay ecode eI nn4 d 327 (45, (0, (1, 275)) :: (1, (0, y8)) :: (2, (0, y9)) :: tl5, [], w6) _
          refine e_Pn.run (t' := (47, (0, (1, 275)) :: (1, (0, y8)) :: (2, (0, y9)) :: tl5, [(0, y8), (1, 275)], w6)) eAlk 2 rfl ?_
          refine e_Pn.callA rfl (fun n9 d9 => u_326 (q7.rf hR)) (fun r56 w57 h55 => ?_)
          obtain ⟨⟨z58, rfl⟩, h55⟩ := h55
          have q59 := q7.tr h55
          show e_Pn 20 elay ecode eI nn4 d 327 (50, (0, (1, 275)) :: (1, (0, y8)) :: (2, (0, y9)) :: tl5, [(0, z58)], w57) _
          refine e_Pn.run (t' := (52, (0, (1, 275)) :: (1, (0, y8)) :: (2, (0, y9)) :: tl5, [(0, 35), (0, z58)], w57)) eAlk 1 rfl ?_
          refine e_Pn.if2 eAlk rfl (fun h60 => ?_) (fun h60 => ?_)
          · show e_Pn 20 elay ecode eI nn4 d 327 (80, (0, (1, 275)) :: (1, (0, y8)) :: (2, (0, y9)) :: tl5, [], w57) _
            refine e_Pn.run (t' := (7, (2, (0, 0)) :: (0, (1, 275)) :: (1, (0, y8)) :: List.filter (e_flt 0 2) tl5, [], w57)) eAlk 3 rfl ?_
            exact e_Pn.ord eAlk [0, 1, 2] rfl rfl ((ih3 (by omega) _ y8 0 w57 q59).le (by omega))
          · show e_Pn 20 elay ecode eI nn4 d 327 (55, (0, (1, 275)) :: (1, (0, y8)) :: (2, (0, y9)) :: tl5, [], w57) _
            have hL61 : ∀ nn63 : Nat, nn63 ≤ nn4 → ∀ (tl64 : eL) (y67 : Int) (y68 : Int) (w65 : eW), mq w w65 → e_Pn 20 elay ecode eI nn63 d 327 (55, (0, (1, 275)) :: (1, (0, y67)) :: (2, (0, y68)) :: tl64, [], w65) (fun r w' => r = [] ∧ mq w w') := by
              intro nn63
              induction nn63 with
              | zero => intro _ tl64 y67 y68 w65 _; exact e_Pn.zero
              | succ nn63 ih62 =>
                intro hnnn63 tl64 y67 y68 w65 q66
                refine e_Pn.runS (t' := (57, (0, (1, 275)) :: (1, (0, y67)) :: (2, (0, y68)) :: tl64, [(1, 275), (0, y67)], w65)) eAlk 1 rfl ?_
                refine e_Pn.getf (z := w65 275 9) eAlk rfl rfl rfl (fun b69 => ?_)
                refine e_Pn.if2 eAlk rfl (fun h70 => ?_) (fun h70 => ?_)
                · show e_Pn 20 elay ecode eI nn63 d 327 (7, (0, (1, 275)) :: (1, (0, y67)) :: (2, (0, y68)) :: tl64, [], w65) _
                  exact e_Pn.ord eAlk [0, 1, 2] rfl rfl ((ih3 (by omega) _ y67 y68 w65 q66).le (by omega))
                · show e_Pn 20 elay ecode eI nn63 d 327 (63, (0, (1, 275)) :: (1, (0, y67)) :: (2, (0, y68)) :: tl64, [], w65) _
                  refine e_Pn.run (t' := (64, (0, (1, 275)) :: (1, (0, y67)) :: (2, (0, y68)) :: tl64, [(1, 275)], w65)) eAlk 1 rfl ?_
                  refine e_Pn.getr (z := 281) eAlk rfl rfl (q66.rf hR (8, 281) (by decide)) (by omega) ?_
                  refine e_Pn.run (t' := (68, (0, (1, 275)) :: (1, (0, y67)) :: (2, (0, y68)) :: tl64, [(0, y67), (1, 281)], w65)) eAlk 1 rfl ?_
                  refine e_Pn.ald (z := w65 281 y67) eAlk rfl rfl (fun b71 b72 => ?_)
                  refine e_Pn.run (t' := (71, (0, (1, 275)) :: (1, (0, y67)) :: (2, (0, y68)) :: tl64, [(0, 10), (0, w65 281 y67)], w65)) eAlk 1 rfl ?_
                  refine e_Pn.if2 eAlk rfl (fun h73 => ?_) (fun h73 => ?_)
                  · show e_Pn 20 elay ecode eI nn63 d 327 (7, (0, (1, 275)) :: (1, (0, y67)) :: (2, (0, y68)) :: tl64, [], w65) _
                    exact e_Pn.ord eAlk [0, 1, 2] rfl rfl ((ih3 (by omega) _ y67 y68 w65 q66).le (by omega))
                  · show e_Pn 20 elay ecode eI nn63 d 327 (74, (0, (1, 275)) :: (1, (0, y67)) :: (2, (0, y68)) :: tl64, [], w65) _
                    refine e_Pn.incU eAlk rfl rfl (fun z74 => ?_)
                    show e_Pn 20 elay ecode eI nn63 d 327 (77, (1, (0, z74)) :: (0, (1, 275)) :: (2, (0, y68)) :: List.filter (e_flt 0 1) tl64, [], w65) _
                    refine e_Pn.run (t' := (55, (1, (0, z74)) :: (0, (1, 275)) :: (2, (0, y68)) :: List.filter (e_flt 0 1) tl64, [], w65)) eAlk 1 rfl ?_
                    exact e_Pn.ord eAlk [0, 1, 2] rfl rfl ((ih62 (by omega) _ z74 y68 w65 q66).le (by omega))
            exact e_Pn.ord eAlk [0, 1, 2] rfl rfl (hL61 nn4 (Nat.le_refl _) _ y8 y9 w57 q59)
        · show e_Pn 20 elay ecode eI nn4 d 327 (19, (0, (1, 275)) :: (1, (0, y8)) :: (2, (0, y9)) :: tl5, [], w6) _
          refine e_Pn.run (t' := (20, (0, (1, 275)) :: (1, (0, y8)) :: (2, (0, y9)) :: tl5, [(1, 275)], w6)) eAlk 1 rfl ?_
          refine e_Pn.getr (z := 281) eAlk rfl rfl (q7.rf hR (8, 281) (by decide)) (by omega) ?_
          refine e_Pn.run (t' := (24, (0, (1, 275)) :: (1, (0, y8)) :: (2, (0, y9)) :: tl5, [(0, y8), (1, 281)], w6)) eAlk 1 rfl ?_
          refine e_Pn.ald (z := w6 281 y8) eAlk rfl rfl (fun b75 b76 => ?_)
          refine e_Pn.if1 eAlk rfl (fun h77 => ?_) (fun h77 => ?_)
          · show e_Pn 20 elay ecode eI nn4 d 327 (45, (0, (1, 275)) :: (1, (0, y8)) :: (2, (0, y9)) :: tl5, [], w6) _
            refine e_Pn.run (t' := (47, (0, (1, 275)) :: (1, (0, y8)) :: (2, (0, y9)) :: tl5, [(0, y8), (1, 275)], w6)) eAlk 2 rfl ?_
            refine e_Pn.callA rfl (fun n9 d9 => u_326 (q7.rf hR)) (fun r79 w80 h78 => ?_)
            obtain ⟨⟨z81, rfl⟩, h78⟩ := h78
            have q82 := q7.tr h78
            show e_Pn 20 elay ecode eI nn4 d 327 (50, (0, (1, 275)) :: (1, (0, y8)) :: (2, (0, y9)) :: tl5, [(0, z81)], w80) _
            refine e_Pn.run (t' := (52, (0, (1, 275)) :: (1, (0, y8)) :: (2, (0, y9)) :: tl5, [(0, 35), (0, z81)], w80)) eAlk 1 rfl ?_
            refine e_Pn.if2 eAlk rfl (fun h83 => ?_) (fun h83 => ?_)
            · show e_Pn 20 elay ecode eI nn4 d 327 (80, (0, (1, 275)) :: (1, (0, y8)) :: (2, (0, y9)) :: tl5, [], w80) _
              refine e_Pn.run (t' := (7, (2, (0, 0)) :: (0, (1, 275)) :: (1, (0, y8)) :: List.filter (e_flt 0 2) tl5, [], w80)) eAlk 3 rfl ?_
              exact e_Pn.ord eAlk [0, 1, 2] rfl rfl ((ih3 (by omega) _ y8 0 w80 q82).le (by omega))
            · show e_Pn 20 elay ecode eI nn4 d 327 (55, (0, (1, 275)) :: (1, (0, y8)) :: (2, (0, y9)) :: tl5, [], w80) _
              have hL84 : ∀ nn86 : Nat, nn86 ≤ nn4 → ∀ (tl87 : eL) (y90 : Int) (y91 : Int) (w88 : eW), mq w w88 → e_Pn 20 elay ecode eI nn86 d 327 (55, (0, (1, 275)) :: (1, (0, y90)) :: (2, (0, y91)) :: tl87, [], w88) (fun r w' => r = [] ∧ mq w w') := by
                intro nn86
                induction nn86 with
                | zero => intro _ tl87 y90 y91 w88 _; exact e_Pn.zero
                | succ nn86 ih85 =>
                  intro hnnn86 tl87 y90 y91 w88 q89
                  refine e_Pn.runS (t' := (57, (0, (1, 275)) :: (1, (0, y90)) :: (2, (0, y91)) :: tl87, [(1, 275), (0, y90)], w88)) eAlk 1 rfl ?_
                  refine e_Pn.getf (z := w88 275 9) eAlk rfl rfl rfl (fun b92 => ?_)
                  refine e_Pn.if2 eAlk rfl (fun h93 => ?_) (fun h93 => ?_)
                  · show e_Pn 20 elay ecode eI nn86 d 327 (7, (0, (1, 275)) :: (1, (0, y90)) :: (2, (0, y91)) :: tl87, [], w88) _
                    exact e_Pn.ord eAlk [0, 1, 2] rfl rfl ((ih3 (by omega) _ y90 y91 w88 q89).le (by omega))
                  · show e_Pn 20 elay ecode eI nn86 d 327 (63, (0, (1, 275)) :: (1, (0, y90)) :: (2, (0, y91)) :: tl87, [], w88) _
                    refine e_Pn.run (t' := (64, (0, (1, 275)) :: (1, (0, y90)) :: (2, (0, y91)) :: tl87, [(1, 275)], w88)) eAlk 1 rfl ?_
                    refine e_Pn.getr (z := 281) eAlk rfl rfl (q89.rf hR (8, 281) (by decide)) (by omega) ?_
                    refine e_Pn.run (t' := (68, (0, (1, 275)) :: (1, (0, y90)) :: (2, (0, y91)) :: tl87, [(0, y90), (1, 281)], w88)) eAlk 1 rfl ?_
                    refine e_Pn.ald (z := w88 281 y90) eAlk rfl rfl (fun b94 b95 => ?_)
                    refine e_Pn.run (t' := (71, (0, (1, 275)) :: (1, (0, y90)) :: (2, (0, y91)) :: tl87, [(0, 10), (0, w88 281 y90)], w88)) eAlk 1 rfl ?_
                    refine e_Pn.if2 eAlk rfl (fun h96 => ?_) (fun h96 => ?_)
                    · show e_Pn 20 elay ecode eI nn86 d 327 (7, (0, (1, 275)) :: (1, (0, y90)) :: (2, (0, y91)) :: tl87, [], w88) _
                      exact e_Pn.ord eAlk [0, 1, 2] rfl rfl ((ih3 (by omega) _ y90 y91 w88 q89).le (by omega))
                    · show e_Pn 20 elay ecode eI nn86 d 327 (74, (0, (1, 275)) :: (1, (0, y90)) :: (2, (0, y91)) :: tl87, [], w88) _
                      refine e_Pn.incU eAlk rfl rfl (fun z97 => ?_)
                      show e_Pn 20 elay ecode eI nn86 d 327 (77, (1, (0, z97)) :: (0, (1, 275)) :: (2, (0, y91)) :: List.filter (e_flt 0 1) tl87, [], w88) _
                      refine e_Pn.run (t' := (55, (1, (0, z97)) :: (0, (1, 275)) :: (2, (0, y91)) :: List.filter (e_flt 0 1) tl87, [], w88)) eAlk 1 rfl ?_
                      exact e_Pn.ord eAlk [0, 1, 2] rfl rfl ((ih85 (by omega) _ z97 y91 w88 q89).le (by omega))
              exact e_Pn.ord eAlk [0, 1, 2] rfl rfl (hL84 nn4 (Nat.le_refl _) _ y8 y9 w80 q82)
          · show e_Pn 20 elay ecode eI nn4 d 327 (28, (0, (1, 275)) :: (1, (0, y8)) :: (2, (0, y9)) :: tl5, [], w6) _
            refine e_Pn.run (t' := (29, (0, (1, 275)) :: (1, (0, y8)) :: (2, (0, y9)) :: tl5, [(1, 275)], w6)) eAlk 1 rfl ?_
            refine e_Pn.getr (z := 281) eAlk rfl rfl (q7.rf hR (8, 281) (by decide)) (by omega) ?_
            refine e_Pn.run (t' := (33, (0, (1, 275)) :: (1, (0, y8)) :: (2, (0, y9)) :: tl5, [(0, y8), (1, 281)], w6)) eAlk 1 rfl ?_
            refine e_Pn.ald (z := w6 281 y8) eAlk rfl rfl (fun b98 b99 => ?_)
            refine e_Pn.run (t' := (36, (0, (1, 275)) :: (1, (0, y8)) :: (2, (0, y9)) :: tl5, [(0, 32), (0, w6 281 y8)], w6)) eAlk 1 rfl ?_
            refine e_Pn.if2 eAlk rfl (fun h100 => ?_) (fun h100 => ?_)
            · show e_Pn 20 elay ecode eI nn4 d 327 (45, (0, (1, 275)) :: (1, (0, y8)) :: (2, (0, y9)) :: tl5, [], w6) _
              refine e_Pn.run (t' := (47, (0, (1, 275)) :: (1, (0, y8)) :: (2, (0, y9)) :: tl5, [(0, y8), (1, 275)], w6)) eAlk 2 rfl ?_
              refine e_Pn.callA rfl (fun n9 d9 => u_326 (q7.rf hR)) (fun r102 w103 h101 => ?_)
              obtain ⟨⟨z104, rfl⟩, h101⟩ := h101
              have q105 := q7.tr h101
              show e_Pn 20 elay ecode eI nn4 d 327 (50, (0, (1, 275)) :: (1, (0, y8)) :: (2, (0, y9)) :: tl5, [(0, z104)], w103) _
              refine e_Pn.run (t' := (52, (0, (1, 275)) :: (1, (0, y8)) :: (2, (0, y9)) :: tl5, [(0, 35), (0, z104)], w103)) eAlk 1 rfl ?_
              refine e_Pn.if2 eAlk rfl (fun h106 => ?_) (fun h106 => ?_)
              · show e_Pn 20 elay ecode eI nn4 d 327 (80, (0, (1, 275)) :: (1, (0, y8)) :: (2, (0, y9)) :: tl5, [], w103) _
                refine e_Pn.run (t' := (7, (2, (0, 0)) :: (0, (1, 275)) :: (1, (0, y8)) :: List.filter (e_flt 0 2) tl5, [], w103)) eAlk 3 rfl ?_
                exact e_Pn.ord eAlk [0, 1, 2] rfl rfl ((ih3 (by omega) _ y8 0 w103 q105).le (by omega))
              · show e_Pn 20 elay ecode eI nn4 d 327 (55, (0, (1, 275)) :: (1, (0, y8)) :: (2, (0, y9)) :: tl5, [], w103) _
                have hL107 : ∀ nn109 : Nat, nn109 ≤ nn4 → ∀ (tl110 : eL) (y113 : Int) (y114 : Int) (w111 : eW), mq w w111 → e_Pn 20 elay ecode eI nn109 d 327 (55, (0, (1, 275)) :: (1, (0, y113)) :: (2, (0, y114)) :: tl110, [], w111) (fun r w' => r = [] ∧ mq w w') := by
                  intro nn109
                  induction nn109 with
                  | zero => intro _ tl110 y113 y114 w111 _; exact e_Pn.zero
                  | succ nn109 ih108 =>
                    intro hnnn109 tl110 y113 y114 w111 q112
                    refine e_Pn.runS (t' := (57, (0, (1, 275)) :: (1, (0, y113)) :: (2, (0, y114)) :: tl110, [(1, 275), (0, y113)], w111)) eAlk 1 rfl ?_
                    refine e_Pn.getf (z := w111 275 9) eAlk rfl rfl rfl (fun b115 => ?_)
                    refine e_Pn.if2 eAlk rfl (fun h116 => ?_) (fun h116 => ?_)
                    · show e_Pn 20 elay ecode eI nn109 d 327 (7, (0, (1, 275)) :: (1, (0, y113)) :: (2, (0, y114)) :: tl110, [], w111) _
                      exact e_Pn.ord eAlk [0, 1, 2] rfl rfl ((ih3 (by omega) _ y113 y114 w111 q112).le (by omega))
                    · show e_Pn 20 elay ecode eI nn109 d 327 (63, (0, (1, 275)) :: (1, (0, y113)) :: (2, (0, y114)) :: tl110, [], w111) _
                      refine e_Pn.run (t' := (64, (0, (1, 275)) :: (1, (0, y113)) :: (2, (0, y114)) :: tl110, [(1, 275)], w111)) eAlk 1 rfl ?_
                      refine e_Pn.getr (z := 281) eAlk rfl rfl (q112.rf hR (8, 281) (by decide)) (by omega) ?_
                      refine e_Pn.run (t' := (68, (0, (1, 275)) :: (1, (0, y113)) :: (2, (0, y114)) :: tl110, [(0, y113), (1, 281)], w111)) eAlk 1 rfl ?_
                      refine e_Pn.ald (z := w111 281 y113) eAlk rfl rfl (fun b117 b118 => ?_)
                      refine e_Pn.run (t' := (71, (0, (1, 275)) :: (1, (0, y113)) :: (2, (0, y114)) :: tl110, [(0, 10), (0, w111 281 y113)], w111)) eAlk 1 rfl ?_
                      refine e_Pn.if2 eAlk rfl (fun h119 => ?_) (fun h119 => ?_)
                      · show e_Pn 20 elay ecode eI nn109 d 327 (7, (0, (1, 275)) :: (1, (0, y113)) :: (2, (0, y114)) :: tl110, [], w111) _
                        exact e_Pn.ord eAlk [0, 1, 2] rfl rfl ((ih3 (by omega) _ y113 y114 w111 q112).le (by omega))
                      · show e_Pn 20 elay ecode eI nn109 d 327 (74, (0, (1, 275)) :: (1, (0, y113)) :: (2, (0, y114)) :: tl110, [], w111) _
                        refine e_Pn.incU eAlk rfl rfl (fun z120 => ?_)
                        show e_Pn 20 elay ecode eI nn109 d 327 (77, (1, (0, z120)) :: (0, (1, 275)) :: (2, (0, y114)) :: List.filter (e_flt 0 1) tl110, [], w111) _
                        refine e_Pn.run (t' := (55, (1, (0, z120)) :: (0, (1, 275)) :: (2, (0, y114)) :: List.filter (e_flt 0 1) tl110, [], w111)) eAlk 1 rfl ?_
                        exact e_Pn.ord eAlk [0, 1, 2] rfl rfl ((ih108 (by omega) _ z120 y114 w111 q112).le (by omega))
                exact e_Pn.ord eAlk [0, 1, 2] rfl rfl (hL107 nn4 (Nat.le_refl _) _ y8 y9 w103 q105)
            · show e_Pn 20 elay ecode eI nn4 d 327 (39, (0, (1, 275)) :: (1, (0, y8)) :: (2, (0, y9)) :: tl5, [], w6) _
              refine e_Pn.incU eAlk rfl rfl (fun z121 => ?_)
              show e_Pn 20 elay ecode eI nn4 d 327 (42, (1, (0, z121)) :: (0, (1, 275)) :: (2, (0, y9)) :: List.filter (e_flt 0 1) tl5, [], w6) _
              refine e_Pn.run (t' := (7, (1, (0, z121)) :: (0, (1, 275)) :: (2, (0, y9)) :: List.filter (e_flt 0 1) tl5, [], w6)) eAlk 1 rfl ?_
              exact e_Pn.ord eAlk [0, 1, 2] rfl rfl ((ih3 (by omega) _ z121 y9 w6 q7).le (by omega))
  exact e_Pn.ord eAlk [0, 1, 2] rfl rfl (hL2 n (Nat.le_refl _) _ (w 275 87) 1 w mq.r)
theorem u_331 {n d : Nat} {w : eW} (hR : mRw w) {x : Int} : e_Pn 20 elay ecode eI n d 331 (0, [(0, (1, 275)), (1, (0, x))], [], w) (fun r w' => (∃ z : Int, r = [(0, z)]) ∧ mq w w') := by
  refine e_Pn.run (t' := (1, [(0, (1, 275)), (1, (0, x))], [(1, 275)], w)) eAlk 1 rfl ?_
  refine e_Pn.getf (z := w 275 84) eAlk rfl rfl rfl (fun b1 => ?_)
  refine e_Pn.run (t' := (5, [(0, (1, 275)), (1, (0, x))], [(0, 3), (0, w 275 84)], w)) eAlk 1 rfl ?_
  refine e_Pn.if2 eAlk rfl (fun h2 => ?_) (fun h2 => ?_)
  · show e_Pn 20 elay ecode eI n d 331 (20, [(0, (1, 275)), (1, (0, x))], [], w) _
    refine e_Pn.run (t' := (21, [(0, (1, 275)), (1, (0, x))], [(0, 0)], w)) eAlk 1 rfl ?_
    exact e_Pn.ret4 rfl ⟨⟨_, rfl⟩, mq.r⟩
  · show e_Pn 20 elay ecode eI n d 331 (8, [(0, (1, 275)), (1, (0, x))], [], w) _
    refine e_Pn.run (t' := (9, [(0, (1, 275)), (1, (0, x))], [(1, 275)], w)) eAlk 1 rfl ?_
    refine e_Pn.getf (z := w 275 85) eAlk rfl rfl rfl (fun b3 => ?_)
    refine e_Pn.run (t' := (13, [(0, (1, 275)), (1, (0, x))], [(0, x), (0, w 275 85)], w)) eAlk 1 rfl ?_
    refine e_Pn.if2 eAlk rfl (fun h4 => ?_) (fun h4 => ?_)
    · show e_Pn 20 elay ecode eI n d 331 (20, [(0, (1, 275)), (1, (0, x))], [], w) _
      refine e_Pn.run (t' := (21, [(0, (1, 275)), (1, (0, x))], [(0, 0)], w)) eAlk 1 rfl ?_
      exact e_Pn.ret4 rfl ⟨⟨_, rfl⟩, mq.r⟩
    · show e_Pn 20 elay ecode eI n d 331 (16, [(0, (1, 275)), (1, (0, x))], [], w) _
      refine e_Pn.run (t' := (21, [(0, (1, 275)), (1, (0, x))], [(0, 1)], w)) eAlk 2 rfl ?_
      exact e_Pn.ret4 rfl ⟨⟨_, rfl⟩, mq.r⟩
theorem u_332 {n d : Nat} {w : eW} (hR : mRw w) {x : Int} : e_Pn 20 elay ecode eI n d 332 (0, [(0, (1, 275)), (1, (0, x))], [], w) (fun r w' => (∃ z : Int, r = [(0, z)]) ∧ mq w w') := by
  refine e_Pn.run (t' := (1, [(0, (1, 275)), (1, (0, x))], [(1, 275)], w)) eAlk 1 rfl ?_
  refine e_Pn.getf (z := w 275 84) eAlk rfl rfl rfl (fun b1 => ?_)
  refine e_Pn.run (t' := (5, [(0, (1, 275)), (1, (0, x))], [(0, 4), (0, w 275 84)], w)) eAlk 1 rfl ?_
  refine e_Pn.if2 eAlk rfl (fun h2 => ?_) (fun h2 => ?_)
  · show e_Pn 20 elay ecode eI n d 332 (20, [(0, (1, 275)), (1, (0, x))], [], w) _
    refine e_Pn.run (t' := (21, [(0, (1, 275)), (1, (0, x))], [(0, 0)], w)) eAlk 1 rfl ?_
    exact e_Pn.ret4 rfl ⟨⟨_, rfl⟩, mq.r⟩
  · show e_Pn 20 elay ecode eI n d 332 (8, [(0, (1, 275)), (1, (0, x))], [], w) _
    refine e_Pn.run (t' := (9, [(0, (1, 275)), (1, (0, x))], [(1, 275)], w)) eAlk 1 rfl ?_
    refine e_Pn.getf (z := w 275 85) eAlk rfl rfl rfl (fun b3 => ?_)
    refine e_Pn.run (t' := (13, [(0, (1, 275)), (1, (0, x))], [(0, x), (0, w 275 85)], w)) eAlk 1 rfl ?_
    refine e_Pn.if2 eAlk rfl (fun h4 => ?_) (fun h4 => ?_)
    · show e_Pn 20 elay ecode eI n d 332 (20, [(0, (1, 275)), (1, (0, x))], [], w) _
      refine e_Pn.run (t' := (21, [(0, (1, 275)), (1, (0, x))], [(0, 0)], w)) eAlk 1 rfl ?_
      exact e_Pn.ret4 rfl ⟨⟨_, rfl⟩, mq.r⟩
    · show e_Pn 20 elay ecode eI n d 332 (16, [(0, (1, 275)), (1, (0, x))], [], w) _
      refine e_Pn.run (t' := (21, [(0, (1, 275)), (1, (0, x))], [(0, 1)], w)) eAlk 2 rfl ?_
      exact e_Pn.ret4 rfl ⟨⟨_, rfl⟩, mq.r⟩
theorem u_333 {n d : Nat} {w : eW} (hR : mRw w) {x : Int} : e_Pn 20 elay ecode eI n d 333 (0, [(0, (1, 275)), (1, (0, x))], [], w) (fun r w' => r = [] ∧ mq w w') := by
  refine e_Pn.run (t' := (1, [(0, (1, 275)), (1, (0, x))], [(1, 275)], w)) eAlk 1 rfl ?_
  refine e_Pn.getf (z := w 275 88) eAlk rfl rfl rfl (fun b1 => ?_)
  refine e_Pn.if1 eAlk rfl (fun h2 => ?_) (fun h2 => ?_)
  · show e_Pn 20 elay ecode eI n d 333 (32, [(0, (1, 275)), (1, (0, x))], [], w) _
    exact e_Pn.ret0 rfl ⟨rfl, mq.r⟩
  · show e_Pn 20 elay ecode eI n d 333 (7, [(0, (1, 275)), (1, (0, x))], [], w) _
    have hz : w 275 88 = 0 := Decidable.not_not.mp h2
    refine e_Pn.run (t' := (9, [(0, (1, 275)), (1, (0, x))], [(1, 275), (1, 275)], w)) eAlk 2 rfl ?_
    refine e_Pn.getf (z := w 275 84) eAlk rfl rfl rfl (fun b3 => ?_)
    refine e_Pn.run (t' := (13, [(0, (1, 275)), (1, (0, x))], [(0, 5), (0, w 275 84), (1, 275)], w)) eAlk 1 rfl ?_
    refine e_Pn.if2 eAlk rfl (fun h4 => ?_) (fun h4 => ?_)
    · show e_Pn 20 elay ecode eI n d 333 (20, [(0, (1, 275)), (1, (0, x))], [(1, 275)], w) _
      refine e_Pn.run (t' := (21, [(0, (1, 275)), (1, (0, x))], [(0, x), (1, 275)], w)) eAlk 1 rfl ?_
      refine e_Pn.putf eAlk rfl rfl ?_
      generalize hw5 : e_up w 275 88 x = w5
      have q6 : mq w w5 := mq.upS mq.r hz hw5 (by decide)
      refine e_Pn.run (t' := (26, [(0, (1, 275)), (1, (0, x))], [(1, 275), (1, 275)], w5)) eAlk 2 rfl ?_
      refine e_Pn.getf (z := w5 275 86) eAlk rfl rfl rfl (fun b7 => ?_)
      refine e_Pn.putf eAlk rfl rfl ?_
      generalize hw8 : e_up w5 275 89 (w5 275 86) = w8
      have q9 : mq w w8 := mq.upS q6 hz hw8 (by decide)
      exact e_Pn.ret0 rfl ⟨rfl, q9⟩
    · show e_Pn 20 elay ecode eI n d 333 (16, [(0, (1, 275)), (1, (0, x))], [(1, 275)], w) _
      refine e_Pn.run (t' := (21, [(0, (1, 275)), (1, (0, x))], [(0, 1), (1, 275)], w)) eAlk 2 rfl ?_
      refine e_Pn.putf eAlk rfl rfl ?_
      generalize hw10 : e_up w 275 88 1 = w10
      have q11 : mq w w10 := mq.upS mq.r hz hw10 (by decide)
      refine e_Pn.run (t' := (26, [(0, (1, 275)), (1, (0, x))], [(1, 275), (1, 275)], w10)) eAlk 2 rfl ?_
      refine e_Pn.getf (z := w10 275 86) eAlk rfl rfl rfl (fun b12 => ?_)
      refine e_Pn.putf eAlk rfl rfl ?_
      generalize hw13 : e_up w10 275 89 (w10 275 86) = w13
      have q14 : mq w w13 := mq.upS q11 hz hw13 (by decide)
      exact e_Pn.ret0 rfl ⟨rfl, q14⟩
theorem u_334 {n d : Nat} {w : eW} (hR : mRw w) {x : Int} : e_Pn 20 elay ecode eI n d 334 (0, [(0, (1, 275)), (1, (0, x))], [], w) (fun r w' => r = [] ∧ mq w w') := by
  refine e_Pn.run (t' := (1, [(0, (1, 275)), (1, (0, x))], [(1, 275)], w)) eAlk 1 rfl ?_
  refine e_Pn.getf (z := w 275 88) eAlk rfl rfl rfl (fun b1 => ?_)
  refine e_Pn.if1 eAlk rfl (fun h2 => ?_) (fun h2 => ?_)
  · show e_Pn 20 elay ecode eI n d 334 (8, [(0, (1, 275)), (1, (0, x))], [], w) _
    refine e_Pn.run (t' := (9, [(0, (1, 275)), (1, (0, x))], [(0, x)], w)) eAlk 1 rfl ?_
    refine e_Pn.if1 eAlk rfl (fun h3 => ?_) (fun h3 => ?_)
    · show e_Pn 20 elay ecode eI n d 334 (19, [(0, (1, 275)), (1, (0, x))], [], w) _
      refine e_Pn.run (t' := (21, [(0, (1, 275)), (1, (0, x))], [(0, 2), (1, 275)], w)) eAlk 2 rfl ?_
      refine e_Pn.callA rfl (fun n9 d9 => u_333 (mq.r.rf hR)) (fun r5 w6 h4 => ?_)
      obtain ⟨rfl, h4⟩ := h4
      have q7 := mq.r.tr h4
      show e_Pn 20 elay ecode eI n d 334 (24, [(0, (1, 275)), (1, (0, x))], [], w6) _
      exact e_Pn.ret0 rfl ⟨rfl, q7⟩
    · show e_Pn 20 elay ecode eI n d 334 (12, [(0, (1, 275)), (1, (0, x))], [], w) _
      refine e_Pn.run (t' := (13, [(0, (1, 275)), (1, (0, x))], [(1, 275)], w)) eAlk 1 rfl ?_
      refine e_Pn.callA rfl (fun n9 d9 => u_327 (mq.r.rf hR)) (fun r9 w10 h8 => ?_)
      obtain ⟨rfl, h8⟩ := h8
      have q11 := mq.r.tr h8
      show e_Pn 20 elay ecode eI n d 334 (16, [(0, (1, 275)), (1, (0, x))], [], w10) _
      refine e_Pn.run (t' := (24, [(0, (1, 275)), (1, (0, x))], [], w10)) eAlk 1 rfl ?_
      exact e_Pn.ret0 rfl ⟨rfl, q11⟩
  · show e_Pn 20 elay ecode eI n d 334 (7, [(0, (1, 275)), (1, (0, x))], [], w) _
    exact e_Pn.ret0 rfl ⟨rfl, mq.r⟩
theorem u_335 {n d : Nat} {w : eW} (hR : mRw w) : e_Pn 20 elay ecode eI n d 335 (0, [(0, (1, 275))], [], w) (fun r w' => r = [] ∧ mq w w') := by
  refine e_Pn.run (t' := (1, [(0, (1, 275))], [(1, 275)], w)) eAlk 1 rfl ?_
  refine e_Pn.getf (z := w 275 88) eAlk rfl rfl rfl (fun b1 => ?_)
  refine e_Pn.if1 eAlk rfl (fun h2 => ?_) (fun h2 => ?_)
  · show e_Pn 20 elay ecode eI n d 335 (21, [(0, (1, 275))], [], w) _
    refine e_Pn.run (t' := (23, [(0, (1, 275))], [(1, 275), (1, 275)], w)) eAlk 2 rfl ?_
    refine e_Pn.getf (z := w 275 83) eAlk rfl rfl rfl (fun b3 => ?_)
    refine e_Pn.run (t' := (27, [(0, (1, 275))], [(0, 1), (0, w 275 83), (1, 275)], w)) eAlk 1 rfl ?_
    refine e_Pn.bin0 eAlk rfl (fun z4 hz4 => ?_)
    refine e_Pn.putf eAlk rfl rfl ?_
    generalize hw5 : e_up w 275 83 z4 = w5
    have q6 : mq w w5 := mq.upF mq.r hw5 (by decide) (by decide +kernel)
    exact e_Pn.ret0 rfl ⟨rfl, q6⟩
  · show e_Pn 20 elay ecode eI n d 335 (7, [(0, (1, 275))], [], w) _
    refine e_Pn.run (t' := (8, [(0, (1, 275))], [(1, 275)], w)) eAlk 1 rfl ?_
    refine e_Pn.getf (z := w 275 83) eAlk rfl rfl rfl (fun b7 => ?_)
    refine e_Pn.run (t' := (13, [(0, (1, 275))], [(0, 30), (0, w 275 83)], w)) eAlk 1 rfl ?_
    refine e_Pn.if2 eAlk rfl (fun h8 => ?_) (fun h8 => ?_)
    · show e_Pn 20 elay ecode eI n d 335 (21, [(0, (1, 275))], [], w) _
      refine e_Pn.run (t' := (23, [(0, (1, 275))], [(1, 275), (1, 275)], w)) eAlk 2 rfl ?_
      refine e_Pn.getf (z := w 275 83) eAlk rfl rfl rfl (fun b9 => ?_)
      refine e_Pn.run (t' := (27, [(0, (1, 275))], [(0, 1), (0, w 275 83), (1, 275)], w)) eAlk 1 rfl ?_
      refine e_Pn.bin0 eAlk rfl (fun z10 hz10 => ?_)
      refine e_Pn.putf eAlk rfl rfl ?_
      generalize hw11 : e_up w 275 83 z10 = w11
      have q12 : mq w w11 := mq.upF mq.r hw11 (by decide) (by decide +kernel)
      exact e_Pn.ret0 rfl ⟨rfl, q12⟩
    · show e_Pn 20 elay ecode eI n d 335 (16, [(0, (1, 275))], [], w) _
      refine e_Pn.run (t' := (18, [(0, (1, 275))], [(0, 3), (1, 275)], w)) eAlk 2 rfl ?_
      refine e_Pn.callA rfl (fun n9 d9 => u_333 (mq.r.rf hR)) (fun r14 w15 h13 => ?_)
      obtain ⟨rfl, h13⟩ := h13
      have q16 := mq.r.tr h13
      show e_Pn 20 elay ecode eI n d 335 (21, [(0, (1, 275))], [], w15) _
      refine e_Pn.run (t' := (23, [(0, (1, 275))], [(1, 275), (1, 275)], w15)) eAlk 2 rfl ?_
      refine e_Pn.getf (z := w15 275 83) eAlk rfl rfl rfl (fun b17 => ?_)
      refine e_Pn.run (t' := (27, [(0, (1, 275))], [(0, 1), (0, w15 275 83), (1, 275)], w15)) eAlk 1 rfl ?_
      refine e_Pn.bin0 eAlk rfl (fun z18 hz18 => ?_)
      refine e_Pn.putf eAlk rfl rfl ?_
      generalize hw19 : e_up w15 275 83 z18 = w19
      have q20 : mq w w19 := mq.upF q16 hw19 (by decide) (by decide +kernel)
      exact e_Pn.ret0 rfl ⟨rfl, q20⟩
theorem u_336 {n d : Nat} {w : eW} (hR : mRw w) {x : Int} {y : Int} : e_Pn 20 elay ecode eI n d 336 (0, [(0, (1, 275)), (1, (0, x)), (2, (0, y))], [], w) (fun r w' => (∃ z : Int, r = [(0, z)]) ∧ mq w w') := by
  refine e_Pn.run (t' := (4, [(0, (1, 275)), (1, (0, x)), (2, (0, y))], [(1, 275), (0, 40000)], w)) eAlk 2 rfl ?_
  refine e_Pn.getf (z := w 275 78) eAlk rfl rfl rfl (fun b1 => ?_)
  refine e_Pn.bin0 eAlk rfl (fun z2 hz2 => ?_)
  refine e_Pn.run (t' := (10, [(3, (0, z2)), (0, (1, 275)), (1, (0, x)), (2, (0, y))], [(1, 275)], w)) eAlk 2 rfl ?_
  refine e_Pn.getr (z := 328) eAlk rfl rfl (mq.r.rf hR (65, 328) (by decide)) (by omega) ?_
  refine e_Pn.run (t' := (15, [(3, (0, z2)), (0, (1, 275)), (1, (0, x)), (2, (0, y))], [(0, x), (0, z2), (1, 328)], w)) eAlk 2 rfl ?_
  refine e_Pn.ast eAlk rfl rfl rfl (fun b3 b4 => ?_)
  generalize hw5 : e_up w 328 z2 x = w5
  have q6 : mq w w5 := mq.upA mq.r hw5 (by decide)
  refine e_Pn.run (t' := (17, [(3, (0, z2)), (0, (1, 275)), (1, (0, x)), (2, (0, y))], [(1, 275)], w5)) eAlk 1 rfl ?_
  refine e_Pn.getr (z := 329) eAlk rfl rfl (q6.rf hR (66, 329) (by decide)) (by omega) ?_
  refine e_Pn.run (t' := (22, [(3, (0, z2)), (0, (1, 275)), (1, (0, x)), (2, (0, y))], [(0, y), (0, z2), (1, 329)], w5)) eAlk 2 rfl ?_
  refine e_Pn.ast eAlk rfl rfl rfl (fun b7 b8 => ?_)
  generalize hw9 : e_up w5 329 z2 y = w9
  have q10 : mq w w9 := mq.upA q6 hw9 (by decide)
  refine e_Pn.run (t' := (24, [(3, (0, z2)), (0, (1, 275)), (1, (0, x)), (2, (0, y))], [(1, 275)], w9)) eAlk 1 rfl ?_
  refine e_Pn.getr (z := 330) eAlk rfl rfl (q10.rf hR (67, 330) (by decide)) (by omega) ?_
  refine e_Pn.run (t' := (29, [(3, (0, z2)), (0, (1, 275)), (1, (0, x)), (2, (0, y))], [(1, 275), (0, z2), (1, 330)], w9)) eAlk 2 rfl ?_
  refine e_Pn.getf (z := w9 275 81) eAlk rfl rfl rfl (fun b11 => ?_)
  refine e_Pn.ast eAlk rfl rfl rfl (fun b12 b13 => ?_)
  generalize hw14 : e_up w9 330 z2 (w9 275 81) = w14
  have q15 : mq w w14 := mq.upA q10 hw14 (by decide)
  refine e_Pn.run (t' := (35, [(3, (0, z2)), (0, (1, 275)), (1, (0, x)), (2, (0, y))], [(1, 275), (1, 275)], w14)) eAlk 2 rfl ?_
  refine e_Pn.getf (z := w14 275 78) eAlk rfl rfl rfl (fun b16 => ?_)
  refine e_Pn.run (t' := (39, [(3, (0, z2)), (0, (1, 275)), (1, (0, x)), (2, (0, y))], [(0, 1), (0, w14 275 78), (1, 275)], w14)) eAlk 1 rfl ?_
  refine e_Pn.bin0 eAlk rfl (fun z17 hz17 => ?_)
  refine e_Pn.putf eAlk rfl rfl ?_
  generalize hw18 : e_up w14 275 78 z17 = w18
  have q19 : mq w w18 := mq.upF q15 hw18 (by decide) (by decide +kernel)
  refine e_Pn.run (t' := (44, [(3, (0, z2)), (0, (1, 275)), (1, (0, x)), (2, (0, y))], [(1, 275)], w18)) eAlk 1 rfl ?_
  refine e_Pn.getf (z := w18 275 78) eAlk rfl rfl rfl (fun b20 => ?_)
  refine e_Pn.run (t' := (48, [(3, (0, z2)), (0, (1, 275)), (1, (0, x)), (2, (0, y))], [(0, 1), (0, w18 275 78)], w18)) eAlk 1 rfl ?_
  refine e_Pn.bin0 eAlk rfl (fun z21 hz21 => ?_)
  exact e_Pn.ret1 rfl ⟨⟨_, rfl⟩, q19⟩
theorem u_337 {n d : Nat} {w : eW} (hR : mRw w) {x : Int} : e_Pn 20 elay ecode eI n d 337 (0, [(0, (1, 275)), (1, (0, x))], [], w) (fun r w' => r = [] ∧ mq w w') := by
  refine e_Pn.run (t' := (1, [(0, (1, 275)), (1, (0, x))], [(1, 275)], w)) eAlk 1 rfl ?_
  refine e_Pn.getr (z := 329) eAlk rfl rfl (mq.r.rf hR (66, 329) (by decide)) (by omega) ?_
  refine e_Pn.run (t' := (8, [(0, (1, 275)), (1, (0, x))], [(0, x), (0, 40000), (1, 329)], w)) eAlk 2 rfl ?_
  refine e_Pn.bin0 eAlk rfl (fun z1 hz1 => ?_)
  refine e_Pn.run (t' := (10, [(0, (1, 275)), (1, (0, x))], [(1, 275), (0, z1), (1, 329)], w)) eAlk 1 rfl ?_
  refine e_Pn.getf (z := w 275 78) eAlk rfl rfl rfl (fun b2 => ?_)
  refine e_Pn.ast eAlk rfl rfl rfl (fun b3 b4 => ?_)
  generalize hw5 : e_up w 329 z1 (w 275 78) = w5
  have q6 : mq w w5 := mq.upA mq.r hw5 (by decide)
  exact e_Pn.ret0 rfl ⟨rfl, q6⟩
theorem u_338 {n d : Nat} {w : eW} (hR : mRw w) {x : Int} {y : Int} : e_Pn 20 elay ecode eI n d 338 (0, [(0, (1, 275)), (1, (0, x)), (2, (0, y))], [], w) (fun r w' => r = [] ∧ mq w w') := by
  refine e_Pn.run (t' := (1, [(0, (1, 275)), (1, (0, x)), (2, (0, y))], [(1, 275)], w)) eAlk 1 rfl ?_
  refine e_Pn.getf (z := w 275 88) eAlk rfl rfl rfl (fun b1 => ?_)
  refine e_Pn.if1 eAlk rfl (fun h2 => ?_) (fun h2 => ?_)
  · show e_Pn 20 elay ecode eI n d 338 (76, [(0, (1, 275)), (1, (0, x)), (2, (0, y))], [], w) _
    refine e_Pn.run (t' := (78, [(0, (1, 275)), (1, (0, x)), (2, (0, y))], [(1, 275), (1, 275)], w)) eAlk 2 rfl ?_
    refine e_Pn.getf (z := w 275 84) eAlk rfl rfl rfl (fun b3 => ?_)
    refine e_Pn.run (t' := (82, [(0, (1, 275)), (1, (0, x)), (2, (0, y))], [(0, 1), (0, w 275 84), (1, 275)], w)) eAlk 1 rfl ?_
    refine e_Pn.if2 eAlk rfl (fun h4 => ?_) (fun h4 => ?_)
    · show e_Pn 20 elay ecode eI n d 338 (89, [(0, (1, 275)), (1, (0, x)), (2, (0, y))], [(1, 275)], w) _
      refine e_Pn.run (t' := (90, [(0, (1, 275)), (1, (0, x)), (2, (0, y))], [(0, 0), (1, 275)], w)) eAlk 1 rfl ?_
      refine e_Pn.callA rfl (fun n9 d9 => u_334 (mq.r.rf hR)) (fun r6 w7 h5 => ?_)
      obtain ⟨rfl, h5⟩ := h5
      have q8 := mq.r.tr h5
      show e_Pn 20 elay ecode eI n d 338 (93, [(0, (1, 275)), (1, (0, x)), (2, (0, y))], [], w7) _
      exact e_Pn.ret0 rfl ⟨rfl, q8⟩
    · show e_Pn 20 elay ecode eI n d 338 (85, [(0, (1, 275)), (1, (0, x)), (2, (0, y))], [(1, 275)], w) _
      refine e_Pn.run (t' := (90, [(0, (1, 275)), (1, (0, x)), (2, (0, y))], [(0, 1), (1, 275)], w)) eAlk 2 rfl ?_
      refine e_Pn.callA rfl (fun n9 d9 => u_334 (mq.r.rf hR)) (fun r10 w11 h9 => ?_)
      obtain ⟨rfl, h9⟩ := h9
      have q12 := mq.r.tr h9
      show e_Pn 20 elay ecode eI n d 338 (93, [(0, (1, 275)), (1, (0, x)), (2, (0, y))], [], w11) _
      exact e_Pn.ret0 rfl ⟨rfl, q12⟩
  · show e_Pn 20 elay ecode eI n d 338 (7, [(0, (1, 275)), (1, (0, x)), (2, (0, y))], [], w) _
    refine e_Pn.run (t' := (8, [(0, (1, 275)), (1, (0, x)), (2, (0, y))], [(1, 275)], w)) eAlk 1 rfl ?_
    refine e_Pn.getf (z := w 275 84) eAlk rfl rfl rfl (fun b13 => ?_)
    refine e_Pn.run (t' := (12, [(0, (1, 275)), (1, (0, x)), (2, (0, y))], [(0, 1), (0, w 275 84)], w)) eAlk 1 rfl ?_
    refine e_Pn.if2 eAlk rfl (fun h14 => ?_) (fun h14 => ?_)
    · show e_Pn 20 elay ecode eI n d 338 (76, [(0, (1, 275)), (1, (0, x)), (2, (0, y))], [], w) _
      refine e_Pn.run (t' := (78, [(0, (1, 275)), (1, (0, x)), (2, (0, y))], [(1, 275), (1, 275)], w)) eAlk 2 rfl ?_
      refine e_Pn.getf (z := w 275 84) eAlk rfl rfl rfl (fun b15 => ?_)
      refine e_Pn.run (t' := (82, [(0, (1, 275)), (1, (0, x)), (2, (0, y))], [(0, 1), (0, w 275 84), (1, 275)], w)) eAlk 1 rfl ?_
      refine e_Pn.if2 eAlk rfl (fun h16 => ?_) (fun h16 => ?_)
      · show e_Pn 20 elay ecode eI n d 338 (89, [(0, (1, 275)), (1, (0, x)), (2, (0, y))], [(1, 275)], w) _
        refine e_Pn.run (t' := (90, [(0, (1, 275)), (1, (0, x)), (2, (0, y))], [(0, 0), (1, 275)], w)) eAlk 1 rfl ?_
        refine e_Pn.callA rfl (fun n9 d9 => u_334 (mq.r.rf hR)) (fun r18 w19 h17 => ?_)
        obtain ⟨rfl, h17⟩ := h17
        have q20 := mq.r.tr h17
        show e_Pn 20 elay ecode eI n d 338 (93, [(0, (1, 275)), (1, (0, x)), (2, (0, y))], [], w19) _
        exact e_Pn.ret0 rfl ⟨rfl, q20⟩
      · show e_Pn 20 elay ecode eI n d 338 (85, [(0, (1, 275)), (1, (0, x)), (2, (0, y))], [(1, 275)], w) _
        refine e_Pn.run (t' := (90, [(0, (1, 275)), (1, (0, x)), (2, (0, y))], [(0, 1), (1, 275)], w)) eAlk 2 rfl ?_
        refine e_Pn.callA rfl (fun n9 d9 => u_334 (mq.r.rf hR)) (fun r22 w23 h21 => ?_)
        obtain ⟨rfl, h21⟩ := h21
        have q24 := mq.r.tr h21
        show e_Pn 20 elay ecode eI n d 338 (93, [(0, (1, 275)), (1, (0, x)), (2, (0, y))], [], w23) _
        exact e_Pn.ret0 rfl ⟨rfl, q24⟩
    · show e_Pn 20 elay ecode eI n d 338 (15, [(0, (1, 275)), (1, (0, x)), (2, (0, y))], [], w) _
      refine e_Pn.run (t' := (16, [(0, (1, 275)), (1, (0, x)), (2, (0, y))], [(1, 275)], w)) eAlk 1 rfl ?_
      refine e_Pn.getr (z := 341) eAlk rfl rfl (mq.r.rf hR (90, 341) (by decide)) (by omega) ?_
      refine e_Pn.run (t' := (20, [(0, (1, 275)), (1, (0, x)), (2, (0, y))], [(1, 275), (1, 341)], w)) eAlk 1 rfl ?_
      refine e_Pn.getf (z := w 275 94) eAlk rfl rfl rfl (fun b25 => ?_)
      refine e_Pn.run (t' := (24, [(0, (1, 275)), (1, (0, x)), (2, (0, y))], [(0, x), (0, w 275 94), (1, 341)], w)) eAlk 1 rfl ?_
      refine e_Pn.ast eAlk rfl rfl rfl (fun b26 b27 => ?_)
      generalize hw28 : e_up w 341 (w 275 94) x = w28
      have q29 : mq w w28 := mq.upA mq.r hw28 (by decide)
      refine e_Pn.run (t' := (26, [(0, (1, 275)), (1, (0, x)), (2, (0, y))], [(1, 275)], w28)) eAlk 1 rfl ?_
      refine e_Pn.getr (z := 342) eAlk rfl rfl (q29.rf hR (91, 342) (by decide)) (by omega) ?_
      refine e_Pn.run (t' := (30, [(0, (1, 275)), (1, (0, x)), (2, (0, y))], [(1, 275), (1, 342)], w28)) eAlk 1 rfl ?_
      refine e_Pn.getf (z := w28 275 94) eAlk rfl rfl rfl (fun b30 => ?_)
      refine e_Pn.run (t' := (34, [(0, (1, 275)), (1, (0, x)), (2, (0, y))], [(1, 275), (0, w28 275 94), (1, 342)], w28)) eAlk 1 rfl ?_
      refine e_Pn.getf (z := w28 275 86) eAlk rfl rfl rfl (fun b31 => ?_)
      refine e_Pn.ast eAlk rfl rfl rfl (fun b32 b33 => ?_)
      generalize hw34 : e_up w28 342 (w28 275 94) (w28 275 86) = w34
      have q35 : mq w w34 := mq.upA q29 hw34 (by decide)
      refine e_Pn.run (t' := (39, [(0, (1, 275)), (1, (0, x)), (2, (0, y))], [(1, 275)], w34)) eAlk 1 rfl ?_
      refine e_Pn.getr (z := 343) eAlk rfl rfl (q35.rf hR (92, 343) (by decide)) (by omega) ?_
      refine e_Pn.run (t' := (43, [(0, (1, 275)), (1, (0, x)), (2, (0, y))], [(1, 275), (1, 343)], w34)) eAlk 1 rfl ?_
      refine e_Pn.getf (z := w34 275 94) eAlk rfl rfl rfl (fun b36 => ?_)
      refine e_Pn.run (t' := (47, [(0, (1, 275)), (1, (0, x)), (2, (0, y))], [(1, 275), (0, w34 275 94), (1, 343)], w34)) eAlk 1 rfl ?_
      refine e_Pn.getf (z := w34 275 87) eAlk rfl rfl rfl (fun b37 => ?_)
      refine e_Pn.run (t' := (51, [(0, (1, 275)), (1, (0, x)), (2, (0, y))], [(1, 275), (0, w34 275 87), (0, w34 275 94), (1, 343)], w34)) eAlk 1 rfl ?_
      refine e_Pn.getf (z := w34 275 86) eAlk rfl rfl rfl (fun b38 => ?_)
      refine e_Pn.bin0 eAlk rfl (fun z39 hz39 => ?_)
      refine e_Pn.ast eAlk rfl rfl rfl (fun b40 b41 => ?_)
      generalize hw42 : e_up w34 343 (w34 275 94) z39 = w42
      have q43 : mq w w42 := mq.upA q35 hw42 (by decide)
      refine e_Pn.run (t' := (57, [(0, (1, 275)), (1, (0, x)), (2, (0, y))], [(1, 275)], w42)) eAlk 1 rfl ?_
      refine e_Pn.getr (z := 344) eAlk rfl rfl (q43.rf hR (93, 344) (by decide)) (by omega) ?_
      refine e_Pn.run (t' := (61, [(0, (1, 275)), (1, (0, x)), (2, (0, y))], [(1, 275), (1, 344)], w42)) eAlk 1 rfl ?_
      refine e_Pn.getf (z := w42 275 94) eAlk rfl rfl rfl (fun b44 => ?_)
      refine e_Pn.run (t' := (65, [(0, (1, 275)), (1, (0, x)), (2, (0, y))], [(0, y), (0, w42 275 94), (1, 344)], w42)) eAlk 1 rfl ?_
      refine e_Pn.ast eAlk rfl rfl rfl (fun b45 b46 => ?_)
      generalize hw47 : e_up w42 344 (w42 275 94) y = w47
      have q48 : mq w w47 := mq.upA q43 hw47 (by decide)
      refine e_Pn.run (t' := (68, [(0, (1, 275)), (1, (0, x)), (2, (0, y))], [(1, 275), (1, 275)], w47)) eAlk 2 rfl ?_
      refine e_Pn.getf (z := w47 275 94) eAlk rfl rfl rfl (fun b49 => ?_)
      refine e_Pn.run (t' := (72, [(0, (1, 275)), (1, (0, x)), (2, (0, y))], [(0, 1), (0, w47 275 94), (1, 275)], w47)) eAlk 1 rfl ?_
      refine e_Pn.bin0 eAlk rfl (fun z50 hz50 => ?_)
      refine e_Pn.putf eAlk rfl rfl ?_
      generalize hw51 : e_up w47 275 94 z50 = w51
      have q52 : mq w w51 := mq.upF q48 hw51 (by decide) (by decide +kernel)
      refine e_Pn.run (t' := (78, [(0, (1, 275)), (1, (0, x)), (2, (0, y))], [(1, 275), (1, 275)], w51)) eAlk 2 rfl ?_
      refine e_Pn.getf (z := w51 275 84) eAlk rfl rfl rfl (fun b53 => ?_)
      refine e_Pn.run (t' := (82, [(0, (1, 275)), (1, (0, x)), (2, (0, y))], [(0, 1), (0, w51 275 84), (1, 275)], w51)) eAlk 1 rfl ?_
      refine e_Pn.if2 eAlk rfl (fun h54 => ?_) (fun h54 => ?_)
      · show e_Pn 20 elay ecode eI n d 338 (89, [(0, (1, 275)), (1, (0, x)), (2, (0, y))], [(1, 275)], w51) _
        refine e_Pn.run (t' := (90, [(0, (1, 275)), (1, (0, x)), (2, (0, y))], [(0, 0), (1, 275)], w51)) eAlk 1 rfl ?_
        refine e_Pn.callA rfl (fun n9 d9 => u_334 (q52.rf hR)) (fun r56 w57 h55 => ?_)
        obtain ⟨rfl, h55⟩ := h55
        have q58 := q52.tr h55
        show e_Pn 20 elay ecode eI n d 338 (93, [(0, (1, 275)), (1, (0, x)), (2, (0, y))], [], w57) _
        exact e_Pn.ret0 rfl ⟨rfl, q58⟩
      · show e_Pn 20 elay ecode eI n d 338 (85, [(0, (1, 275)), (1, (0, x)), (2, (0, y))], [(1, 275)], w51) _
        refine e_Pn.run (t' := (90, [(0, (1, 275)), (1, (0, x)), (2, (0, y))], [(0, 1), (1, 275)], w51)) eAlk 2 rfl ?_
        refine e_Pn.callA rfl (fun n9 d9 => u_334 (q52.rf hR)) (fun r60 w61 h59 => ?_)
        obtain ⟨rfl, h59⟩ := h59
        have q62 := q52.tr h59
        show e_Pn 20 elay ecode eI n d 338 (93, [(0, (1, 275)), (1, (0, x)), (2, (0, y))], [], w61) _
        exact e_Pn.ret0 rfl ⟨rfl, q62⟩
theorem u_341 {n d : Nat} {w : eW} (hR : mRw w) {x : Int} : e_Pn 20 elay ecode eI n d 341 (0, [(0, (1, 275)), (1, (0, x))], [], w) (fun r w' => r = [] ∧ mq w w') := by
  refine e_Pn.run (t' := (1, [(0, (1, 275)), (1, (0, x))], [(0, x)], w)) eAlk 1 rfl ?_
  refine e_Pn.if1 eAlk rfl (fun h1 => ?_) (fun h1 => ?_)
  · show e_Pn 20 elay ecode eI n d 341 (5, [(0, (1, 275)), (1, (0, x))], [], w) _
    refine e_Pn.run (t' := (9, [(0, (1, 275)), (1, (0, x))], [(0, 0), (0, 24), (1, 275)], w)) eAlk 3 rfl ?_
    refine e_Pn.callA rfl (fun n9 d9 => u_336 (mq.r.rf hR)) (fun r3 w4 h2 => ?_)
    obtain ⟨⟨z5, rfl⟩, h2⟩ := h2
    have q6 := mq.r.tr h2
    show e_Pn 20 elay ecode eI n d 341 (12, [(0, (1, 275)), (1, (0, x))], [(0, z5)], w4) _
    refine e_Pn.run (t' := (15, [(2, (0, x)), (0, (1, 275)), (1, (0, x))], [], w4)) eAlk 3 rfl ?_
    have hL7 : ∀ nn9 : Nat, nn9 ≤ n → ∀ (tl10 : eL) (y13 : Int) (y14 : Int) (w11 : eW), mq w w11 → e_Pn 20 elay ecode eI nn9 d 341 (15, (0, (1, 275)) :: (1, (0, y13)) :: (2, (0, y14)) :: tl10, [], w11) (fun r w' => r = [] ∧ mq w w') := by
      intro nn9
      induction nn9 with
      | zero => intro _ tl10 y13 y14 w11 _; exact e_Pn.zero
      | succ nn9 ih8 =>
        intro hnnn9 tl10 y13 y14 w11 q12
        refine e_Pn.runS (t' := (16, (0, (1, 275)) :: (1, (0, y13)) :: (2, (0, y14)) :: tl10, [(0, y14)], w11)) eAlk 0 rfl ?_
        refine e_Pn.if1 eAlk rfl (fun h15 => ?_) (fun h15 => ?_)
        · show e_Pn 20 elay ecode eI nn9 d 341 (40, (0, (1, 275)) :: (1, (0, y13)) :: (2, (0, y14)) :: tl10, [], w11) _
          exact e_Pn.ret0 rfl ⟨rfl, q12⟩
        · show e_Pn 20 elay ecode eI nn9 d 341 (19, (0, (1, 275)) :: (1, (0, y13)) :: (2, (0, y14)) :: tl10, [], w11) _
          refine e_Pn.run (t' := (20, (0, (1, 275)) :: (1, (0, y13)) :: (2, (0, y14)) :: tl10, [(1, 275)], w11)) eAlk 1 rfl ?_
          refine e_Pn.getr (z := 329) eAlk rfl rfl (q12.rf hR (66, 329) (by decide)) (by omega) ?_
          refine e_Pn.run (t' := (27, (0, (1, 275)) :: (1, (0, y13)) :: (2, (0, y14)) :: tl10, [(0, y14), (0, 40000), (1, 329)], w11)) eAlk 2 rfl ?_
          refine e_Pn.bin0 eAlk rfl (fun z16 hz16 => ?_)
          refine e_Pn.ald (z := w11 329 z16) eAlk rfl rfl (fun b17 b18 => ?_)
          refine e_Pn.run (t' := (32, (3, (0, w11 329 z16)) :: (0, (1, 275)) :: (1, (0, y13)) :: (2, (0, y14)) :: List.filter (e_flt 0 3) tl10, [(0, y14), (1, 275)], w11)) eAlk 3 rfl ?_
          refine e_Pn.callA rfl (fun n9 d9 => u_337 (q12.rf hR)) (fun r20 w21 h19 => ?_)
          obtain ⟨rfl, h19⟩ := h19
          have q22 := q12.tr h19
          show e_Pn 20 elay ecode eI nn9 d 341 (35, (3, (0, w11 329 z16)) :: (0, (1, 275)) :: (1, (0, y13)) :: (2, (0, y14)) :: List.filter (e_flt 0 3) tl10, [], w21) _
          refine e_Pn.run (t' := (15, (2, (0, w11 329 z16)) :: (3, (0, w11 329 z16)) :: (0, (1, 275)) :: (1, (0, y13)) :: List.filter (e_flt 0 2) (List.filter (e_flt 0 3) tl10), [], w21)) eAlk 3 rfl ?_
          exact e_Pn.ord eAlk [0, 1, 2] rfl rfl ((ih8 (by omega) _ y13 (w11 329 z16) w21 q22).le (by omega))
    exact e_Pn.ord eAlk [0, 1, 2] rfl rfl (hL7 n (Nat.le_refl _) _ x x w4 q6)
  · show e_Pn 20 elay ecode eI n d 341 (4, [(0, (1, 275)), (1, (0, x))], [], w) _
    exact e_Pn.ret0 rfl ⟨rfl, mq.r⟩
def uP (M k : Nat) : Prop := ∀ (d : Nat) (w : eW), mRw w → e_Pn 20 elay ecode eI k d M (0, [(0, (1, 275))], [], w) (fun r w' => r = [] ∧ mq w w')
def uE (k : Nat) : Prop := ∀ M, M ∈ [339, 340, 342, 343, 344, 345, 346] → uP M k
set_option maxHeartbeats 4000000 in
theorem u_339 {n d : Nat} {w : eW} (hR : mRw w) (ihG : ∀ k, k < n → uE k) : e_Pn 20 elay ecode eI n d 339 (0, [(0, (1, 275))], [], w) (fun r w' => r = [] ∧ mq w w') := by
  refine e_Pn.run (t' := (1, [(0, (1, 275))], [(1, 275)], w)) eAlk 1 rfl ?_
  refine e_Pn.callB rfl (fun k9 hk9 d9 => ihG k9 (by omega) 340 (by decide) d9 _ (mq.r.rf hR)) (fun r2 w3 h1 => ?_)
  obtain ⟨rfl, h1⟩ := h1
  have q4 := mq.r.tr h1
  show e_Pn 20 elay ecode eI n d 339 (4, [(0, (1, 275))], [], w3) _
  refine e_Pn.run (t' := (6, [(1, (0, (-1))), (0, (1, 275))], [], w3)) eAlk 2 rfl ?_
  have hL5 : ∀ nn7 : Nat, nn7 ≤ n → ∀ (tl8 : eL) (y11 : Int) (w9 : eW), mq w w9 → e_Pn 20 elay ecode eI nn7 d 339 (6, (0, (1, 275)) :: (1, (0, y11)) :: tl8, [], w9) (fun r w' => r = [] ∧ mq w w') := by
    intro nn7
    induction nn7 with
    | zero => intro _ tl8 y11 w9 _; exact e_Pn.zero
    | succ nn7 ih6 =>
      intro hnnn7 tl8 y11 w9 q10
      refine e_Pn.runS (t' := (7, (0, (1, 275)) :: (1, (0, y11)) :: tl8, [(1, 275)], w9)) eAlk 0 rfl ?_
      refine e_Pn.getf (z := w9 275 88) eAlk rfl rfl rfl (fun b12 => ?_)
      refine e_Pn.if1 eAlk rfl (fun h13 => ?_) (fun h13 => ?_)
      · show e_Pn 20 elay ecode eI nn7 d 339 (41, (0, (1, 275)) :: (1, (0, y11)) :: tl8, [], w9) _
        refine e_Pn.run (t' := (43, (0, (1, 275)) :: (1, (0, y11)) :: tl8, [(0, y11), (1, 275)], w9)) eAlk 2 rfl ?_
        refine e_Pn.callA rfl (fun n9 d9 => u_341 (q10.rf hR)) (fun r15 w16 h14 => ?_)
        obtain ⟨rfl, h14⟩ := h14
        have q17 := q10.tr h14
        show e_Pn 20 elay ecode eI nn7 d 339 (46, (0, (1, 275)) :: (1, (0, y11)) :: tl8, [], w16) _
        exact e_Pn.ret0 rfl ⟨rfl, q17⟩
      · show e_Pn 20 elay ecode eI nn7 d 339 (13, (0, (1, 275)) :: (1, (0, y11)) :: tl8, [], w9) _
        refine e_Pn.run (t' := (16, (0, (1, 275)) :: (1, (0, y11)) :: tl8, [(0, 24), (1, 275)], w9)) eAlk 2 rfl ?_
        refine e_Pn.callA rfl (fun n9 d9 => u_332 (q10.rf hR)) (fun r19 w20 h18 => ?_)
        obtain ⟨⟨z21, rfl⟩, h18⟩ := h18
        have q22 := q10.tr h18
        show e_Pn 20 elay ecode eI nn7 d 339 (19, (0, (1, 275)) :: (1, (0, y11)) :: tl8, [(0, z21)], w20) _
        refine e_Pn.if1 eAlk rfl (fun h23 => ?_) (fun h23 => ?_)
        · show e_Pn 20 elay ecode eI nn7 d 339 (41, (0, (1, 275)) :: (1, (0, y11)) :: tl8, [], w20) _
          refine e_Pn.run (t' := (43, (0, (1, 275)) :: (1, (0, y11)) :: tl8, [(0, y11), (1, 275)], w20)) eAlk 2 rfl ?_
          refine e_Pn.callA rfl (fun n9 d9 => u_341 (q22.rf hR)) (fun r25 w26 h24 => ?_)
          obtain ⟨rfl, h24⟩ := h24
          have q27 := q22.tr h24
          show e_Pn 20 elay ecode eI nn7 d 339 (46, (0, (1, 275)) :: (1, (0, y11)) :: tl8, [], w26) _
          exact e_Pn.ret0 rfl ⟨rfl, q27⟩
        · show e_Pn 20 elay ecode eI nn7 d 339 (22, (0, (1, 275)) :: (1, (0, y11)) :: tl8, [], w20) _
          refine e_Pn.run (t' := (26, (0, (1, 275)) :: (1, (0, y11)) :: tl8, [(0, y11), (0, 22), (1, 275)], w20)) eAlk 3 rfl ?_
          refine e_Pn.callA rfl (fun n9 d9 => u_336 (q22.rf hR)) (fun r29 w30 h28 => ?_)
          obtain ⟨⟨z31, rfl⟩, h28⟩ := h28
          have q32 := q22.tr h28
          show e_Pn 20 elay ecode eI nn7 d 339 (29, (0, (1, 275)) :: (1, (0, y11)) :: tl8, [(0, z31)], w30) _
          refine e_Pn.run (t' := (31, (1, (0, z31)) :: (0, (1, 275)) :: List.filter (e_flt 0 1) tl8, [(1, 275)], w30)) eAlk 2 rfl ?_
          refine e_Pn.callA rfl (fun n9 d9 => u_327 (q32.rf hR)) (fun r34 w35 h33 => ?_)
          obtain ⟨rfl, h33⟩ := h33
          have q36 := q32.tr h33
          show e_Pn 20 elay ecode eI nn7 d 339 (34, (1, (0, z31)) :: (0, (1, 275)) :: List.filter (e_flt 0 1) tl8, [], w35) _
          refine e_Pn.run (t' := (35, (1, (0, z31)) :: (0, (1, 275)) :: List.filter (e_flt 0 1) tl8, [(1, 275)], w35)) eAlk 1 rfl ?_
          refine e_Pn.callB rfl (fun k9 hk9 d9 => ihG k9 (by omega) 340 (by decide) d9 _ (q36.rf hR)) (fun r38 w39 h37 => ?_)
          obtain ⟨rfl, h37⟩ := h37
          have q40 := q36.tr h37
          show e_Pn 20 elay ecode eI nn7 d 339 (38, (1, (0, z31)) :: (0, (1, 275)) :: List.filter (e_flt 0 1) tl8, [], w39) _
          refine e_Pn.run (t' := (6, (1, (0, z31)) :: (0, (1, 275)) :: List.filter (e_flt 0 1) tl8, [], w39)) eAlk 1 rfl ?_
          exact e_Pn.ord eAlk [0, 1] rfl rfl ((ih6 (by omega) _ z31 w39 q40).le (by omega))
  exact e_Pn.ord eAlk [0, 1] rfl rfl (hL5 n (Nat.le_refl _) _ (-1) w3 q4)
set_option maxHeartbeats 4000000 in
theorem u_340 {n d : Nat} {w : eW} (hR : mRw w) (ihG : ∀ k, k < n → uE k) : e_Pn 20 elay ecode eI n d 340 (0, [(0, (1, 275))], [], w) (fun r w' => r = [] ∧ mq w w') := by
  refine e_Pn.run (t' := (1, [(0, (1, 275))], [(1, 275)], w)) eAlk 1 rfl ?_
  refine e_Pn.callB rfl (fun k9 hk9 d9 => ihG k9 (by omega) 342 (by decide) d9 _ (mq.r.rf hR)) (fun r2 w3 h1 => ?_)
  obtain ⟨rfl, h1⟩ := h1
  have q4 := mq.r.tr h1
  show e_Pn 20 elay ecode eI n d 340 (4, [(0, (1, 275))], [], w3) _
  refine e_Pn.run (t' := (6, [(1, (0, (-1))), (0, (1, 275))], [], w3)) eAlk 2 rfl ?_
  have hL5 : ∀ nn7 : Nat, nn7 ≤ n → ∀ (tl8 : eL) (y11 : Int) (w9 : eW), mq w w9 → e_Pn 20 elay ecode eI nn7 d 340 (6, (0, (1, 275)) :: (1, (0, y11)) :: tl8, [], w9) (fun r w' => r = [] ∧ mq w w') := by
    intro nn7
    induction nn7 with
    | zero => intro _ tl8 y11 w9 _; exact e_Pn.zero
    | succ nn7 ih6 =>
      intro hnnn7 tl8 y11 w9 q10
      refine e_Pn.runS (t' := (7, (0, (1, 275)) :: (1, (0, y11)) :: tl8, [(1, 275)], w9)) eAlk 0 rfl ?_
      refine e_Pn.getf (z := w9 275 88) eAlk rfl rfl rfl (fun b12 => ?_)
      refine e_Pn.if1 eAlk rfl (fun h13 => ?_) (fun h13 => ?_)
      · show e_Pn 20 elay ecode eI nn7 d 340 (41, (0, (1, 275)) :: (1, (0, y11)) :: tl8, [], w9) _
        refine e_Pn.run (t' := (43, (0, (1, 275)) :: (1, (0, y11)) :: tl8, [(0, y11), (1, 275)], w9)) eAlk 2 rfl ?_
        refine e_Pn.callA rfl (fun n9 d9 => u_341 (q10.rf hR)) (fun r15 w16 h14 => ?_)
        obtain ⟨rfl, h14⟩ := h14
        have q17 := q10.tr h14
        show e_Pn 20 elay ecode eI nn7 d 340 (46, (0, (1, 275)) :: (1, (0, y11)) :: tl8, [], w16) _
        exact e_Pn.ret0 rfl ⟨rfl, q17⟩
      · show e_Pn 20 elay ecode eI nn7 d 340 (13, (0, (1, 275)) :: (1, (0, y11)) :: tl8, [], w9) _
        refine e_Pn.run (t' := (16, (0, (1, 275)) :: (1, (0, y11)) :: tl8, [(0, 25), (1, 275)], w9)) eAlk 2 rfl ?_
        refine e_Pn.callA rfl (fun n9 d9 => u_332 (q10.rf hR)) (fun r19 w20 h18 => ?_)
        obtain ⟨⟨z21, rfl⟩, h18⟩ := h18
        have q22 := q10.tr h18
        show e_Pn 20 elay ecode eI nn7 d 340 (19, (0, (1, 275)) :: (1, (0, y11)) :: tl8, [(0, z21)], w20) _
        refine e_Pn.if1 eAlk rfl (fun h23 => ?_) (fun h23 => ?_)
        · show e_Pn 20 elay ecode eI nn7 d 340 (41, (0, (1, 275)) :: (1, (0, y11)) :: tl8, [], w20) _
          refine e_Pn.run (t' := (43, (0, (1, 275)) :: (1, (0, y11)) :: tl8, [(0, y11), (1, 275)], w20)) eAlk 2 rfl ?_
          refine e_Pn.callA rfl (fun n9 d9 => u_341 (q22.rf hR)) (fun r25 w26 h24 => ?_)
          obtain ⟨rfl, h24⟩ := h24
          have q27 := q22.tr h24
          show e_Pn 20 elay ecode eI nn7 d 340 (46, (0, (1, 275)) :: (1, (0, y11)) :: tl8, [], w26) _
          exact e_Pn.ret0 rfl ⟨rfl, q27⟩
        · show e_Pn 20 elay ecode eI nn7 d 340 (22, (0, (1, 275)) :: (1, (0, y11)) :: tl8, [], w20) _
          refine e_Pn.run (t' := (26, (0, (1, 275)) :: (1, (0, y11)) :: tl8, [(0, y11), (0, 23), (1, 275)], w20)) eAlk 3 rfl ?_
          refine e_Pn.callA rfl (fun n9 d9 => u_336 (q22.rf hR)) (fun r29 w30 h28 => ?_)
          obtain ⟨⟨z31, rfl⟩, h28⟩ := h28
          have q32 := q22.tr h28
          show e_Pn 20 elay ecode eI nn7 d 340 (29, (0, (1, 275)) :: (1, (0, y11)) :: tl8, [(0, z31)], w30) _
          refine e_Pn.run (t' := (31, (1, (0, z31)) :: (0, (1, 275)) :: List.filter (e_flt 0 1) tl8, [(1, 275)], w30)) eAlk 2 rfl ?_
          refine e_Pn.callA rfl (fun n9 d9 => u_327 (q32.rf hR)) (fun r34 w35 h33 => ?_)
          obtain ⟨rfl, h33⟩ := h33
          have q36 := q32.tr h33
          show e_Pn 20 elay ecode eI nn7 d 340 (34, (1, (0, z31)) :: (0, (1, 275)) :: List.filter (e_flt 0 1) tl8, [], w35) _
          refine e_Pn.run (t' := (35, (1, (0, z31)) :: (0, (1, 275)) :: List.filter (e_flt 0 1) tl8, [(1, 275)], w35)) eAlk 1 rfl ?_
          refine e_Pn.callB rfl (fun k9 hk9 d9 => ihG k9 (by omega) 342 (by decide) d9 _ (q36.rf hR)) (fun r38 w39 h37 => ?_)
          obtain ⟨rfl, h37⟩ := h37
          have q40 := q36.tr h37
          show e_Pn 20 elay ecode eI nn7 d 340 (38, (1, (0, z31)) :: (0, (1, 275)) :: List.filter (e_flt 0 1) tl8, [], w39) _
          refine e_Pn.run (t' := (6, (1, (0, z31)) :: (0, (1, 275)) :: List.filter (e_flt 0 1) tl8, [], w39)) eAlk 1 rfl ?_
          exact e_Pn.ord eAlk [0, 1] rfl rfl ((ih6 (by omega) _ z31 w39 q40).le (by omega))
  exact e_Pn.ord eAlk [0, 1] rfl rfl (hL5 n (Nat.le_refl _) _ (-1) w3 q4)
set_option maxHeartbeats 4000000 in
theorem u_342 {n d : Nat} {w : eW} (hR : mRw w) (ihG : ∀ k, k < n → uE k) : e_Pn 20 elay ecode eI n d 342 (0, [(0, (1, 275))], [], w) (fun r w' => r = [] ∧ mq w w') := by
  refine e_Pn.run (t' := (1, [(0, (1, 275))], [(1, 275)], w)) eAlk 1 rfl ?_
  refine e_Pn.getf (z := w 275 88) eAlk rfl rfl rfl (fun b1 => ?_)
  refine e_Pn.if1 eAlk rfl (fun h2 => ?_) (fun h2 => ?_)
  · show e_Pn 20 elay ecode eI n d 342 (47, [(0, (1, 275))], [], w) _
    refine e_Pn.run (t' := (48, [(0, (1, 275))], [(1, 275)], w)) eAlk 1 rfl ?_
    refine e_Pn.callB rfl (fun k9 hk9 d9 => ihG k9 (by omega) 343 (by decide) d9 _ (mq.r.rf hR)) (fun r4 w5 h3 => ?_)
    obtain ⟨rfl, h3⟩ := h3
    have q6 := mq.r.tr h3
    show e_Pn 20 elay ecode eI n d 342 (51, [(0, (1, 275))], [], w5) _
    refine e_Pn.run (t' := (52, [(0, (1, 275))], [(1, 275)], w5)) eAlk 1 rfl ?_
    refine e_Pn.getf (z := w5 275 88) eAlk rfl rfl rfl (fun b7 => ?_)
    refine e_Pn.if1 eAlk rfl (fun h8 => ?_) (fun h8 => ?_)
    · show e_Pn 20 elay ecode eI n d 342 (66, [(0, (1, 275))], [], w5) _
      refine e_Pn.run (t' := (157, [(1, (0, 0)), (0, (1, 275))], [(0, 0)], w5)) eAlk 4 rfl ?_
      refine e_Pn.if1 eAlk rfl (fun h9 => ?_) (fun h9 => ?_)
      rotate_left
      · exfalso; have q9 : ¬ ((0 : Int) = 0) := h9; omega
      show e_Pn 20 elay ecode eI n d 342 (175, [(1, (0, 0)), (0, (1, 275))], [], w5) _
      exact e_Pn.ret0 rfl ⟨rfl, q6⟩
    · show e_Pn 20 elay ecode eI n d 342 (58, [(0, (1, 275))], [], w5) _
      refine e_Pn.run (t' := (59, [(0, (1, 275))], [(1, 275)], w5)) eAlk 1 rfl ?_
      refine e_Pn.getf (z := w5 275 84) eAlk rfl rfl rfl (fun b10 => ?_)
      refine e_Pn.run (t' := (63, [(0, (1, 275))], [(0, 3), (0, w5 275 84)], w5)) eAlk 1 rfl ?_
      refine e_Pn.if2 eAlk rfl (fun h11 => ?_) (fun h11 => ?_)
      · show e_Pn 20 elay ecode eI n d 342 (70, [(0, (1, 275))], [], w5) _
        refine e_Pn.run (t' := (71, [(0, (1, 275))], [(1, 275)], w5)) eAlk 1 rfl ?_
        refine e_Pn.getf (z := w5 275 85) eAlk rfl rfl rfl (fun b12 => ?_)
        refine e_Pn.run (t' := (76, [(0, (1, 275))], [(0, 61), (0, w5 275 85)], w5)) eAlk 1 rfl ?_
        refine e_Pn.if2 eAlk rfl (fun h13 => ?_) (fun h13 => ?_)
        · show e_Pn 20 elay ecode eI n d 342 (84, [(0, (1, 275))], [], w5) _
          refine e_Pn.run (t' := (85, [(0, (1, 275))], [(1, 275)], w5)) eAlk 1 rfl ?_
          refine e_Pn.getf (z := w5 275 85) eAlk rfl rfl rfl (fun b14 => ?_)
          refine e_Pn.run (t' := (90, [(0, (1, 275))], [(0, 110), (0, w5 275 85)], w5)) eAlk 1 rfl ?_
          refine e_Pn.if2 eAlk rfl (fun h15 => ?_) (fun h15 => ?_)
          · show e_Pn 20 elay ecode eI n d 342 (98, [(0, (1, 275))], [], w5) _
            refine e_Pn.run (t' := (99, [(0, (1, 275))], [(1, 275)], w5)) eAlk 1 rfl ?_
            refine e_Pn.getf (z := w5 275 85) eAlk rfl rfl rfl (fun b16 => ?_)
            refine e_Pn.run (t' := (104, [(0, (1, 275))], [(0, 60), (0, w5 275 85)], w5)) eAlk 1 rfl ?_
            refine e_Pn.if2 eAlk rfl (fun h17 => ?_) (fun h17 => ?_)
            · show e_Pn 20 elay ecode eI n d 342 (112, [(0, (1, 275))], [], w5) _
              refine e_Pn.run (t' := (113, [(0, (1, 275))], [(1, 275)], w5)) eAlk 1 rfl ?_
              refine e_Pn.getf (z := w5 275 85) eAlk rfl rfl rfl (fun b18 => ?_)
              refine e_Pn.run (t' := (118, [(0, (1, 275))], [(0, 108), (0, w5 275 85)], w5)) eAlk 1 rfl ?_
              refine e_Pn.if2 eAlk rfl (fun h19 => ?_) (fun h19 => ?_)
              · show e_Pn 20 elay ecode eI n d 342 (126, [(0, (1, 275))], [], w5) _
                refine e_Pn.run (t' := (127, [(0, (1, 275))], [(1, 275)], w5)) eAlk 1 rfl ?_
                refine e_Pn.getf (z := w5 275 85) eAlk rfl rfl rfl (fun b20 => ?_)
                refine e_Pn.run (t' := (132, [(0, (1, 275))], [(0, 62), (0, w5 275 85)], w5)) eAlk 1 rfl ?_
                refine e_Pn.if2 eAlk rfl (fun h21 => ?_) (fun h21 => ?_)
                · show e_Pn 20 elay ecode eI n d 342 (140, [(0, (1, 275))], [], w5) _
                  refine e_Pn.run (t' := (141, [(0, (1, 275))], [(1, 275)], w5)) eAlk 1 rfl ?_
                  refine e_Pn.getf (z := w5 275 85) eAlk rfl rfl rfl (fun b22 => ?_)
                  refine e_Pn.run (t' := (146, [(0, (1, 275))], [(0, 103), (0, w5 275 85)], w5)) eAlk 1 rfl ?_
                  refine e_Pn.if2 eAlk rfl (fun h23 => ?_) (fun h23 => ?_)
                  · show e_Pn 20 elay ecode eI n d 342 (154, [(0, (1, 275))], [], w5) _
                    refine e_Pn.run (t' := (157, [(1, (0, 0)), (0, (1, 275))], [(0, 0)], w5)) eAlk 3 rfl ?_
                    refine e_Pn.if1 eAlk rfl (fun h24 => ?_) (fun h24 => ?_)
                    rotate_left
                    · exfalso; have q9 : ¬ ((0 : Int) = 0) := h24; omega
                    show e_Pn 20 elay ecode eI n d 342 (175, [(1, (0, 0)), (0, (1, 275))], [], w5) _
                    exact e_Pn.ret0 rfl ⟨rfl, q6⟩
                  · show e_Pn 20 elay ecode eI n d 342 (149, [(0, (1, 275))], [], w5) _
                    refine e_Pn.run (t' := (157, [(1, (0, 20)), (0, (1, 275))], [(0, 20)], w5)) eAlk 4 rfl ?_
                    refine e_Pn.if1 eAlk rfl (fun h25 => ?_) (fun h25 => ?_)
                    · exfalso; replace h25 : (20 : Int) = 0 := h25; omega
                    show e_Pn 20 elay ecode eI n d 342 (160, [(1, (0, 20)), (0, (1, 275))], [], w5) _
                    refine e_Pn.run (t' := (161, [(1, (0, 20)), (0, (1, 275))], [(1, 275)], w5)) eAlk 1 rfl ?_
                    refine e_Pn.callA rfl (fun n9 d9 => u_327 (q6.rf hR)) (fun r27 w28 h26 => ?_)
                    obtain ⟨rfl, h26⟩ := h26
                    have q29 := q6.tr h26
                    show e_Pn 20 elay ecode eI n d 342 (164, [(1, (0, 20)), (0, (1, 275))], [], w28) _
                    refine e_Pn.run (t' := (165, [(1, (0, 20)), (0, (1, 275))], [(1, 275)], w28)) eAlk 1 rfl ?_
                    refine e_Pn.callB rfl (fun k9 hk9 d9 => ihG k9 (by omega) 343 (by decide) d9 _ (q29.rf hR)) (fun r31 w32 h30 => ?_)
                    obtain ⟨rfl, h30⟩ := h30
                    have q33 := q29.tr h30
                    show e_Pn 20 elay ecode eI n d 342 (168, [(1, (0, 20)), (0, (1, 275))], [], w32) _
                    refine e_Pn.run (t' := (171, [(1, (0, 20)), (0, (1, 275))], [(0, 0), (0, 20), (1, 275)], w32)) eAlk 3 rfl ?_
                    refine e_Pn.callA rfl (fun n9 d9 => u_336 (q33.rf hR)) (fun r35 w36 h34 => ?_)
                    obtain ⟨⟨z37, rfl⟩, h34⟩ := h34
                    have q38 := q33.tr h34
                    show e_Pn 20 elay ecode eI n d 342 (174, [(1, (0, 20)), (0, (1, 275))], [(0, z37)], w36) _
                    refine e_Pn.run (t' := (175, [(1, (0, 20)), (0, (1, 275))], [], w36)) eAlk 1 rfl ?_
                    exact e_Pn.ret0 rfl ⟨rfl, q38⟩
                · show e_Pn 20 elay ecode eI n d 342 (135, [(0, (1, 275))], [], w5) _
                  refine e_Pn.run (t' := (157, [(1, (0, 19)), (0, (1, 275))], [(0, 19)], w5)) eAlk 4 rfl ?_
                  refine e_Pn.if1 eAlk rfl (fun h39 => ?_) (fun h39 => ?_)
                  · exfalso; replace h39 : (19 : Int) = 0 := h39; omega
                  show e_Pn 20 elay ecode eI n d 342 (160, [(1, (0, 19)), (0, (1, 275))], [], w5) _
                  refine e_Pn.run (t' := (161, [(1, (0, 19)), (0, (1, 275))], [(1, 275)], w5)) eAlk 1 rfl ?_
                  refine e_Pn.callA rfl (fun n9 d9 => u_327 (q6.rf hR)) (fun r41 w42 h40 => ?_)
                  obtain ⟨rfl, h40⟩ := h40
                  have q43 := q6.tr h40
                  show e_Pn 20 elay ecode eI n d 342 (164, [(1, (0, 19)), (0, (1, 275))], [], w42) _
                  refine e_Pn.run (t' := (165, [(1, (0, 19)), (0, (1, 275))], [(1, 275)], w42)) eAlk 1 rfl ?_
                  refine e_Pn.callB rfl (fun k9 hk9 d9 => ihG k9 (by omega) 343 (by decide) d9 _ (q43.rf hR)) (fun r45 w46 h44 => ?_)
                  obtain ⟨rfl, h44⟩ := h44
                  have q47 := q43.tr h44
                  show e_Pn 20 elay ecode eI n d 342 (168, [(1, (0, 19)), (0, (1, 275))], [], w46) _
                  refine e_Pn.run (t' := (171, [(1, (0, 19)), (0, (1, 275))], [(0, 0), (0, 19), (1, 275)], w46)) eAlk 3 rfl ?_
                  refine e_Pn.callA rfl (fun n9 d9 => u_336 (q47.rf hR)) (fun r49 w50 h48 => ?_)
                  obtain ⟨⟨z51, rfl⟩, h48⟩ := h48
                  have q52 := q47.tr h48
                  show e_Pn 20 elay ecode eI n d 342 (174, [(1, (0, 19)), (0, (1, 275))], [(0, z51)], w50) _
                  refine e_Pn.run (t' := (175, [(1, (0, 19)), (0, (1, 275))], [], w50)) eAlk 1 rfl ?_
                  exact e_Pn.ret0 rfl ⟨rfl, q52⟩
              · show e_Pn 20 elay ecode eI n d 342 (121, [(0, (1, 275))], [], w5) _
                refine e_Pn.run (t' := (157, [(1, (0, 18)), (0, (1, 275))], [(0, 18)], w5)) eAlk 4 rfl ?_
                refine e_Pn.if1 eAlk rfl (fun h53 => ?_) (fun h53 => ?_)
                · exfalso; replace h53 : (18 : Int) = 0 := h53; omega
                show e_Pn 20 elay ecode eI n d 342 (160, [(1, (0, 18)), (0, (1, 275))], [], w5) _
                refine e_Pn.run (t' := (161, [(1, (0, 18)), (0, (1, 275))], [(1, 275)], w5)) eAlk 1 rfl ?_
                refine e_Pn.callA rfl (fun n9 d9 => u_327 (q6.rf hR)) (fun r55 w56 h54 => ?_)
                obtain ⟨rfl, h54⟩ := h54
                have q57 := q6.tr h54
                show e_Pn 20 elay ecode eI n d 342 (164, [(1, (0, 18)), (0, (1, 275))], [], w56) _
                refine e_Pn.run (t' := (165, [(1, (0, 18)), (0, (1, 275))], [(1, 275)], w56)) eAlk 1 rfl ?_
                refine e_Pn.callB rfl (fun k9 hk9 d9 => ihG k9 (by omega) 343 (by decide) d9 _ (q57.rf hR)) (fun r59 w60 h58 => ?_)
                obtain ⟨rfl, h58⟩ := h58
                have q61 := q57.tr h58
                show e_Pn 20 elay ecode eI n d 342 (168, [(1, (0, 18)), (0, (1, 275))], [], w60) _
                refine e_Pn.run (t' := (171, [(1, (0, 18)), (0, (1, 275))], [(0, 0), (0, 18), (1, 275)], w60)) eAlk 3 rfl ?_
                refine e_Pn.callA rfl (fun n9 d9 => u_336 (q61.rf hR)) (fun r63 w64 h62 => ?_)
                obtain ⟨⟨z65, rfl⟩, h62⟩ := h62
                have q66 := q61.tr h62
                show e_Pn 20 elay ecode eI n d 342 (174, [(1, (0, 18)), (0, (1, 275))], [(0, z65)], w64) _
                refine e_Pn.run (t' := (175, [(1, (0, 18)), (0, (1, 275))], [], w64)) eAlk 1 rfl ?_
                exact e_Pn.ret0 rfl ⟨rfl, q66⟩
            · show e_Pn 20 elay ecode eI n d 342 (107, [(0, (1, 275))], [], w5) _
              refine e_Pn.run (t' := (157, [(1, (0, 17)), (0, (1, 275))], [(0, 17)], w5)) eAlk 4 rfl ?_
              refine e_Pn.if1 eAlk rfl (fun h67 => ?_) (fun h67 => ?_)
              · exfalso; replace h67 : (17 : Int) = 0 := h67; omega
              show e_Pn 20 elay ecode eI n d 342 (160, [(1, (0, 17)), (0, (1, 275))], [], w5) _
              refine e_Pn.run (t' := (161, [(1, (0, 17)), (0, (1, 275))], [(1, 275)], w5)) eAlk 1 rfl ?_
              refine e_Pn.callA rfl (fun n9 d9 => u_327 (q6.rf hR)) (fun r69 w70 h68 => ?_)
              obtain ⟨rfl, h68⟩ := h68
              have q71 := q6.tr h68
              show e_Pn 20 elay ecode eI n d 342 (164, [(1, (0, 17)), (0, (1, 275))], [], w70) _
              refine e_Pn.run (t' := (165, [(1, (0, 17)), (0, (1, 275))], [(1, 275)], w70)) eAlk 1 rfl ?_
              refine e_Pn.callB rfl (fun k9 hk9 d9 => ihG k9 (by omega) 343 (by decide) d9 _ (q71.rf hR)) (fun r73 w74 h72 => ?_)
              obtain ⟨rfl, h72⟩ := h72
              have q75 := q71.tr h72
              show e_Pn 20 elay ecode eI n d 342 (168, [(1, (0, 17)), (0, (1, 275))], [], w74) _
              refine e_Pn.run (t' := (171, [(1, (0, 17)), (0, (1, 275))], [(0, 0), (0, 17), (1, 275)], w74)) eAlk 3 rfl ?_
              refine e_Pn.callA rfl (fun n9 d9 => u_336 (q75.rf hR)) (fun r77 w78 h76 => ?_)
              obtain ⟨⟨z79, rfl⟩, h76⟩ := h76
              have q80 := q75.tr h76
              show e_Pn 20 elay ecode eI n d 342 (174, [(1, (0, 17)), (0, (1, 275))], [(0, z79)], w78) _
              refine e_Pn.run (t' := (175, [(1, (0, 17)), (0, (1, 275))], [], w78)) eAlk 1 rfl ?_
              exact e_Pn.ret0 rfl ⟨rfl, q80⟩
          · show e_Pn 20 elay ecode eI n d 342 (93, [(0, (1, 275))], [], w5) _
            refine e_Pn.run (t' := (157, [(1, (0, 16)), (0, (1, 275))], [(0, 16)], w5)) eAlk 4 rfl ?_
            refine e_Pn.if1 eAlk rfl (fun h81 => ?_) (fun h81 => ?_)
            · exfalso; replace h81 : (16 : Int) = 0 := h81; omega
            show e_Pn 20 elay ecode eI n d 342 (160, [(1, (0, 16)), (0, (1, 275))], [], w5) _
            refine e_Pn.run (t' := (161, [(1, (0, 16)), (0, (1, 275))], [(1, 275)], w5)) eAlk 1 rfl ?_
            refine e_Pn.callA rfl (fun n9 d9 => u_327 (q6.rf hR)) (fun r83 w84 h82 => ?_)
            obtain ⟨rfl, h82⟩ := h82
            have q85 := q6.tr h82
            show e_Pn 20 elay ecode eI n d 342 (164, [(1, (0, 16)), (0, (1, 275))], [], w84) _
            refine e_Pn.run (t' := (165, [(1, (0, 16)), (0, (1, 275))], [(1, 275)], w84)) eAlk 1 rfl ?_
            refine e_Pn.callB rfl (fun k9 hk9 d9 => ihG k9 (by omega) 343 (by decide) d9 _ (q85.rf hR)) (fun r87 w88 h86 => ?_)
            obtain ⟨rfl, h86⟩ := h86
            have q89 := q85.tr h86
            show e_Pn 20 elay ecode eI n d 342 (168, [(1, (0, 16)), (0, (1, 275))], [], w88) _
            refine e_Pn.run (t' := (171, [(1, (0, 16)), (0, (1, 275))], [(0, 0), (0, 16), (1, 275)], w88)) eAlk 3 rfl ?_
            refine e_Pn.callA rfl (fun n9 d9 => u_336 (q89.rf hR)) (fun r91 w92 h90 => ?_)
            obtain ⟨⟨z93, rfl⟩, h90⟩ := h90
            have q94 := q89.tr h90
            show e_Pn 20 elay ecode eI n d 342 (174, [(1, (0, 16)), (0, (1, 275))], [(0, z93)], w92) _
            refine e_Pn.run (t' := (175, [(1, (0, 16)), (0, (1, 275))], [], w92)) eAlk 1 rfl ?_
            exact e_Pn.ret0 rfl ⟨rfl, q94⟩
        · show e_Pn 20 elay ecode eI n d 342 (79, [(0, (1, 275))], [], w5) _
          refine e_Pn.run (t' := (157, [(1, (0, 15)), (0, (1, 275))], [(0, 15)], w5)) eAlk 4 rfl ?_
          refine e_Pn.if1 eAlk rfl (fun h95 => ?_) (fun h95 => ?_)
          · exfalso; replace h95 : (15 : Int) = 0 := h95; omega
          show e_Pn 20 elay ecode eI n d 342 (160, [(1, (0, 15)), (0, (1, 275))], [], w5) _
          refine e_Pn.run (t' := (161, [(1, (0, 15)), (0, (1, 275))], [(1, 275)], w5)) eAlk 1 rfl ?_
          refine e_Pn.callA rfl (fun n9 d9 => u_327 (q6.rf hR)) (fun r97 w98 h96 => ?_)
          obtain ⟨rfl, h96⟩ := h96
          have q99 := q6.tr h96
          show e_Pn 20 elay ecode eI n d 342 (164, [(1, (0, 15)), (0, (1, 275))], [], w98) _
          refine e_Pn.run (t' := (165, [(1, (0, 15)), (0, (1, 275))], [(1, 275)], w98)) eAlk 1 rfl ?_
          refine e_Pn.callB rfl (fun k9 hk9 d9 => ihG k9 (by omega) 343 (by decide) d9 _ (q99.rf hR)) (fun r101 w102 h100 => ?_)
          obtain ⟨rfl, h100⟩ := h100
          have q103 := q99.tr h100
          show e_Pn 20 elay ecode eI n d 342 (168, [(1, (0, 15)), (0, (1, 275))], [], w102) _
          refine e_Pn.run (t' := (171, [(1, (0, 15)), (0, (1, 275))], [(0, 0), (0, 15), (1, 275)], w102)) eAlk 3 rfl ?_
          refine e_Pn.callA rfl (fun n9 d9 => u_336 (q103.rf hR)) (fun r105 w106 h104 => ?_)
          obtain ⟨⟨z107, rfl⟩, h104⟩ := h104
          have q108 := q103.tr h104
          show e_Pn 20 elay ecode eI n d 342 (174, [(1, (0, 15)), (0, (1, 275))], [(0, z107)], w106) _
          refine e_Pn.run (t' := (175, [(1, (0, 15)), (0, (1, 275))], [], w106)) eAlk 1 rfl ?_
          exact e_Pn.ret0 rfl ⟨rfl, q108⟩
      · show e_Pn 20 elay ecode eI n d 342 (66, [(0, (1, 275))], [], w5) _
        refine e_Pn.run (t' := (157, [(1, (0, 0)), (0, (1, 275))], [(0, 0)], w5)) eAlk 4 rfl ?_
        refine e_Pn.if1 eAlk rfl (fun h109 => ?_) (fun h109 => ?_)
        rotate_left
        · exfalso; have q9 : ¬ ((0 : Int) = 0) := h109; omega
        show e_Pn 20 elay ecode eI n d 342 (175, [(1, (0, 0)), (0, (1, 275))], [], w5) _
        exact e_Pn.ret0 rfl ⟨rfl, q6⟩
  · show e_Pn 20 elay ecode eI n d 342 (7, [(0, (1, 275))], [], w) _
    refine e_Pn.run (t' := (10, [(0, (1, 275))], [(0, 26), (1, 275)], w)) eAlk 2 rfl ?_
    refine e_Pn.callA rfl (fun n9 d9 => u_332 (mq.r.rf hR)) (fun r111 w112 h110 => ?_)
    obtain ⟨⟨z113, rfl⟩, h110⟩ := h110
    have q114 := mq.r.tr h110
    show e_Pn 20 elay ecode eI n d 342 (13, [(0, (1, 275))], [(0, z113)], w112) _
    refine e_Pn.if1 eAlk rfl (fun h115 => ?_) (fun h115 => ?_)
    · show e_Pn 20 elay ecode eI n d 342 (47, [(0, (1, 275))], [], w112) _
      refine e_Pn.run (t' := (48, [(0, (1, 275))], [(1, 275)], w112)) eAlk 1 rfl ?_
      refine e_Pn.callB rfl (fun k9 hk9 d9 => ihG k9 (by omega) 343 (by decide) d9 _ (q114.rf hR)) (fun r117 w118 h116 => ?_)
      obtain ⟨rfl, h116⟩ := h116
      have q119 := q114.tr h116
      show e_Pn 20 elay ecode eI n d 342 (51, [(0, (1, 275))], [], w118) _
      refine e_Pn.run (t' := (52, [(0, (1, 275))], [(1, 275)], w118)) eAlk 1 rfl ?_
      refine e_Pn.getf (z := w118 275 88) eAlk rfl rfl rfl (fun b120 => ?_)
      refine e_Pn.if1 eAlk rfl (fun h121 => ?_) (fun h121 => ?_)
      · show e_Pn 20 elay ecode eI n d 342 (66, [(0, (1, 275))], [], w118) _
        refine e_Pn.run (t' := (157, [(1, (0, 0)), (0, (1, 275))], [(0, 0)], w118)) eAlk 4 rfl ?_
        refine e_Pn.if1 eAlk rfl (fun h122 => ?_) (fun h122 => ?_)
        rotate_left
        · exfalso; have q9 : ¬ ((0 : Int) = 0) := h122; omega
        show e_Pn 20 elay ecode eI n d 342 (175, [(1, (0, 0)), (0, (1, 275))], [], w118) _
        exact e_Pn.ret0 rfl ⟨rfl, q119⟩
      · show e_Pn 20 elay ecode eI n d 342 (58, [(0, (1, 275))], [], w118) _
        refine e_Pn.run (t' := (59, [(0, (1, 275))], [(1, 275)], w118)) eAlk 1 rfl ?_
        refine e_Pn.getf (z := w118 275 84) eAlk rfl rfl rfl (fun b123 => ?_)
        refine e_Pn.run (t' := (63, [(0, (1, 275))], [(0, 3), (0, w118 275 84)], w118)) eAlk 1 rfl ?_
        refine e_Pn.if2 eAlk rfl (fun h124 => ?_) (fun h124 => ?_)
        · show e_Pn 20 elay ecode eI n d 342 (70, [(0, (1, 275))], [], w118) _
          refine e_Pn.run (t' := (71, [(0, (1, 275))], [(1, 275)], w118)) eAlk 1 rfl ?_
          refine e_Pn.getf (z := w118 275 85) eAlk rfl rfl rfl (fun b125 => ?_)
          refine e_Pn.run (t' := (76, [(0, (1, 275))], [(0, 61), (0, w118 275 85)], w118)) eAlk 1 rfl ?_
          refine e_Pn.if2 eAlk rfl (fun h126 => ?_) (fun h126 => ?_)
          · show e_Pn 20 elay ecode eI n d 342 (84, [(0, (1, 275))], [], w118) _
            refine e_Pn.run (t' := (85, [(0, (1, 275))], [(1, 275)], w118)) eAlk 1 rfl ?_
            refine e_Pn.getf (z := w118 275 85) eAlk rfl rfl rfl (fun b127 => ?_)
            refine e_Pn.run (t' := (90, [(0, (1, 275))], [(0, 110), (0, w118 275 85)], w118)) eAlk 1 rfl ?_
            refine e_Pn.if2 eAlk rfl (fun h128 => ?_) (fun h128 => ?_)
            · show e_Pn 20 elay ecode eI n d 342 (98, [(0, (1, 275))], [], w118) _
              refine e_Pn.run (t' := (99, [(0, (1, 275))], [(1, 275)], w118)) eAlk 1 rfl ?_
              refine e_Pn.getf (z := w118 275 85) eAlk rfl rfl rfl (fun b129 => ?_)
              refine e_Pn.run (t' := (104, [(0, (1, 275))], [(0, 60), (0, w118 275 85)], w118)) eAlk 1 rfl ?_
              refine e_Pn.if2 eAlk rfl (fun h130 => ?_) (fun h130 => ?_)
              · show e_Pn 20 elay ecode eI n d 342 (112, [(0, (1, 275))], [], w118) _
                refine e_Pn.run (t' := (113, [(0, (1, 275))], [(1, 275)], w118)) eAlk 1 rfl ?_
                refine e_Pn.getf (z := w118 275 85) eAlk rfl rfl rfl (fun b131 => ?_)
                refine e_Pn.run (t' := (118, [(0, (1, 275))], [(0, 108), (0, w118 275 85)], w118)) eAlk 1 rfl ?_
                refine e_Pn.if2 eAlk rfl (fun h132 => ?_) (fun h132 => ?_)
                · show e_Pn 20 elay ecode eI n d 342 (126, [(0, (1, 275))], [], w118) _
                  refine e_Pn.run (t' := (127, [(0, (1, 275))], [(1, 275)], w118)) eAlk 1 rfl ?_
                  refine e_Pn.getf (z := w118 275 85) eAlk rfl rfl rfl (fun b133 => ?_)
                  refine e_Pn.run (t' := (132, [(0, (1, 275))], [(0, 62), (0, w118 275 85)], w118)) eAlk 1 rfl ?_
                  refine e_Pn.if2 eAlk rfl (fun h134 => ?_) (fun h134 => ?_)
                  · show e_Pn 20 elay ecode eI n d 342 (140, [(0, (1, 275))], [], w118) _
                    refine e_Pn.run (t' := (141, [(0, (1, 275))], [(1, 275)], w118)) eAlk 1 rfl ?_
                    refine e_Pn.getf (z := w118 275 85) eAlk rfl rfl rfl (fun b135 => ?_)
                    refine e_Pn.run (t' := (146, [(0, (1, 275))], [(0, 103), (0, w118 275 85)], w118)) eAlk 1 rfl ?_
                    refine e_Pn.if2 eAlk rfl (fun h136 => ?_) (fun h136 => ?_)
                    · show e_Pn 20 elay ecode eI n d 342 (154, [(0, (1, 275))], [], w118) _
                      refine e_Pn.run (t' := (157, [(1, (0, 0)), (0, (1, 275))], [(0, 0)], w118)) eAlk 3 rfl ?_
                      refine e_Pn.if1 eAlk rfl (fun h137 => ?_) (fun h137 => ?_)
                      rotate_left
                      · exfalso; have q9 : ¬ ((0 : Int) = 0) := h137; omega
                      show e_Pn 20 elay ecode eI n d 342 (175, [(1, (0, 0)), (0, (1, 275))], [], w118) _
                      exact e_Pn.ret0 rfl ⟨rfl, q119⟩
                    · show e_Pn 20 elay ecode eI n d 342 (149, [(0, (1, 275))], [], w118) _
                      refine e_Pn.run (t' := (157, [(1, (0, 20)), (0, (1, 275))], [(0, 20)], w118)) eAlk 4 rfl ?_
                      refine e_Pn.if1 eAlk rfl (fun h138 => ?_) (fun h138 => ?_)
                      · exfalso; replace h138 : (20 : Int) = 0 := h138; omega
                      show e_Pn 20 elay ecode eI n d 342 (160, [(1, (0, 20)), (0, (1, 275))], [], w118) _
                      refine e_Pn.run (t' := (161, [(1, (0, 20)), (0, (1, 275))], [(1, 275)], w118)) eAlk 1 rfl ?_
                      refine e_Pn.callA rfl (fun n9 d9 => u_327 (q119.rf hR)) (fun r140 w141 h139 => ?_)
                      obtain ⟨rfl, h139⟩ := h139
                      have q142 := q119.tr h139
                      show e_Pn 20 elay ecode eI n d 342 (164, [(1, (0, 20)), (0, (1, 275))], [], w141) _
                      refine e_Pn.run (t' := (165, [(1, (0, 20)), (0, (1, 275))], [(1, 275)], w141)) eAlk 1 rfl ?_
                      refine e_Pn.callB rfl (fun k9 hk9 d9 => ihG k9 (by omega) 343 (by decide) d9 _ (q142.rf hR)) (fun r144 w145 h143 => ?_)
                      obtain ⟨rfl, h143⟩ := h143
                      have q146 := q142.tr h143
                      show e_Pn 20 elay ecode eI n d 342 (168, [(1, (0, 20)), (0, (1, 275))], [], w145) _
                      refine e_Pn.run (t' := (171, [(1, (0, 20)), (0, (1, 275))], [(0, 0), (0, 20), (1, 275)], w145)) eAlk 3 rfl ?_
                      refine e_Pn.callA rfl (fun n9 d9 => u_336 (q146.rf hR)) (fun r148 w149 h147 => ?_)
                      obtain ⟨⟨z150, rfl⟩, h147⟩ := h147
                      have q151 := q146.tr h147
                      show e_Pn 20 elay ecode eI n d 342 (174, [(1, (0, 20)), (0, (1, 275))], [(0, z150)], w149) _
                      refine e_Pn.run (t' := (175, [(1, (0, 20)), (0, (1, 275))], [], w149)) eAlk 1 rfl ?_
                      exact e_Pn.ret0 rfl ⟨rfl, q151⟩
                  · show e_Pn 20 elay ecode eI n d 342 (135, [(0, (1, 275))], [], w118) _
                    refine e_Pn.run (t' := (157, [(1, (0, 19)), (0, (1, 275))], [(0, 19)], w118)) eAlk 4 rfl ?_
                    refine e_Pn.if1 eAlk rfl (fun h152 => ?_) (fun h152 => ?_)
                    · exfalso; replace h152 : (19 : Int) = 0 := h152; omega
                    show e_Pn 20 elay ecode eI n d 342 (160, [(1, (0, 19)), (0, (1, 275))], [], w118) _
                    refine e_Pn.run (t' := (161, [(1, (0, 19)), (0, (1, 275))], [(1, 275)], w118)) eAlk 1 rfl ?_
                    refine e_Pn.callA rfl (fun n9 d9 => u_327 (q119.rf hR)) (fun r154 w155 h153 => ?_)
                    obtain ⟨rfl, h153⟩ := h153
                    have q156 := q119.tr h153
                    show e_Pn 20 elay ecode eI n d 342 (164, [(1, (0, 19)), (0, (1, 275))], [], w155) _
                    refine e_Pn.run (t' := (165, [(1, (0, 19)), (0, (1, 275))], [(1, 275)], w155)) eAlk 1 rfl ?_
                    refine e_Pn.callB rfl (fun k9 hk9 d9 => ihG k9 (by omega) 343 (by decide) d9 _ (q156.rf hR)) (fun r158 w159 h157 => ?_)
                    obtain ⟨rfl, h157⟩ := h157
                    have q160 := q156.tr h157
                    show e_Pn 20 elay ecode eI n d 342 (168, [(1, (0, 19)), (0, (1, 275))], [], w159) _
                    refine e_Pn.run (t' := (171, [(1, (0, 19)), (0, (1, 275))], [(0, 0), (0, 19), (1, 275)], w159)) eAlk 3 rfl ?_
                    refine e_Pn.callA rfl (fun n9 d9 => u_336 (q160.rf hR)) (fun r162 w163 h161 => ?_)
                    obtain ⟨⟨z164, rfl⟩, h161⟩ := h161
                    have q165 := q160.tr h161
                    show e_Pn 20 elay ecode eI n d 342 (174, [(1, (0, 19)), (0, (1, 275))], [(0, z164)], w163) _
                    refine e_Pn.run (t' := (175, [(1, (0, 19)), (0, (1, 275))], [], w163)) eAlk 1 rfl ?_
                    exact e_Pn.ret0 rfl ⟨rfl, q165⟩
                · show e_Pn 20 elay ecode eI n d 342 (121, [(0, (1, 275))], [], w118) _
                  refine e_Pn.run (t' := (157, [(1, (0, 18)), (0, (1, 275))], [(0, 18)], w118)) eAlk 4 rfl ?_
                  refine e_Pn.if1 eAlk rfl (fun h166 => ?_) (fun h166 => ?_)
                  · exfalso; replace h166 : (18 : Int) = 0 := h166; omega
                  show e_Pn 20 elay ecode eI n d 342 (160, [(1, (0, 18)), (0, (1, 275))], [], w118) _
                  refine e_Pn.run (t' := (161, [(1, (0, 18)), (0, (1, 275))], [(1, 275)], w118)) eAlk 1 rfl ?_
                  refine e_Pn.callA rfl (fun n9 d9 => u_327 (q119.rf hR)) (fun r168 w169 h167 => ?_)
                  obtain ⟨rfl, h167⟩ := h167
                  have q170 := q119.tr h167
                  show e_Pn 20 elay ecode eI n d 342 (164, [(1, (0, 18)), (0, (1, 275))], [], w169) _
                  refine e_Pn.run (t' := (165, [(1, (0, 18)), (0, (1, 275))], [(1, 275)], w169)) eAlk 1 rfl ?_
                  refine e_Pn.callB rfl (fun k9 hk9 d9 => ihG k9 (by omega) 343 (by decide) d9 _ (q170.rf hR)) (fun r172 w173 h171 => ?_)
                  obtain ⟨rfl, h171⟩ := h171
                  have q174 := q170.tr h171
                  show e_Pn 20 elay ecode eI n d 342 (168, [(1, (0, 18)), (0, (1, 275))], [], w173) _
                  refine e_Pn.run (t' := (171, [(1, (0, 18)), (0, (1, 275))], [(0, 0), (0, 18), (1, 275)], w173)) eAlk 3 rfl ?_
                  refine e_Pn.callA rfl (fun n9 d9 => u_336 (q174.rf hR)) (fun r176 w177 h175 => ?_)
                  obtain ⟨⟨z178, rfl⟩, h175⟩ := h175
                  have q179 := q174.tr h175
                  show e_Pn 20 elay ecode eI n d 342 (174, [(1, (0, 18)), (0, (1, 275))], [(0, z178)], w177) _
                  refine e_Pn.run (t' := (175, [(1, (0, 18)), (0, (1, 275))], [], w177)) eAlk 1 rfl ?_
                  exact e_Pn.ret0 rfl ⟨rfl, q179⟩
              · show e_Pn 20 elay ecode eI n d 342 (107, [(0, (1, 275))], [], w118) _
                refine e_Pn.run (t' := (157, [(1, (0, 17)), (0, (1, 275))], [(0, 17)], w118)) eAlk 4 rfl ?_
                refine e_Pn.if1 eAlk rfl (fun h180 => ?_) (fun h180 => ?_)
                · exfalso; replace h180 : (17 : Int) = 0 := h180; omega
                show e_Pn 20 elay ecode eI n d 342 (160, [(1, (0, 17)), (0, (1, 275))], [], w118) _
                refine e_Pn.run (t' := (161, [(1, (0, 17)), (0, (1, 275))], [(1, 275)], w118)) eAlk 1 rfl ?_
                refine e_Pn.callA rfl (fun n9 d9 => u_327 (q119.rf hR)) (fun r182 w183 h181 => ?_)
                obtain ⟨rfl, h181⟩ := h181
                have q184 := q119.tr h181
                show e_Pn 20 elay ecode eI n d 342 (164, [(1, (0, 17)), (0, (1, 275))], [], w183) _
                refine e_Pn.run (t' := (165, [(1, (0, 17)), (0, (1, 275))], [(1, 275)], w183)) eAlk 1 rfl ?_
                refine e_Pn.callB rfl (fun k9 hk9 d9 => ihG k9 (by omega) 343 (by decide) d9 _ (q184.rf hR)) (fun r186 w187 h185 => ?_)
                obtain ⟨rfl, h185⟩ := h185
                have q188 := q184.tr h185
                show e_Pn 20 elay ecode eI n d 342 (168, [(1, (0, 17)), (0, (1, 275))], [], w187) _
                refine e_Pn.run (t' := (171, [(1, (0, 17)), (0, (1, 275))], [(0, 0), (0, 17), (1, 275)], w187)) eAlk 3 rfl ?_
                refine e_Pn.callA rfl (fun n9 d9 => u_336 (q188.rf hR)) (fun r190 w191 h189 => ?_)
                obtain ⟨⟨z192, rfl⟩, h189⟩ := h189
                have q193 := q188.tr h189
                show e_Pn 20 elay ecode eI n d 342 (174, [(1, (0, 17)), (0, (1, 275))], [(0, z192)], w191) _
                refine e_Pn.run (t' := (175, [(1, (0, 17)), (0, (1, 275))], [], w191)) eAlk 1 rfl ?_
                exact e_Pn.ret0 rfl ⟨rfl, q193⟩
            · show e_Pn 20 elay ecode eI n d 342 (93, [(0, (1, 275))], [], w118) _
              refine e_Pn.run (t' := (157, [(1, (0, 16)), (0, (1, 275))], [(0, 16)], w118)) eAlk 4 rfl ?_
              refine e_Pn.if1 eAlk rfl (fun h194 => ?_) (fun h194 => ?_)
              · exfalso; replace h194 : (16 : Int) = 0 := h194; omega
              show e_Pn 20 elay ecode eI n d 342 (160, [(1, (0, 16)), (0, (1, 275))], [], w118) _
              refine e_Pn.run (t' := (161, [(1, (0, 16)), (0, (1, 275))], [(1, 275)], w118)) eAlk 1 rfl ?_
              refine e_Pn.callA rfl (fun n9 d9 => u_327 (q119.rf hR)) (fun r196 w197 h195 => ?_)
              obtain ⟨rfl, h195⟩ := h195
              have q198 := q119.tr h195
              show e_Pn 20 elay ecode eI n d 342 (164, [(1, (0, 16)), (0, (1, 275))], [], w197) _
              refine e_Pn.run (t' := (165, [(1, (0, 16)), (0, (1, 275))], [(1, 275)], w197)) eAlk 1 rfl ?_
              refine e_Pn.callB rfl (fun k9 hk9 d9 => ihG k9 (by omega) 343 (by decide) d9 _ (q198.rf hR)) (fun r200 w201 h199 => ?_)
              obtain ⟨rfl, h199⟩ := h199
              have q202 := q198.tr h199
              show e_Pn 20 elay ecode eI n d 342 (168, [(1, (0, 16)), (0, (1, 275))], [], w201) _
              refine e_Pn.run (t' := (171, [(1, (0, 16)), (0, (1, 275))], [(0, 0), (0, 16), (1, 275)], w201)) eAlk 3 rfl ?_
              refine e_Pn.callA rfl (fun n9 d9 => u_336 (q202.rf hR)) (fun r204 w205 h203 => ?_)
              obtain ⟨⟨z206, rfl⟩, h203⟩ := h203
              have q207 := q202.tr h203
              show e_Pn 20 elay ecode eI n d 342 (174, [(1, (0, 16)), (0, (1, 275))], [(0, z206)], w205) _
              refine e_Pn.run (t' := (175, [(1, (0, 16)), (0, (1, 275))], [], w205)) eAlk 1 rfl ?_
              exact e_Pn.ret0 rfl ⟨rfl, q207⟩
          · show e_Pn 20 elay ecode eI n d 342 (79, [(0, (1, 275))], [], w118) _
            refine e_Pn.run (t' := (157, [(1, (0, 15)), (0, (1, 275))], [(0, 15)], w118)) eAlk 4 rfl ?_
            refine e_Pn.if1 eAlk rfl (fun h208 => ?_) (fun h208 => ?_)
            · exfalso; replace h208 : (15 : Int) = 0 := h208; omega
            show e_Pn 20 elay ecode eI n d 342 (160, [(1, (0, 15)), (0, (1, 275))], [], w118) _
            refine e_Pn.run (t' := (161, [(1, (0, 15)), (0, (1, 275))], [(1, 275)], w118)) eAlk 1 rfl ?_
            refine e_Pn.callA rfl (fun n9 d9 => u_327 (q119.rf hR)) (fun r210 w211 h209 => ?_)
            obtain ⟨rfl, h209⟩ := h209
            have q212 := q119.tr h209
            show e_Pn 20 elay ecode eI n d 342 (164, [(1, (0, 15)), (0, (1, 275))], [], w211) _
            refine e_Pn.run (t' := (165, [(1, (0, 15)), (0, (1, 275))], [(1, 275)], w211)) eAlk 1 rfl ?_
            refine e_Pn.callB rfl (fun k9 hk9 d9 => ihG k9 (by omega) 343 (by decide) d9 _ (q212.rf hR)) (fun r214 w215 h213 => ?_)
            obtain ⟨rfl, h213⟩ := h213
            have q216 := q212.tr h213
            show e_Pn 20 elay ecode eI n d 342 (168, [(1, (0, 15)), (0, (1, 275))], [], w215) _
            refine e_Pn.run (t' := (171, [(1, (0, 15)), (0, (1, 275))], [(0, 0), (0, 15), (1, 275)], w215)) eAlk 3 rfl ?_
            refine e_Pn.callA rfl (fun n9 d9 => u_336 (q216.rf hR)) (fun r218 w219 h217 => ?_)
            obtain ⟨⟨z220, rfl⟩, h217⟩ := h217
            have q221 := q216.tr h217
            show e_Pn 20 elay ecode eI n d 342 (174, [(1, (0, 15)), (0, (1, 275))], [(0, z220)], w219) _
            refine e_Pn.run (t' := (175, [(1, (0, 15)), (0, (1, 275))], [], w219)) eAlk 1 rfl ?_
            exact e_Pn.ret0 rfl ⟨rfl, q221⟩
        · show e_Pn 20 elay ecode eI n d 342 (66, [(0, (1, 275))], [], w118) _
          refine e_Pn.run (t' := (157, [(1, (0, 0)), (0, (1, 275))], [(0, 0)], w118)) eAlk 4 rfl ?_
          refine e_Pn.if1 eAlk rfl (fun h222 => ?_) (fun h222 => ?_)
          rotate_left
          · exfalso; have q9 : ¬ ((0 : Int) = 0) := h222; omega
          show e_Pn 20 elay ecode eI n d 342 (175, [(1, (0, 0)), (0, (1, 275))], [], w118) _
          exact e_Pn.ret0 rfl ⟨rfl, q119⟩
    · show e_Pn 20 elay ecode eI n d 342 (16, [(0, (1, 275))], [], w112) _
      refine e_Pn.run (t' := (17, [(0, (1, 275))], [(1, 275)], w112)) eAlk 1 rfl ?_
      refine e_Pn.callA rfl (fun n9 d9 => u_335 (q114.rf hR)) (fun r224 w225 h223 => ?_)
      obtain ⟨rfl, h223⟩ := h223
      have q226 := q114.tr h223
      show e_Pn 20 elay ecode eI n d 342 (20, [(0, (1, 275))], [], w225) _
      refine e_Pn.run (t' := (21, [(0, (1, 275))], [(1, 275)], w225)) eAlk 1 rfl ?_
      refine e_Pn.callA rfl (fun n9 d9 => u_327 (q226.rf hR)) (fun r228 w229 h227 => ?_)
      obtain ⟨rfl, h227⟩ := h227
      have q230 := q226.tr h227
      show e_Pn 20 elay ecode eI n d 342 (24, [(0, (1, 275))], [], w229) _
      refine e_Pn.run (t' := (25, [(0, (1, 275))], [(1, 275)], w229)) eAlk 1 rfl ?_
      refine e_Pn.callB rfl (fun k9 hk9 d9 => ihG k9 (by omega) 342 (by decide) d9 _ (q230.rf hR)) (fun r232 w233 h231 => ?_)
      obtain ⟨rfl, h231⟩ := h231
      have q234 := q230.tr h231
      show e_Pn 20 elay ecode eI n d 342 (28, [(0, (1, 275))], [], w233) _
      refine e_Pn.run (t' := (30, [(0, (1, 275))], [(1, 275), (1, 275)], w233)) eAlk 2 rfl ?_
      refine e_Pn.getf (z := w233 275 83) eAlk rfl rfl rfl (fun b235 => ?_)
      refine e_Pn.run (t' := (34, [(0, (1, 275))], [(0, 1), (0, w233 275 83), (1, 275)], w233)) eAlk 1 rfl ?_
      refine e_Pn.bin0 eAlk rfl (fun z236 hz236 => ?_)
      refine e_Pn.putf eAlk rfl rfl ?_
      generalize hw237 : e_up w233 275 83 z236 = w237
      have q238 : mq w w237 := mq.upF q234 hw237 (by decide) (by decide +kernel)
      refine e_Pn.run (t' := (42, [(0, (1, 275))], [(0, 0), (0, 21), (1, 275)], w237)) eAlk 3 rfl ?_
      refine e_Pn.callA rfl (fun n9 d9 => u_336 (q238.rf hR)) (fun r240 w241 h239 => ?_)
      obtain ⟨⟨z242, rfl⟩, h239⟩ := h239
      have q243 := q238.tr h239
      show e_Pn 20 elay ecode eI n d 342 (45, [(0, (1, 275))], [(0, z242)], w241) _
      refine e_Pn.run (t' := (46, [(0, (1, 275))], [], w241)) eAlk 1 rfl ?_
      exact e_Pn.ret0 rfl ⟨rfl, q243⟩
set_option maxHeartbeats 4000000 in
theorem u_343 {n d : Nat} {w : eW} (hR : mRw w) (ihG : ∀ k, k < n → uE k) : e_Pn 20 elay ecode eI n d 343 (0, [(0, (1, 275))], [], w) (fun r w' => r = [] ∧ mq w w') := by
  refine e_Pn.run (t' := (1, [(0, (1, 275))], [(1, 275)], w)) eAlk 1 rfl ?_
  refine e_Pn.callB rfl (fun k9 hk9 d9 => ihG k9 (by omega) 344 (by decide) d9 _ (mq.r.rf hR)) (fun r2 w3 h1 => ?_)
  obtain ⟨rfl, h1⟩ := h1
  have q4 := mq.r.tr h1
  show e_Pn 20 elay ecode eI n d 343 (4, [(0, (1, 275))], [], w3) _
  have hL5 : ∀ nn7 : Nat, nn7 ≤ n → ∀ (tl8 : eL) (w9 : eW), mq w w9 → e_Pn 20 elay ecode eI nn7 d 343 (4, (0, (1, 275)) :: tl8, [], w9) (fun r w' => r = [] ∧ mq w w') := by
    intro nn7
    induction nn7 with
    | zero => intro _ tl8 w9 _; exact e_Pn.zero
    | succ nn7 ih6 =>
      intro hnnn7 tl8 w9 q10
      refine e_Pn.runS (t' := (5, (0, (1, 275)) :: tl8, [(1, 275)], w9)) eAlk 0 rfl ?_
      refine e_Pn.getf (z := w9 275 88) eAlk rfl rfl rfl (fun b11 => ?_)
      refine e_Pn.if1 eAlk rfl (fun h12 => ?_) (fun h12 => ?_)
      · show e_Pn 20 elay ecode eI nn7 d 343 (64, (0, (1, 275)) :: tl8, [], w9) _
        exact e_Pn.ret0 rfl ⟨rfl, q10⟩
      · show e_Pn 20 elay ecode eI nn7 d 343 (11, (0, (1, 275)) :: tl8, [], w9) _
        refine e_Pn.run (t' := (14, (0, (1, 275)) :: tl8, [(0, 43), (1, 275)], w9)) eAlk 2 rfl ?_
        refine e_Pn.callA rfl (fun n9 d9 => u_331 (q10.rf hR)) (fun r14 w15 h13 => ?_)
        obtain ⟨⟨z16, rfl⟩, h13⟩ := h13
        have q17 := q10.tr h13
        show e_Pn 20 elay ecode eI nn7 d 343 (17, (0, (1, 275)) :: tl8, [(0, z16)], w15) _
        refine e_Pn.if1 eAlk rfl (fun h18 => ?_) (fun h18 => ?_)
        · show e_Pn 20 elay ecode eI nn7 d 343 (29, (0, (1, 275)) :: tl8, [], w15) _
          refine e_Pn.run (t' := (30, (0, (1, 275)) :: tl8, [(1, 275)], w15)) eAlk 1 rfl ?_
          refine e_Pn.getf (z := w15 275 85) eAlk rfl rfl rfl (fun b19 => ?_)
          refine e_Pn.run (t' := (35, (0, (1, 275)) :: tl8, [(0, 43), (0, w15 275 85)], w15)) eAlk 1 rfl ?_
          refine e_Pn.if2 eAlk rfl (fun h20 => ?_) (fun h20 => ?_)
          · show e_Pn 20 elay ecode eI nn7 d 343 (43, (0, (1, 275)) :: tl8, [], w15) _
            refine e_Pn.run (t' := (47, (1, (0, 11)) :: (0, (1, 275)) :: List.filter (e_flt 0 1) tl8, [(1, 275)], w15)) eAlk 3 rfl ?_
            refine e_Pn.callA rfl (fun n9 d9 => u_327 (q17.rf hR)) (fun r22 w23 h21 => ?_)
            obtain ⟨rfl, h21⟩ := h21
            have q24 := q17.tr h21
            show e_Pn 20 elay ecode eI nn7 d 343 (50, (1, (0, 11)) :: (0, (1, 275)) :: List.filter (e_flt 0 1) tl8, [], w23) _
            refine e_Pn.run (t' := (51, (1, (0, 11)) :: (0, (1, 275)) :: List.filter (e_flt 0 1) tl8, [(1, 275)], w23)) eAlk 1 rfl ?_
            refine e_Pn.callB rfl (fun k9 hk9 d9 => ihG k9 (by omega) 344 (by decide) d9 _ (q24.rf hR)) (fun r26 w27 h25 => ?_)
            obtain ⟨rfl, h25⟩ := h25
            have q28 := q24.tr h25
            show e_Pn 20 elay ecode eI nn7 d 343 (54, (1, (0, 11)) :: (0, (1, 275)) :: List.filter (e_flt 0 1) tl8, [], w27) _
            refine e_Pn.run (t' := (57, (1, (0, 11)) :: (0, (1, 275)) :: List.filter (e_flt 0 1) tl8, [(0, 0), (0, 11), (1, 275)], w27)) eAlk 3 rfl ?_
            refine e_Pn.callA rfl (fun n9 d9 => u_336 (q28.rf hR)) (fun r30 w31 h29 => ?_)
            obtain ⟨⟨z32, rfl⟩, h29⟩ := h29
            have q33 := q28.tr h29
            show e_Pn 20 elay ecode eI nn7 d 343 (60, (1, (0, 11)) :: (0, (1, 275)) :: List.filter (e_flt 0 1) tl8, [(0, z32)], w31) _
            refine e_Pn.run (t' := (4, (1, (0, 11)) :: (0, (1, 275)) :: List.filter (e_flt 0 1) tl8, [], w31)) eAlk 2 rfl ?_
            exact e_Pn.ord eAlk [0] rfl rfl ((ih6 (by omega) _ w31 q33).le (by omega))
          · show e_Pn 20 elay ecode eI nn7 d 343 (38, (0, (1, 275)) :: tl8, [], w15) _
            refine e_Pn.run (t' := (47, (1, (0, 10)) :: (0, (1, 275)) :: List.filter (e_flt 0 1) tl8, [(1, 275)], w15)) eAlk 4 rfl ?_
            refine e_Pn.callA rfl (fun n9 d9 => u_327 (q17.rf hR)) (fun r35 w36 h34 => ?_)
            obtain ⟨rfl, h34⟩ := h34
            have q37 := q17.tr h34
            show e_Pn 20 elay ecode eI nn7 d 343 (50, (1, (0, 10)) :: (0, (1, 275)) :: List.filter (e_flt 0 1) tl8, [], w36) _
            refine e_Pn.run (t' := (51, (1, (0, 10)) :: (0, (1, 275)) :: List.filter (e_flt 0 1) tl8, [(1, 275)], w36)) eAlk 1 rfl ?_
            refine e_Pn.callB rfl (fun k9 hk9 d9 => ihG k9 (by omega) 344 (by decide) d9 _ (q37.rf hR)) (fun r39 w40 h38 => ?_)
            obtain ⟨rfl, h38⟩ := h38
            have q41 := q37.tr h38
            show e_Pn 20 elay ecode eI nn7 d 343 (54, (1, (0, 10)) :: (0, (1, 275)) :: List.filter (e_flt 0 1) tl8, [], w40) _
            refine e_Pn.run (t' := (57, (1, (0, 10)) :: (0, (1, 275)) :: List.filter (e_flt 0 1) tl8, [(0, 0), (0, 10), (1, 275)], w40)) eAlk 3 rfl ?_
            refine e_Pn.callA rfl (fun n9 d9 => u_336 (q41.rf hR)) (fun r43 w44 h42 => ?_)
            obtain ⟨⟨z45, rfl⟩, h42⟩ := h42
            have q46 := q41.tr h42
            show e_Pn 20 elay ecode eI nn7 d 343 (60, (1, (0, 10)) :: (0, (1, 275)) :: List.filter (e_flt 0 1) tl8, [(0, z45)], w44) _
            refine e_Pn.run (t' := (4, (1, (0, 10)) :: (0, (1, 275)) :: List.filter (e_flt 0 1) tl8, [], w44)) eAlk 2 rfl ?_
            exact e_Pn.ord eAlk [0] rfl rfl ((ih6 (by omega) _ w44 q46).le (by omega))
        · show e_Pn 20 elay ecode eI nn7 d 343 (20, (0, (1, 275)) :: tl8, [], w15) _
          refine e_Pn.run (t' := (23, (0, (1, 275)) :: tl8, [(0, 45), (1, 275)], w15)) eAlk 2 rfl ?_
          refine e_Pn.callA rfl (fun n9 d9 => u_331 (q17.rf hR)) (fun r48 w49 h47 => ?_)
          obtain ⟨⟨z50, rfl⟩, h47⟩ := h47
          have q51 := q17.tr h47
          show e_Pn 20 elay ecode eI nn7 d 343 (26, (0, (1, 275)) :: tl8, [(0, z50)], w49) _
          refine e_Pn.if1 eAlk rfl (fun h52 => ?_) (fun h52 => ?_)
          · show e_Pn 20 elay ecode eI nn7 d 343 (64, (0, (1, 275)) :: tl8, [], w49) _
            exact e_Pn.ret0 rfl ⟨rfl, q51⟩
          · show e_Pn 20 elay ecode eI nn7 d 343 (29, (0, (1, 275)) :: tl8, [], w49) _
            refine e_Pn.run (t' := (30, (0, (1, 275)) :: tl8, [(1, 275)], w49)) eAlk 1 rfl ?_
            refine e_Pn.getf (z := w49 275 85) eAlk rfl rfl rfl (fun b53 => ?_)
            refine e_Pn.run (t' := (35, (0, (1, 275)) :: tl8, [(0, 43), (0, w49 275 85)], w49)) eAlk 1 rfl ?_
            refine e_Pn.if2 eAlk rfl (fun h54 => ?_) (fun h54 => ?_)
            · show e_Pn 20 elay ecode eI nn7 d 343 (43, (0, (1, 275)) :: tl8, [], w49) _
              refine e_Pn.run (t' := (47, (1, (0, 11)) :: (0, (1, 275)) :: List.filter (e_flt 0 1) tl8, [(1, 275)], w49)) eAlk 3 rfl ?_
              refine e_Pn.callA rfl (fun n9 d9 => u_327 (q51.rf hR)) (fun r56 w57 h55 => ?_)
              obtain ⟨rfl, h55⟩ := h55
              have q58 := q51.tr h55
              show e_Pn 20 elay ecode eI nn7 d 343 (50, (1, (0, 11)) :: (0, (1, 275)) :: List.filter (e_flt 0 1) tl8, [], w57) _
              refine e_Pn.run (t' := (51, (1, (0, 11)) :: (0, (1, 275)) :: List.filter (e_flt 0 1) tl8, [(1, 275)], w57)) eAlk 1 rfl ?_
              refine e_Pn.callB rfl (fun k9 hk9 d9 => ihG k9 (by omega) 344 (by decide) d9 _ (q58.rf hR)) (fun r60 w61 h59 => ?_)
              obtain ⟨rfl, h59⟩ := h59
              have q62 := q58.tr h59
              show e_Pn 20 elay ecode eI nn7 d 343 (54, (1, (0, 11)) :: (0, (1, 275)) :: List.filter (e_flt 0 1) tl8, [], w61) _
              refine e_Pn.run (t' := (57, (1, (0, 11)) :: (0, (1, 275)) :: List.filter (e_flt 0 1) tl8, [(0, 0), (0, 11), (1, 275)], w61)) eAlk 3 rfl ?_
              refine e_Pn.callA rfl (fun n9 d9 => u_336 (q62.rf hR)) (fun r64 w65 h63 => ?_)
              obtain ⟨⟨z66, rfl⟩, h63⟩ := h63
              have q67 := q62.tr h63
              show e_Pn 20 elay ecode eI nn7 d 343 (60, (1, (0, 11)) :: (0, (1, 275)) :: List.filter (e_flt 0 1) tl8, [(0, z66)], w65) _
              refine e_Pn.run (t' := (4, (1, (0, 11)) :: (0, (1, 275)) :: List.filter (e_flt 0 1) tl8, [], w65)) eAlk 2 rfl ?_
              exact e_Pn.ord eAlk [0] rfl rfl ((ih6 (by omega) _ w65 q67).le (by omega))
            · show e_Pn 20 elay ecode eI nn7 d 343 (38, (0, (1, 275)) :: tl8, [], w49) _
              refine e_Pn.run (t' := (47, (1, (0, 10)) :: (0, (1, 275)) :: List.filter (e_flt 0 1) tl8, [(1, 275)], w49)) eAlk 4 rfl ?_
              refine e_Pn.callA rfl (fun n9 d9 => u_327 (q51.rf hR)) (fun r69 w70 h68 => ?_)
              obtain ⟨rfl, h68⟩ := h68
              have q71 := q51.tr h68
              show e_Pn 20 elay ecode eI nn7 d 343 (50, (1, (0, 10)) :: (0, (1, 275)) :: List.filter (e_flt 0 1) tl8, [], w70) _
              refine e_Pn.run (t' := (51, (1, (0, 10)) :: (0, (1, 275)) :: List.filter (e_flt 0 1) tl8, [(1, 275)], w70)) eAlk 1 rfl ?_
              refine e_Pn.callB rfl (fun k9 hk9 d9 => ihG k9 (by omega) 344 (by decide) d9 _ (q71.rf hR)) (fun r73 w74 h72 => ?_)
              obtain ⟨rfl, h72⟩ := h72
              have q75 := q71.tr h72
              show e_Pn 20 elay ecode eI nn7 d 343 (54, (1, (0, 10)) :: (0, (1, 275)) :: List.filter (e_flt 0 1) tl8, [], w74) _
              refine e_Pn.run (t' := (57, (1, (0, 10)) :: (0, (1, 275)) :: List.filter (e_flt 0 1) tl8, [(0, 0), (0, 10), (1, 275)], w74)) eAlk 3 rfl ?_
              refine e_Pn.callA rfl (fun n9 d9 => u_336 (q75.rf hR)) (fun r77 w78 h76 => ?_)
              obtain ⟨⟨z79, rfl⟩, h76⟩ := h76
              have q80 := q75.tr h76
              show e_Pn 20 elay ecode eI nn7 d 343 (60, (1, (0, 10)) :: (0, (1, 275)) :: List.filter (e_flt 0 1) tl8, [(0, z79)], w78) _
              refine e_Pn.run (t' := (4, (1, (0, 10)) :: (0, (1, 275)) :: List.filter (e_flt 0 1) tl8, [], w78)) eAlk 2 rfl ?_
              exact e_Pn.ord eAlk [0] rfl rfl ((ih6 (by omega) _ w78 q80).le (by omega))
  exact e_Pn.ord eAlk [0] rfl rfl (hL5 n (Nat.le_refl _) _ w3 q4)
set_option maxHeartbeats 4000000 in
theorem u_344 {n d : Nat} {w : eW} (hR : mRw w) (ihG : ∀ k, k < n → uE k) : e_Pn 20 elay ecode eI n d 344 (0, [(0, (1, 275))], [], w) (fun r w' => r = [] ∧ mq w w') := by
  refine e_Pn.run (t' := (1, [(0, (1, 275))], [(1, 275)], w)) eAlk 1 rfl ?_
  refine e_Pn.callB rfl (fun k9 hk9 d9 => ihG k9 (by omega) 346 (by decide) d9 _ (mq.r.rf hR)) (fun r2 w3 h1 => ?_)
  obtain ⟨rfl, h1⟩ := h1
  have q4 := mq.r.tr h1
  show e_Pn 20 elay ecode eI n d 344 (4, [(0, (1, 275))], [], w3) _
  have hL5 : ∀ nn7 : Nat, nn7 ≤ n → ∀ (tl8 : eL) (w9 : eW), mq w w9 → e_Pn 20 elay ecode eI nn7 d 344 (4, (0, (1, 275)) :: tl8, [], w9) (fun r w' => r = [] ∧ mq w w') := by
    intro nn7
    induction nn7 with
    | zero => intro _ tl8 w9 _; exact e_Pn.zero
    | succ nn7 ih6 =>
      intro hnnn7 tl8 w9 q10
      refine e_Pn.runS (t' := (5, (0, (1, 275)) :: tl8, [(1, 275)], w9)) eAlk 0 rfl ?_
      refine e_Pn.getf (z := w9 275 88) eAlk rfl rfl rfl (fun b11 => ?_)
      refine e_Pn.if1 eAlk rfl (fun h12 => ?_) (fun h12 => ?_)
      · show e_Pn 20 elay ecode eI nn7 d 344 (87, (0, (1, 275)) :: tl8, [], w9) _
        exact e_Pn.ret0 rfl ⟨rfl, q10⟩
      · show e_Pn 20 elay ecode eI nn7 d 344 (11, (0, (1, 275)) :: tl8, [], w9) _
        refine e_Pn.run (t' := (14, (0, (1, 275)) :: tl8, [(0, 42), (1, 275)], w9)) eAlk 2 rfl ?_
        refine e_Pn.callA rfl (fun n9 d9 => u_331 (q10.rf hR)) (fun r14 w15 h13 => ?_)
        obtain ⟨⟨z16, rfl⟩, h13⟩ := h13
        have q17 := q10.tr h13
        show e_Pn 20 elay ecode eI nn7 d 344 (17, (0, (1, 275)) :: tl8, [(0, z16)], w15) _
        refine e_Pn.if1 eAlk rfl (fun h18 => ?_) (fun h18 => ?_)
        · show e_Pn 20 elay ecode eI nn7 d 344 (38, (0, (1, 275)) :: tl8, [], w15) _
          refine e_Pn.run (t' := (39, (0, (1, 275)) :: tl8, [(1, 275)], w15)) eAlk 1 rfl ?_
          refine e_Pn.getf (z := w15 275 85) eAlk rfl rfl rfl (fun b19 => ?_)
          refine e_Pn.run (t' := (44, (0, (1, 275)) :: tl8, [(0, 42), (0, w15 275 85)], w15)) eAlk 1 rfl ?_
          refine e_Pn.if2 eAlk rfl (fun h20 => ?_) (fun h20 => ?_)
          · show e_Pn 20 elay ecode eI nn7 d 344 (52, (0, (1, 275)) :: tl8, [], w15) _
            refine e_Pn.run (t' := (53, (0, (1, 275)) :: tl8, [(1, 275)], w15)) eAlk 1 rfl ?_
            refine e_Pn.getf (z := w15 275 85) eAlk rfl rfl rfl (fun b21 => ?_)
            refine e_Pn.run (t' := (58, (0, (1, 275)) :: tl8, [(0, 47), (0, w15 275 85)], w15)) eAlk 1 rfl ?_
            refine e_Pn.if2 eAlk rfl (fun h22 => ?_) (fun h22 => ?_)
            · show e_Pn 20 elay ecode eI nn7 d 344 (66, (0, (1, 275)) :: tl8, [], w15) _
              refine e_Pn.run (t' := (70, (1, (0, 14)) :: (0, (1, 275)) :: List.filter (e_flt 0 1) tl8, [(1, 275)], w15)) eAlk 3 rfl ?_
              refine e_Pn.callA rfl (fun n9 d9 => u_327 (q17.rf hR)) (fun r24 w25 h23 => ?_)
              obtain ⟨rfl, h23⟩ := h23
              have q26 := q17.tr h23
              show e_Pn 20 elay ecode eI nn7 d 344 (73, (1, (0, 14)) :: (0, (1, 275)) :: List.filter (e_flt 0 1) tl8, [], w25) _
              refine e_Pn.run (t' := (74, (1, (0, 14)) :: (0, (1, 275)) :: List.filter (e_flt 0 1) tl8, [(1, 275)], w25)) eAlk 1 rfl ?_
              refine e_Pn.callB rfl (fun k9 hk9 d9 => ihG k9 (by omega) 346 (by decide) d9 _ (q26.rf hR)) (fun r28 w29 h27 => ?_)
              obtain ⟨rfl, h27⟩ := h27
              have q30 := q26.tr h27
              show e_Pn 20 elay ecode eI nn7 d 344 (77, (1, (0, 14)) :: (0, (1, 275)) :: List.filter (e_flt 0 1) tl8, [], w29) _
              refine e_Pn.run (t' := (80, (1, (0, 14)) :: (0, (1, 275)) :: List.filter (e_flt 0 1) tl8, [(0, 0), (0, 14), (1, 275)], w29)) eAlk 3 rfl ?_
              refine e_Pn.callA rfl (fun n9 d9 => u_336 (q30.rf hR)) (fun r32 w33 h31 => ?_)
              obtain ⟨⟨z34, rfl⟩, h31⟩ := h31
              have q35 := q30.tr h31
              show e_Pn 20 elay ecode eI nn7 d 344 (83, (1, (0, 14)) :: (0, (1, 275)) :: List.filter (e_flt 0 1) tl8, [(0, z34)], w33) _
              refine e_Pn.run (t' := (4, (1, (0, 14)) :: (0, (1, 275)) :: List.filter (e_flt 0 1) tl8, [], w33)) eAlk 2 rfl ?_
              exact e_Pn.ord eAlk [0] rfl rfl ((ih6 (by omega) _ w33 q35).le (by omega))
            · show e_Pn 20 elay ecode eI nn7 d 344 (61, (0, (1, 275)) :: tl8, [], w15) _
              refine e_Pn.run (t' := (70, (1, (0, 13)) :: (0, (1, 275)) :: List.filter (e_flt 0 1) tl8, [(1, 275)], w15)) eAlk 4 rfl ?_
              refine e_Pn.callA rfl (fun n9 d9 => u_327 (q17.rf hR)) (fun r37 w38 h36 => ?_)
              obtain ⟨rfl, h36⟩ := h36
              have q39 := q17.tr h36
              show e_Pn 20 elay ecode eI nn7 d 344 (73, (1, (0, 13)) :: (0, (1, 275)) :: List.filter (e_flt 0 1) tl8, [], w38) _
              refine e_Pn.run (t' := (74, (1, (0, 13)) :: (0, (1, 275)) :: List.filter (e_flt 0 1) tl8, [(1, 275)], w38)) eAlk 1 rfl ?_
              refine e_Pn.callB rfl (fun k9 hk9 d9 => ihG k9 (by omega) 346 (by decide) d9 _ (q39.rf hR)) (fun r41 w42 h40 => ?_)
              obtain ⟨rfl, h40⟩ := h40
              have q43 := q39.tr h40
              show e_Pn 20 elay ecode eI nn7 d 344 (77, (1, (0, 13)) :: (0, (1, 275)) :: List.filter (e_flt 0 1) tl8, [], w42) _
              refine e_Pn.run (t' := (80, (1, (0, 13)) :: (0, (1, 275)) :: List.filter (e_flt 0 1) tl8, [(0, 0), (0, 13), (1, 275)], w42)) eAlk 3 rfl ?_
              refine e_Pn.callA rfl (fun n9 d9 => u_336 (q43.rf hR)) (fun r45 w46 h44 => ?_)
              obtain ⟨⟨z47, rfl⟩, h44⟩ := h44
              have q48 := q43.tr h44
              show e_Pn 20 elay ecode eI nn7 d 344 (83, (1, (0, 13)) :: (0, (1, 275)) :: List.filter (e_flt 0 1) tl8, [(0, z47)], w46) _
              refine e_Pn.run (t' := (4, (1, (0, 13)) :: (0, (1, 275)) :: List.filter (e_flt 0 1) tl8, [], w46)) eAlk 2 rfl ?_
              exact e_Pn.ord eAlk [0] rfl rfl ((ih6 (by omega) _ w46 q48).le (by omega))
          · show e_Pn 20 elay ecode eI nn7 d 344 (47, (0, (1, 275)) :: tl8, [], w15) _
            refine e_Pn.run (t' := (70, (1, (0, 12)) :: (0, (1, 275)) :: List.filter (e_flt 0 1) tl8, [(1, 275)], w15)) eAlk 4 rfl ?_
            refine e_Pn.callA rfl (fun n9 d9 => u_327 (q17.rf hR)) (fun r50 w51 h49 => ?_)
            obtain ⟨rfl, h49⟩ := h49
            have q52 := q17.tr h49
            show e_Pn 20 elay ecode eI nn7 d 344 (73, (1, (0, 12)) :: (0, (1, 275)) :: List.filter (e_flt 0 1) tl8, [], w51) _
            refine e_Pn.run (t' := (74, (1, (0, 12)) :: (0, (1, 275)) :: List.filter (e_flt 0 1) tl8, [(1, 275)], w51)) eAlk 1 rfl ?_
            refine e_Pn.callB rfl (fun k9 hk9 d9 => ihG k9 (by omega) 346 (by decide) d9 _ (q52.rf hR)) (fun r54 w55 h53 => ?_)
            obtain ⟨rfl, h53⟩ := h53
            have q56 := q52.tr h53
            show e_Pn 20 elay ecode eI nn7 d 344 (77, (1, (0, 12)) :: (0, (1, 275)) :: List.filter (e_flt 0 1) tl8, [], w55) _
            refine e_Pn.run (t' := (80, (1, (0, 12)) :: (0, (1, 275)) :: List.filter (e_flt 0 1) tl8, [(0, 0), (0, 12), (1, 275)], w55)) eAlk 3 rfl ?_
            refine e_Pn.callA rfl (fun n9 d9 => u_336 (q56.rf hR)) (fun r58 w59 h57 => ?_)
            obtain ⟨⟨z60, rfl⟩, h57⟩ := h57
            have q61 := q56.tr h57
            show e_Pn 20 elay ecode eI nn7 d 344 (83, (1, (0, 12)) :: (0, (1, 275)) :: List.filter (e_flt 0 1) tl8, [(0, z60)], w59) _
            refine e_Pn.run (t' := (4, (1, (0, 12)) :: (0, (1, 275)) :: List.filter (e_flt 0 1) tl8, [], w59)) eAlk 2 rfl ?_
            exact e_Pn.ord eAlk [0] rfl rfl ((ih6 (by omega) _ w59 q61).le (by omega))
        · show e_Pn 20 elay ecode eI nn7 d 344 (20, (0, (1, 275)) :: tl8, [], w15) _
          refine e_Pn.run (t' := (23, (0, (1, 275)) :: tl8, [(0, 47), (1, 275)], w15)) eAlk 2 rfl ?_
          refine e_Pn.callA rfl (fun n9 d9 => u_331 (q17.rf hR)) (fun r63 w64 h62 => ?_)
          obtain ⟨⟨z65, rfl⟩, h62⟩ := h62
          have q66 := q17.tr h62
          show e_Pn 20 elay ecode eI nn7 d 344 (26, (0, (1, 275)) :: tl8, [(0, z65)], w64) _
          refine e_Pn.if1 eAlk rfl (fun h67 => ?_) (fun h67 => ?_)
          · show e_Pn 20 elay ecode eI nn7 d 344 (38, (0, (1, 275)) :: tl8, [], w64) _
            refine e_Pn.run (t' := (39, (0, (1, 275)) :: tl8, [(1, 275)], w64)) eAlk 1 rfl ?_
            refine e_Pn.getf (z := w64 275 85) eAlk rfl rfl rfl (fun b68 => ?_)
            refine e_Pn.run (t' := (44, (0, (1, 275)) :: tl8, [(0, 42), (0, w64 275 85)], w64)) eAlk 1 rfl ?_
            refine e_Pn.if2 eAlk rfl (fun h69 => ?_) (fun h69 => ?_)
            · show e_Pn 20 elay ecode eI nn7 d 344 (52, (0, (1, 275)) :: tl8, [], w64) _
              refine e_Pn.run (t' := (53, (0, (1, 275)) :: tl8, [(1, 275)], w64)) eAlk 1 rfl ?_
              refine e_Pn.getf (z := w64 275 85) eAlk rfl rfl rfl (fun b70 => ?_)
              refine e_Pn.run (t' := (58, (0, (1, 275)) :: tl8, [(0, 47), (0, w64 275 85)], w64)) eAlk 1 rfl ?_
              refine e_Pn.if2 eAlk rfl (fun h71 => ?_) (fun h71 => ?_)
              · show e_Pn 20 elay ecode eI nn7 d 344 (66, (0, (1, 275)) :: tl8, [], w64) _
                refine e_Pn.run (t' := (70, (1, (0, 14)) :: (0, (1, 275)) :: List.filter (e_flt 0 1) tl8, [(1, 275)], w64)) eAlk 3 rfl ?_
                refine e_Pn.callA rfl (fun n9 d9 => u_327 (q66.rf hR)) (fun r73 w74 h72 => ?_)
                obtain ⟨rfl, h72⟩ := h72
                have q75 := q66.tr h72
                show e_Pn 20 elay ecode eI nn7 d 344 (73, (1, (0, 14)) :: (0, (1, 275)) :: List.filter (e_flt 0 1) tl8, [], w74) _
                refine e_Pn.run (t' := (74, (1, (0, 14)) :: (0, (1, 275)) :: List.filter (e_flt 0 1) tl8, [(1, 275)], w74)) eAlk 1 rfl ?_
                refine e_Pn.callB rfl (fun k9 hk9 d9 => ihG k9 (by omega) 346 (by decide) d9 _ (q75.rf hR)) (fun r77 w78 h76 => ?_)
                obtain ⟨rfl, h76⟩ := h76
                have q79 := q75.tr h76
                show e_Pn 20 elay ecode eI nn7 d 344 (77, (1, (0, 14)) :: (0, (1, 275)) :: List.filter (e_flt 0 1) tl8, [], w78) _
                refine e_Pn.run (t' := (80, (1, (0, 14)) :: (0, (1, 275)) :: List.filter (e_flt 0 1) tl8, [(0, 0), (0, 14), (1, 275)], w78)) eAlk 3 rfl ?_
                refine e_Pn.callA rfl (fun n9 d9 => u_336 (q79.rf hR)) (fun r81 w82 h80 => ?_)
                obtain ⟨⟨z83, rfl⟩, h80⟩ := h80
                have q84 := q79.tr h80
                show e_Pn 20 elay ecode eI nn7 d 344 (83, (1, (0, 14)) :: (0, (1, 275)) :: List.filter (e_flt 0 1) tl8, [(0, z83)], w82) _
                refine e_Pn.run (t' := (4, (1, (0, 14)) :: (0, (1, 275)) :: List.filter (e_flt 0 1) tl8, [], w82)) eAlk 2 rfl ?_
                exact e_Pn.ord eAlk [0] rfl rfl ((ih6 (by omega) _ w82 q84).le (by omega))
              · show e_Pn 20 elay ecode eI nn7 d 344 (61, (0, (1, 275)) :: tl8, [], w64) _
                refine e_Pn.run (t' := (70, (1, (0, 13)) :: (0, (1, 275)) :: List.filter (e_flt 0 1) tl8, [(1, 275)], w64)) eAlk 4 rfl ?_
                refine e_Pn.callA rfl (fun n9 d9 => u_327 (q66.rf hR)) (fun r86 w87 h85 => ?_)
                obtain ⟨rfl, h85⟩ := h85
                have q88 := q66.tr h85
                show e_Pn 20 elay ecode eI nn7 d 344 (73, (1, (0, 13)) :: (0, (1, 275)) :: List.filter (e_flt 0 1) tl8, [], w87) _
                refine e_Pn.run (t' := (74, (1, (0, 13)) :: (0, (1, 275)) :: List.filter (e_flt 0 1) tl8, [(1, 275)], w87)) eAlk 1 rfl ?_
                refine e_Pn.callB rfl (fun k9 hk9 d9 => ihG k9 (by omega) 346 (by decide) d9 _ (q88.rf hR)) (fun r90 w91 h89 => ?_)
                obtain ⟨rfl, h89⟩ := h89
                have q92 := q88.tr h89
                show e_Pn 20 elay ecode eI nn7 d 344 (77, (1, (0, 13)) :: (0, (1, 275)) :: List.filter (e_flt 0 1) tl8, [], w91) _
                refine e_Pn.run (t' := (80, (1, (0, 13)) :: (0, (1, 275)) :: List.filter (e_flt 0 1) tl8, [(0, 0), (0, 13), (1, 275)], w91)) eAlk 3 rfl ?_
                refine e_Pn.callA rfl (fun n9 d9 => u_336 (q92.rf hR)) (fun r94 w95 h93 => ?_)
                obtain ⟨⟨z96, rfl⟩, h93⟩ := h93
                have q97 := q92.tr h93
                show e_Pn 20 elay ecode eI nn7 d 344 (83, (1, (0, 13)) :: (0, (1, 275)) :: List.filter (e_flt 0 1) tl8, [(0, z96)], w95) _
                refine e_Pn.run (t' := (4, (1, (0, 13)) :: (0, (1, 275)) :: List.filter (e_flt 0 1) tl8, [], w95)) eAlk 2 rfl ?_
                exact e_Pn.ord eAlk [0] rfl rfl ((ih6 (by omega) _ w95 q97).le (by omega))
            · show e_Pn 20 elay ecode eI nn7 d 344 (47, (0, (1, 275)) :: tl8, [], w64) _
              refine e_Pn.run (t' := (70, (1, (0, 12)) :: (0, (1, 275)) :: List.filter (e_flt 0 1) tl8, [(1, 275)], w64)) eAlk 4 rfl ?_
              refine e_Pn.callA rfl (fun n9 d9 => u_327 (q66.rf hR)) (fun r99 w100 h98 => ?_)
              obtain ⟨rfl, h98⟩ := h98
              have q101 := q66.tr h98
              show e_Pn 20 elay ecode eI nn7 d 344 (73, (1, (0, 12)) :: (0, (1, 275)) :: List.filter (e_flt 0 1) tl8, [], w100) _
              refine e_Pn.run (t' := (74, (1, (0, 12)) :: (0, (1, 275)) :: List.filter (e_flt 0 1) tl8, [(1, 275)], w100)) eAlk 1 rfl ?_
              refine e_Pn.callB rfl (fun k9 hk9 d9 => ihG k9 (by omega) 346 (by decide) d9 _ (q101.rf hR)) (fun r103 w104 h102 => ?_)
              obtain ⟨rfl, h102⟩ := h102
              have q105 := q101.tr h102
              show e_Pn 20 elay ecode eI nn7 d 344 (77, (1, (0, 12)) :: (0, (1, 275)) :: List.filter (e_flt 0 1) tl8, [], w104) _
              refine e_Pn.run (t' := (80, (1, (0, 12)) :: (0, (1, 275)) :: List.filter (e_flt 0 1) tl8, [(0, 0), (0, 12), (1, 275)], w104)) eAlk 3 rfl ?_
              refine e_Pn.callA rfl (fun n9 d9 => u_336 (q105.rf hR)) (fun r107 w108 h106 => ?_)
              obtain ⟨⟨z109, rfl⟩, h106⟩ := h106
              have q110 := q105.tr h106
              show e_Pn 20 elay ecode eI nn7 d 344 (83, (1, (0, 12)) :: (0, (1, 275)) :: List.filter (e_flt 0 1) tl8, [(0, z109)], w108) _
              refine e_Pn.run (t' := (4, (1, (0, 12)) :: (0, (1, 275)) :: List.filter (e_flt 0 1) tl8, [], w108)) eAlk 2 rfl ?_
              exact e_Pn.ord eAlk [0] rfl rfl ((ih6 (by omega) _ w108 q110).le (by omega))
          · show e_Pn 20 elay ecode eI nn7 d 344 (29, (0, (1, 275)) :: tl8, [], w64) _
            refine e_Pn.run (t' := (32, (0, (1, 275)) :: tl8, [(0, 37), (1, 275)], w64)) eAlk 2 rfl ?_
            refine e_Pn.callA rfl (fun n9 d9 => u_331 (q66.rf hR)) (fun r112 w113 h111 => ?_)
            obtain ⟨⟨z114, rfl⟩, h111⟩ := h111
            have q115 := q66.tr h111
            show e_Pn 20 elay ecode eI nn7 d 344 (35, (0, (1, 275)) :: tl8, [(0, z114)], w113) _
            refine e_Pn.if1 eAlk rfl (fun h116 => ?_) (fun h116 => ?_)
            · show e_Pn 20 elay ecode eI nn7 d 344 (87, (0, (1, 275)) :: tl8, [], w113) _
              exact e_Pn.ret0 rfl ⟨rfl, q115⟩
            · show e_Pn 20 elay ecode eI nn7 d 344 (38, (0, (1, 275)) :: tl8, [], w113) _
              refine e_Pn.run (t' := (39, (0, (1, 275)) :: tl8, [(1, 275)], w113)) eAlk 1 rfl ?_
              refine e_Pn.getf (z := w113 275 85) eAlk rfl rfl rfl (fun b117 => ?_)
              refine e_Pn.run (t' := (44, (0, (1, 275)) :: tl8, [(0, 42), (0, w113 275 85)], w113)) eAlk 1 rfl ?_
              refine e_Pn.if2 eAlk rfl (fun h118 => ?_) (fun h118 => ?_)
              · show e_Pn 20 elay ecode eI nn7 d 344 (52, (0, (1, 275)) :: tl8, [], w113) _
                refine e_Pn.run (t' := (53, (0, (1, 275)) :: tl8, [(1, 275)], w113)) eAlk 1 rfl ?_
                refine e_Pn.getf (z := w113 275 85) eAlk rfl rfl rfl (fun b119 => ?_)
                refine e_Pn.run (t' := (58, (0, (1, 275)) :: tl8, [(0, 47), (0, w113 275 85)], w113)) eAlk 1 rfl ?_
                refine e_Pn.if2 eAlk rfl (fun h120 => ?_) (fun h120 => ?_)
                · show e_Pn 20 elay ecode eI nn7 d 344 (66, (0, (1, 275)) :: tl8, [], w113) _
                  refine e_Pn.run (t' := (70, (1, (0, 14)) :: (0, (1, 275)) :: List.filter (e_flt 0 1) tl8, [(1, 275)], w113)) eAlk 3 rfl ?_
                  refine e_Pn.callA rfl (fun n9 d9 => u_327 (q115.rf hR)) (fun r122 w123 h121 => ?_)
                  obtain ⟨rfl, h121⟩ := h121
                  have q124 := q115.tr h121
                  show e_Pn 20 elay ecode eI nn7 d 344 (73, (1, (0, 14)) :: (0, (1, 275)) :: List.filter (e_flt 0 1) tl8, [], w123) _
                  refine e_Pn.run (t' := (74, (1, (0, 14)) :: (0, (1, 275)) :: List.filter (e_flt 0 1) tl8, [(1, 275)], w123)) eAlk 1 rfl ?_
                  refine e_Pn.callB rfl (fun k9 hk9 d9 => ihG k9 (by omega) 346 (by decide) d9 _ (q124.rf hR)) (fun r126 w127 h125 => ?_)
                  obtain ⟨rfl, h125⟩ := h125
                  have q128 := q124.tr h125
                  show e_Pn 20 elay ecode eI nn7 d 344 (77, (1, (0, 14)) :: (0, (1, 275)) :: List.filter (e_flt 0 1) tl8, [], w127) _
                  refine e_Pn.run (t' := (80, (1, (0, 14)) :: (0, (1, 275)) :: List.filter (e_flt 0 1) tl8, [(0, 0), (0, 14), (1, 275)], w127)) eAlk 3 rfl ?_
                  refine e_Pn.callA rfl (fun n9 d9 => u_336 (q128.rf hR)) (fun r130 w131 h129 => ?_)
                  obtain ⟨⟨z132, rfl⟩, h129⟩ := h129
                  have q133 := q128.tr h129
                  show e_Pn 20 elay ecode eI nn7 d 344 (83, (1, (0, 14)) :: (0, (1, 275)) :: List.filter (e_flt 0 1) tl8, [(0, z132)], w131) _
                  refine e_Pn.run (t' := (4, (1, (0, 14)) :: (0, (1, 275)) :: List.filter (e_flt 0 1) tl8, [], w131)) eAlk 2 rfl ?_
                  exact e_Pn.ord eAlk [0] rfl rfl ((ih6 (by omega) _ w131 q133).le (by omega))
                · show e_Pn 20 elay ecode eI nn7 d 344 (61, (0, (1, 275)) :: tl8, [], w113) _
                  refine e_Pn.run (t' := (70, (1, (0, 13)) :: (0, (1, 275)) :: List.filter (e_flt 0 1) tl8, [(1, 275)], w113)) eAlk 4 rfl ?_
                  refine e_Pn.callA rfl (fun n9 d9 => u_327 (q115.rf hR)) (fun r135 w136 h134 => ?_)
                  obtain ⟨rfl, h134⟩ := h134
                  have q137 := q115.tr h134
                  show e_Pn 20 elay ecode eI nn7 d 344 (73, (1, (0, 13)) :: (0, (1, 275)) :: List.filter (e_flt 0 1) tl8, [], w136) _
                  refine e_Pn.run (t' := (74, (1, (0, 13)) :: (0, (1, 275)) :: List.filter (e_flt 0 1) tl8, [(1, 275)], w136)) eAlk 1 rfl ?_
                  refine e_Pn.callB rfl (fun k9 hk9 d9 => ihG k9 (by omega) 346 (by decide) d9 _ (q137.rf hR)) (fun r139 w140 h138 => ?_)
                  obtain ⟨rfl, h138⟩ := h138
                  have q141 := q137.tr h138
                  show e_Pn 20 elay ecode eI nn7 d 344 (77, (1, (0, 13)) :: (0, (1, 275)) :: List.filter (e_flt 0 1) tl8, [], w140) _
                  refine e_Pn.run (t' := (80, (1, (0, 13)) :: (0, (1, 275)) :: List.filter (e_flt 0 1) tl8, [(0, 0), (0, 13), (1, 275)], w140)) eAlk 3 rfl ?_
                  refine e_Pn.callA rfl (fun n9 d9 => u_336 (q141.rf hR)) (fun r143 w144 h142 => ?_)
                  obtain ⟨⟨z145, rfl⟩, h142⟩ := h142
                  have q146 := q141.tr h142
                  show e_Pn 20 elay ecode eI nn7 d 344 (83, (1, (0, 13)) :: (0, (1, 275)) :: List.filter (e_flt 0 1) tl8, [(0, z145)], w144) _
                  refine e_Pn.run (t' := (4, (1, (0, 13)) :: (0, (1, 275)) :: List.filter (e_flt 0 1) tl8, [], w144)) eAlk 2 rfl ?_
                  exact e_Pn.ord eAlk [0] rfl rfl ((ih6 (by omega) _ w144 q146).le (by omega))
              · show e_Pn 20 elay ecode eI nn7 d 344 (47, (0, (1, 275)) :: tl8, [], w113) _
                refine e_Pn.run (t' := (70, (1, (0, 12)) :: (0, (1, 275)) :: List.filter (e_flt 0 1) tl8, [(1, 275)], w113)) eAlk 4 rfl ?_
                refine e_Pn.callA rfl (fun n9 d9 => u_327 (q115.rf hR)) (fun r148 w149 h147 => ?_)
                obtain ⟨rfl, h147⟩ := h147
                have q150 := q115.tr h147
                show e_Pn 20 elay ecode eI nn7 d 344 (73, (1, (0, 12)) :: (0, (1, 275)) :: List.filter (e_flt 0 1) tl8, [], w149) _
                refine e_Pn.run (t' := (74, (1, (0, 12)) :: (0, (1, 275)) :: List.filter (e_flt 0 1) tl8, [(1, 275)], w149)) eAlk 1 rfl ?_
                refine e_Pn.callB rfl (fun k9 hk9 d9 => ihG k9 (by omega) 346 (by decide) d9 _ (q150.rf hR)) (fun r152 w153 h151 => ?_)
                obtain ⟨rfl, h151⟩ := h151
                have q154 := q150.tr h151
                show e_Pn 20 elay ecode eI nn7 d 344 (77, (1, (0, 12)) :: (0, (1, 275)) :: List.filter (e_flt 0 1) tl8, [], w153) _
                refine e_Pn.run (t' := (80, (1, (0, 12)) :: (0, (1, 275)) :: List.filter (e_flt 0 1) tl8, [(0, 0), (0, 12), (1, 275)], w153)) eAlk 3 rfl ?_
                refine e_Pn.callA rfl (fun n9 d9 => u_336 (q154.rf hR)) (fun r156 w157 h155 => ?_)
                obtain ⟨⟨z158, rfl⟩, h155⟩ := h155
                have q159 := q154.tr h155
                show e_Pn 20 elay ecode eI nn7 d 344 (83, (1, (0, 12)) :: (0, (1, 275)) :: List.filter (e_flt 0 1) tl8, [(0, z158)], w157) _
                refine e_Pn.run (t' := (4, (1, (0, 12)) :: (0, (1, 275)) :: List.filter (e_flt 0 1) tl8, [], w157)) eAlk 2 rfl ?_
                exact e_Pn.ord eAlk [0] rfl rfl ((ih6 (by omega) _ w157 q159).le (by omega))
  exact e_Pn.ord eAlk [0] rfl rfl (hL5 n (Nat.le_refl _) _ w3 q4)
set_option maxHeartbeats 4000000 in
theorem u_345 {n d : Nat} {w : eW} (hR : mRw w) (ihG : ∀ k, k < n → uE k) : e_Pn 20 elay ecode eI n d 345 (0, [(0, (1, 275))], [], w) (fun r w' => r = [] ∧ mq w w') := by
  refine e_Pn.run (t' := (1, [(0, (1, 275))], [(1, 275)], w)) eAlk 1 rfl ?_
  refine e_Pn.getf (z := w 275 88) eAlk rfl rfl rfl (fun b1 => ?_)
  refine e_Pn.if1 eAlk rfl (fun h2 => ?_) (fun h2 => ?_)
  · show e_Pn 20 elay ecode eI n d 345 (20, [(0, (1, 275))], [], w) _
    refine e_Pn.run (t' := (24, [(0, (1, 275))], [(0, 40), (1, 275), (1, 275)], w)) eAlk 3 rfl ?_
    refine e_Pn.callA rfl (fun n9 d9 => u_331 (mq.r.rf hR)) (fun r4 w5 h3 => ?_)
    obtain ⟨⟨z6, rfl⟩, h3⟩ := h3
    have q7 := mq.r.tr h3
    show e_Pn 20 elay ecode eI n d 345 (27, [(0, (1, 275))], [(0, z6), (1, 275)], w5) _
    refine e_Pn.callA rfl (fun n9 d9 => u_334 (q7.rf hR)) (fun r9 w10 h8 => ?_)
    obtain ⟨rfl, h8⟩ := h8
    have q11 := q7.tr h8
    show e_Pn 20 elay ecode eI n d 345 (30, [(0, (1, 275))], [], w10) _
    refine e_Pn.run (t' := (31, [(0, (1, 275))], [(1, 275)], w10)) eAlk 1 rfl ?_
    refine e_Pn.callB rfl (fun k9 hk9 d9 => ihG k9 (by omega) 339 (by decide) d9 _ (q11.rf hR)) (fun r13 w14 h12 => ?_)
    obtain ⟨rfl, h12⟩ := h12
    have q15 := q11.tr h12
    show e_Pn 20 elay ecode eI n d 345 (34, [(0, (1, 275))], [], w14) _
    refine e_Pn.run (t' := (38, [(0, (1, 275))], [(0, 41), (1, 275), (1, 275)], w14)) eAlk 3 rfl ?_
    refine e_Pn.callA rfl (fun n9 d9 => u_331 (q15.rf hR)) (fun r17 w18 h16 => ?_)
    obtain ⟨⟨z19, rfl⟩, h16⟩ := h16
    have q20 := q15.tr h16
    show e_Pn 20 elay ecode eI n d 345 (41, [(0, (1, 275))], [(0, z19), (1, 275)], w18) _
    refine e_Pn.callA rfl (fun n9 d9 => u_334 (q20.rf hR)) (fun r22 w23 h21 => ?_)
    obtain ⟨rfl, h21⟩ := h21
    have q24 := q20.tr h21
    show e_Pn 20 elay ecode eI n d 345 (44, [(0, (1, 275))], [], w23) _
    refine e_Pn.run (t' := (46, [(0, (1, 275))], [(1, 275), (1, 275)], w23)) eAlk 2 rfl ?_
    refine e_Pn.getf (z := w23 275 83) eAlk rfl rfl rfl (fun b25 => ?_)
    refine e_Pn.run (t' := (50, [(0, (1, 275))], [(0, 1), (0, w23 275 83), (1, 275)], w23)) eAlk 1 rfl ?_
    refine e_Pn.bin0 eAlk rfl (fun z26 hz26 => ?_)
    refine e_Pn.putf eAlk rfl rfl ?_
    generalize hw27 : e_up w23 275 83 z26 = w27
    have q28 : mq w w27 := mq.upF q24 hw27 (by decide) (by decide +kernel)
    exact e_Pn.ret0 rfl ⟨rfl, q28⟩
  · show e_Pn 20 elay ecode eI n d 345 (7, [(0, (1, 275))], [], w) _
    refine e_Pn.run (t' := (10, [(0, (1, 275))], [(0, 40), (1, 275)], w)) eAlk 2 rfl ?_
    refine e_Pn.callA rfl (fun n9 d9 => u_331 (mq.r.rf hR)) (fun r30 w31 h29 => ?_)
    obtain ⟨⟨z32, rfl⟩, h29⟩ := h29
    have q33 := mq.r.tr h29
    show e_Pn 20 elay ecode eI n d 345 (13, [(0, (1, 275))], [(0, z32)], w31) _
    refine e_Pn.if1 eAlk rfl (fun h34 => ?_) (fun h34 => ?_)
    · show e_Pn 20 elay ecode eI n d 345 (20, [(0, (1, 275))], [], w31) _
      refine e_Pn.run (t' := (24, [(0, (1, 275))], [(0, 40), (1, 275), (1, 275)], w31)) eAlk 3 rfl ?_
      refine e_Pn.callA rfl (fun n9 d9 => u_331 (q33.rf hR)) (fun r36 w37 h35 => ?_)
      obtain ⟨⟨z38, rfl⟩, h35⟩ := h35
      have q39 := q33.tr h35
      show e_Pn 20 elay ecode eI n d 345 (27, [(0, (1, 275))], [(0, z38), (1, 275)], w37) _
      refine e_Pn.callA rfl (fun n9 d9 => u_334 (q39.rf hR)) (fun r41 w42 h40 => ?_)
      obtain ⟨rfl, h40⟩ := h40
      have q43 := q39.tr h40
      show e_Pn 20 elay ecode eI n d 345 (30, [(0, (1, 275))], [], w42) _
      refine e_Pn.run (t' := (31, [(0, (1, 275))], [(1, 275)], w42)) eAlk 1 rfl ?_
      refine e_Pn.callB rfl (fun k9 hk9 d9 => ihG k9 (by omega) 339 (by decide) d9 _ (q43.rf hR)) (fun r45 w46 h44 => ?_)
      obtain ⟨rfl, h44⟩ := h44
      have q47 := q43.tr h44
      show e_Pn 20 elay ecode eI n d 345 (34, [(0, (1, 275))], [], w46) _
      refine e_Pn.run (t' := (38, [(0, (1, 275))], [(0, 41), (1, 275), (1, 275)], w46)) eAlk 3 rfl ?_
      refine e_Pn.callA rfl (fun n9 d9 => u_331 (q47.rf hR)) (fun r49 w50 h48 => ?_)
      obtain ⟨⟨z51, rfl⟩, h48⟩ := h48
      have q52 := q47.tr h48
      show e_Pn 20 elay ecode eI n d 345 (41, [(0, (1, 275))], [(0, z51), (1, 275)], w50) _
      refine e_Pn.callA rfl (fun n9 d9 => u_334 (q52.rf hR)) (fun r54 w55 h53 => ?_)
      obtain ⟨rfl, h53⟩ := h53
      have q56 := q52.tr h53
      show e_Pn 20 elay ecode eI n d 345 (44, [(0, (1, 275))], [], w55) _
      refine e_Pn.run (t' := (46, [(0, (1, 275))], [(1, 275), (1, 275)], w55)) eAlk 2 rfl ?_
      refine e_Pn.getf (z := w55 275 83) eAlk rfl rfl rfl (fun b57 => ?_)
      refine e_Pn.run (t' := (50, [(0, (1, 275))], [(0, 1), (0, w55 275 83), (1, 275)], w55)) eAlk 1 rfl ?_
      refine e_Pn.bin0 eAlk rfl (fun z58 hz58 => ?_)
      refine e_Pn.putf eAlk rfl rfl ?_
      generalize hw59 : e_up w55 275 83 z58 = w59
      have q60 : mq w w59 := mq.upF q56 hw59 (by decide) (by decide +kernel)
      exact e_Pn.ret0 rfl ⟨rfl, q60⟩
    · show e_Pn 20 elay ecode eI n d 345 (16, [(0, (1, 275))], [], w31) _
      refine e_Pn.run (t' := (17, [(0, (1, 275))], [(1, 275)], w31)) eAlk 1 rfl ?_
      refine e_Pn.callA rfl (fun n9 d9 => u_335 (q33.rf hR)) (fun r62 w63 h61 => ?_)
      obtain ⟨rfl, h61⟩ := h61
      have q64 := q33.tr h61
      show e_Pn 20 elay ecode eI n d 345 (20, [(0, (1, 275))], [], w63) _
      refine e_Pn.run (t' := (24, [(0, (1, 275))], [(0, 40), (1, 275), (1, 275)], w63)) eAlk 3 rfl ?_
      refine e_Pn.callA rfl (fun n9 d9 => u_331 (q64.rf hR)) (fun r66 w67 h65 => ?_)
      obtain ⟨⟨z68, rfl⟩, h65⟩ := h65
      have q69 := q64.tr h65
      show e_Pn 20 elay ecode eI n d 345 (27, [(0, (1, 275))], [(0, z68), (1, 275)], w67) _
      refine e_Pn.callA rfl (fun n9 d9 => u_334 (q69.rf hR)) (fun r71 w72 h70 => ?_)
      obtain ⟨rfl, h70⟩ := h70
      have q73 := q69.tr h70
      show e_Pn 20 elay ecode eI n d 345 (30, [(0, (1, 275))], [], w72) _
      refine e_Pn.run (t' := (31, [(0, (1, 275))], [(1, 275)], w72)) eAlk 1 rfl ?_
      refine e_Pn.callB rfl (fun k9 hk9 d9 => ihG k9 (by omega) 339 (by decide) d9 _ (q73.rf hR)) (fun r75 w76 h74 => ?_)
      obtain ⟨rfl, h74⟩ := h74
      have q77 := q73.tr h74
      show e_Pn 20 elay ecode eI n d 345 (34, [(0, (1, 275))], [], w76) _
      refine e_Pn.run (t' := (38, [(0, (1, 275))], [(0, 41), (1, 275), (1, 275)], w76)) eAlk 3 rfl ?_
      refine e_Pn.callA rfl (fun n9 d9 => u_331 (q77.rf hR)) (fun r79 w80 h78 => ?_)
      obtain ⟨⟨z81, rfl⟩, h78⟩ := h78
      have q82 := q77.tr h78
      show e_Pn 20 elay ecode eI n d 345 (41, [(0, (1, 275))], [(0, z81), (1, 275)], w80) _
      refine e_Pn.callA rfl (fun n9 d9 => u_334 (q82.rf hR)) (fun r84 w85 h83 => ?_)
      obtain ⟨rfl, h83⟩ := h83
      have q86 := q82.tr h83
      show e_Pn 20 elay ecode eI n d 345 (44, [(0, (1, 275))], [], w85) _
      refine e_Pn.run (t' := (46, [(0, (1, 275))], [(1, 275), (1, 275)], w85)) eAlk 2 rfl ?_
      refine e_Pn.getf (z := w85 275 83) eAlk rfl rfl rfl (fun b87 => ?_)
      refine e_Pn.run (t' := (50, [(0, (1, 275))], [(0, 1), (0, w85 275 83), (1, 275)], w85)) eAlk 1 rfl ?_
      refine e_Pn.bin0 eAlk rfl (fun z88 hz88 => ?_)
      refine e_Pn.putf eAlk rfl rfl ?_
      generalize hw89 : e_up w85 275 83 z88 = w89
      have q90 : mq w w89 := mq.upF q86 hw89 (by decide) (by decide +kernel)
      exact e_Pn.ret0 rfl ⟨rfl, q90⟩
set_option maxHeartbeats 4000000 in
theorem u_346 {n d : Nat} {w : eW} (hR : mRw w) (ihG : ∀ k, k < n → uE k) : e_Pn 20 elay ecode eI n d 346 (0, [(0, (1, 275))], [], w) (fun r w' => r = [] ∧ mq w w') := by
  refine e_Pn.run (t' := (1, [(0, (1, 275))], [(1, 275)], w)) eAlk 1 rfl ?_
  refine e_Pn.getf (z := w 275 88) eAlk rfl rfl rfl (fun b1 => ?_)
  refine e_Pn.if1 eAlk rfl (fun h2 => ?_) (fun h2 => ?_)
  · show e_Pn 20 elay ecode eI n d 346 (8, [(0, (1, 275))], [], w) _
    refine e_Pn.run (t' := (11, [(0, (1, 275))], [(0, 45), (1, 275)], w)) eAlk 2 rfl ?_
    refine e_Pn.callA rfl (fun n9 d9 => u_331 (mq.r.rf hR)) (fun r4 w5 h3 => ?_)
    obtain ⟨⟨z6, rfl⟩, h3⟩ := h3
    have q7 := mq.r.tr h3
    show e_Pn 20 elay ecode eI n d 346 (14, [(0, (1, 275))], [(0, z6)], w5) _
    refine e_Pn.if1 eAlk rfl (fun h8 => ?_) (fun h8 => ?_)
    · show e_Pn 20 elay ecode eI n d 346 (50, [(0, (1, 275))], [], w5) _
      refine e_Pn.run (t' := (51, [(0, (1, 275))], [(1, 275)], w5)) eAlk 1 rfl ?_
      refine e_Pn.getf (z := w5 275 84) eAlk rfl rfl rfl (fun b9 => ?_)
      refine e_Pn.run (t' := (55, [(0, (1, 275))], [(0, 2), (0, w5 275 84)], w5)) eAlk 1 rfl ?_
      refine e_Pn.if2 eAlk rfl (fun h10 => ?_) (fun h10 => ?_)
      · show e_Pn 20 elay ecode eI n d 346 (75, [(0, (1, 275))], [], w5) _
        refine e_Pn.run (t' := (76, [(0, (1, 275))], [(1, 275)], w5)) eAlk 1 rfl ?_
        refine e_Pn.getf (z := w5 275 84) eAlk rfl rfl rfl (fun b11 => ?_)
        refine e_Pn.run (t' := (80, [(0, (1, 275))], [(0, 1), (0, w5 275 84)], w5)) eAlk 1 rfl ?_
        refine e_Pn.if2 eAlk rfl (fun h12 => ?_) (fun h12 => ?_)
        · show e_Pn 20 elay ecode eI n d 346 (97, [(0, (1, 275))], [], w5) _
          refine e_Pn.run (t' := (100, [(0, (1, 275))], [(0, 27), (1, 275)], w5)) eAlk 2 rfl ?_
          refine e_Pn.callA rfl (fun n9 d9 => u_332 (q7.rf hR)) (fun r14 w15 h13 => ?_)
          obtain ⟨⟨z16, rfl⟩, h13⟩ := h13
          have q17 := q7.tr h13
          show e_Pn 20 elay ecode eI n d 346 (103, [(0, (1, 275))], [(0, z16)], w15) _
          refine e_Pn.if1 eAlk rfl (fun h18 => ?_) (fun h18 => ?_)
          · show e_Pn 20 elay ecode eI n d 346 (115, [(0, (1, 275))], [], w15) _
            refine e_Pn.run (t' := (116, [(0, (1, 275))], [(1, 275)], w15)) eAlk 1 rfl ?_
            refine e_Pn.getf (z := w15 275 85) eAlk rfl rfl rfl (fun b19 => ?_)
            refine e_Pn.run (t' := (121, [(0, (1, 275))], [(0, 27), (0, w15 275 85)], w15)) eAlk 1 rfl ?_
            refine e_Pn.if2 eAlk rfl (fun h20 => ?_) (fun h20 => ?_)
            · show e_Pn 20 elay ecode eI n d 346 (128, [(0, (1, 275))], [], w15) _
              refine e_Pn.run (t' := (131, [(1, (0, 4)), (0, (1, 275))], [(1, 275)], w15)) eAlk 3 rfl ?_
              refine e_Pn.callA rfl (fun n9 d9 => u_327 (q17.rf hR)) (fun r22 w23 h21 => ?_)
              obtain ⟨rfl, h21⟩ := h21
              have q24 := q17.tr h21
              show e_Pn 20 elay ecode eI n d 346 (134, [(1, (0, 4)), (0, (1, 275))], [], w23) _
              refine e_Pn.run (t' := (135, [(1, (0, 4)), (0, (1, 275))], [(1, 275)], w23)) eAlk 1 rfl ?_
              refine e_Pn.callB rfl (fun k9 hk9 d9 => ihG k9 (by omega) 345 (by decide) d9 _ (q24.rf hR)) (fun r26 w27 h25 => ?_)
              obtain ⟨rfl, h25⟩ := h25
              have q28 := q24.tr h25
              show e_Pn 20 elay ecode eI n d 346 (138, [(1, (0, 4)), (0, (1, 275))], [], w27) _
              refine e_Pn.run (t' := (141, [(1, (0, 4)), (0, (1, 275))], [(0, 0), (0, 4), (1, 275)], w27)) eAlk 3 rfl ?_
              refine e_Pn.callA rfl (fun n9 d9 => u_336 (q28.rf hR)) (fun r30 w31 h29 => ?_)
              obtain ⟨⟨z32, rfl⟩, h29⟩ := h29
              have q33 := q28.tr h29
              show e_Pn 20 elay ecode eI n d 346 (144, [(1, (0, 4)), (0, (1, 275))], [(0, z32)], w31) _
              refine e_Pn.run (t' := (242, [(1, (0, 4)), (0, (1, 275))], [], w31)) eAlk 2 rfl ?_
              exact e_Pn.ret0 rfl ⟨rfl, q33⟩
            · show e_Pn 20 elay ecode eI n d 346 (124, [(0, (1, 275))], [], w15) _
              refine e_Pn.run (t' := (131, [(1, (0, 3)), (0, (1, 275))], [(1, 275)], w15)) eAlk 4 rfl ?_
              refine e_Pn.callA rfl (fun n9 d9 => u_327 (q17.rf hR)) (fun r35 w36 h34 => ?_)
              obtain ⟨rfl, h34⟩ := h34
              have q37 := q17.tr h34
              show e_Pn 20 elay ecode eI n d 346 (134, [(1, (0, 3)), (0, (1, 275))], [], w36) _
              refine e_Pn.run (t' := (135, [(1, (0, 3)), (0, (1, 275))], [(1, 275)], w36)) eAlk 1 rfl ?_
              refine e_Pn.callB rfl (fun k9 hk9 d9 => ihG k9 (by omega) 345 (by decide) d9 _ (q37.rf hR)) (fun r39 w40 h38 => ?_)
              obtain ⟨rfl, h38⟩ := h38
              have q41 := q37.tr h38
              show e_Pn 20 elay ecode eI n d 346 (138, [(1, (0, 3)), (0, (1, 275))], [], w40) _
              refine e_Pn.run (t' := (141, [(1, (0, 3)), (0, (1, 275))], [(0, 0), (0, 3), (1, 275)], w40)) eAlk 3 rfl ?_
              refine e_Pn.callA rfl (fun n9 d9 => u_336 (q41.rf hR)) (fun r43 w44 h42 => ?_)
              obtain ⟨⟨z45, rfl⟩, h42⟩ := h42
              have q46 := q41.tr h42
              show e_Pn 20 elay ecode eI n d 346 (144, [(1, (0, 3)), (0, (1, 275))], [(0, z45)], w44) _
              refine e_Pn.run (t' := (242, [(1, (0, 3)), (0, (1, 275))], [], w44)) eAlk 2 rfl ?_
              exact e_Pn.ret0 rfl ⟨rfl, q46⟩
          · show e_Pn 20 elay ecode eI n d 346 (106, [(0, (1, 275))], [], w15) _
            refine e_Pn.run (t' := (109, [(0, (1, 275))], [(0, 28), (1, 275)], w15)) eAlk 2 rfl ?_
            refine e_Pn.callA rfl (fun n9 d9 => u_332 (q17.rf hR)) (fun r48 w49 h47 => ?_)
            obtain ⟨⟨z50, rfl⟩, h47⟩ := h47
            have q51 := q17.tr h47
            show e_Pn 20 elay ecode eI n d 346 (112, [(0, (1, 275))], [(0, z50)], w49) _
            refine e_Pn.if1 eAlk rfl (fun h52 => ?_) (fun h52 => ?_)
            · show e_Pn 20 elay ecode eI n d 346 (148, [(0, (1, 275))], [], w49) _
              refine e_Pn.run (t' := (151, [(0, (1, 275))], [(0, 40), (1, 275)], w49)) eAlk 2 rfl ?_
              refine e_Pn.callA rfl (fun n9 d9 => u_331 (q51.rf hR)) (fun r54 w55 h53 => ?_)
              obtain ⟨⟨z56, rfl⟩, h53⟩ := h53
              have q57 := q51.tr h53
              show e_Pn 20 elay ecode eI n d 346 (154, [(0, (1, 275))], [(0, z56)], w55) _
              refine e_Pn.if1 eAlk rfl (fun h58 => ?_) (fun h58 => ?_)
              · show e_Pn 20 elay ecode eI n d 346 (164, [(0, (1, 275))], [], w55) _
                refine e_Pn.run (t' := (165, [(0, (1, 275))], [(1, 275)], w55)) eAlk 1 rfl ?_
                refine e_Pn.getf (z := w55 275 84) eAlk rfl rfl rfl (fun b59 => ?_)
                refine e_Pn.run (t' := (169, [(0, (1, 275))], [(0, 4), (0, w55 275 84)], w55)) eAlk 1 rfl ?_
                refine e_Pn.if2 eAlk rfl (fun h60 => ?_) (fun h60 => ?_)
                · show e_Pn 20 elay ecode eI n d 346 (237, [(0, (1, 275))], [], w55) _
                  refine e_Pn.run (t' := (239, [(0, (1, 275))], [(0, 2), (1, 275)], w55)) eAlk 2 rfl ?_
                  refine e_Pn.callA rfl (fun n9 d9 => u_333 (q57.rf hR)) (fun r62 w63 h61 => ?_)
                  obtain ⟨rfl, h61⟩ := h61
                  have q64 := q57.tr h61
                  show e_Pn 20 elay ecode eI n d 346 (242, [(0, (1, 275))], [], w63) _
                  exact e_Pn.ret0 rfl ⟨rfl, q64⟩
                · show e_Pn 20 elay ecode eI n d 346 (172, [(0, (1, 275))], [], w55) _
                  refine e_Pn.run (t' := (173, [(0, (1, 275))], [(1, 275)], w55)) eAlk 1 rfl ?_
                  refine e_Pn.getf (z := w55 275 85) eAlk rfl rfl rfl (fun b65 => ?_)
                  refine e_Pn.run (t' := (178, [(0, (1, 275))], [(0, 29), (0, w55 275 85)], w55)) eAlk 1 rfl ?_
                  refine e_Pn.if2 eAlk rfl (fun h66 => ?_) (fun h66 => ?_)
                  · show e_Pn 20 elay ecode eI n d 346 (237, [(0, (1, 275))], [], w55) _
                    refine e_Pn.run (t' := (239, [(0, (1, 275))], [(0, 2), (1, 275)], w55)) eAlk 2 rfl ?_
                    refine e_Pn.callA rfl (fun n9 d9 => u_333 (q57.rf hR)) (fun r68 w69 h67 => ?_)
                    obtain ⟨rfl, h67⟩ := h67
                    have q70 := q57.tr h67
                    show e_Pn 20 elay ecode eI n d 346 (242, [(0, (1, 275))], [], w69) _
                    exact e_Pn.ret0 rfl ⟨rfl, q70⟩
                  · show e_Pn 20 elay ecode eI n d 346 (181, [(0, (1, 275))], [], w55) _
                    refine e_Pn.run (t' := (183, [(0, (1, 275))], [(1, 275), (1, 275)], w55)) eAlk 2 rfl ?_
                    refine e_Pn.getf (z := w55 275 85) eAlk rfl rfl rfl (fun b71 => ?_)
                    refine e_Pn.run (t' := (188, [(0, (1, 275))], [(0, 29), (0, w55 275 85), (1, 275)], w55)) eAlk 1 rfl ?_
                    refine e_Pn.if2 eAlk rfl (fun h72 => ?_) (fun h72 => ?_)
                    · show e_Pn 20 elay ecode eI n d 346 (195, [(0, (1, 275))], [(1, 275)], w55) _
                      refine e_Pn.run (t' := (196, [(0, (1, 275))], [(1, 275), (1, 275)], w55)) eAlk 1 rfl ?_
                      refine e_Pn.getf (z := w55 275 85) eAlk rfl rfl rfl (fun b73 => ?_)
                      refine e_Pn.run (t' := (201, [(0, (1, 275))], [(0, 30), (0, w55 275 85), (1, 275)], w55)) eAlk 1 rfl ?_
                      refine e_Pn.if2 eAlk rfl (fun h74 => ?_) (fun h74 => ?_)
                      · show e_Pn 20 elay ecode eI n d 346 (209, [(0, (1, 275))], [(1, 275)], w55) _
                        refine e_Pn.run (t' := (210, [(0, (1, 275))], [(1, 275), (1, 275)], w55)) eAlk 1 rfl ?_
                        refine e_Pn.getf (z := w55 275 85) eAlk rfl rfl rfl (fun b75 => ?_)
                        refine e_Pn.run (t' := (215, [(0, (1, 275))], [(0, 31), (0, w55 275 85), (1, 275)], w55)) eAlk 1 rfl ?_
                        refine e_Pn.if2 eAlk rfl (fun h76 => ?_) (fun h76 => ?_)
                        · show e_Pn 20 elay ecode eI n d 346 (223, [(0, (1, 275))], [(1, 275)], w55) _
                          refine e_Pn.run (t' := (226, [(0, (1, 275))], [(0, 0), (0, 8), (1, 275)], w55)) eAlk 2 rfl ?_
                          refine e_Pn.callA rfl (fun n9 d9 => u_336 (q57.rf hR)) (fun r78 w79 h77 => ?_)
                          obtain ⟨⟨z80, rfl⟩, h77⟩ := h77
                          have q81 := q57.tr h77
                          show e_Pn 20 elay ecode eI n d 346 (229, [(0, (1, 275))], [(0, z80)], w79) _
                          refine e_Pn.run (t' := (231, [(0, (1, 275))], [(1, 275)], w79)) eAlk 2 rfl ?_
                          refine e_Pn.callA rfl (fun n9 d9 => u_327 (q81.rf hR)) (fun r83 w84 h82 => ?_)
                          obtain ⟨rfl, h82⟩ := h82
                          have q85 := q81.tr h82
                          show e_Pn 20 elay ecode eI n d 346 (234, [(0, (1, 275))], [], w84) _
                          refine e_Pn.run (t' := (242, [(0, (1, 275))], [], w84)) eAlk 1 rfl ?_
                          exact e_Pn.ret0 rfl ⟨rfl, q85⟩
                        · show e_Pn 20 elay ecode eI n d 346 (218, [(0, (1, 275))], [(1, 275)], w55) _
                          refine e_Pn.run (t' := (226, [(0, (1, 275))], [(0, 0), (0, 7), (1, 275)], w55)) eAlk 3 rfl ?_
                          refine e_Pn.callA rfl (fun n9 d9 => u_336 (q57.rf hR)) (fun r87 w88 h86 => ?_)
                          obtain ⟨⟨z89, rfl⟩, h86⟩ := h86
                          have q90 := q57.tr h86
                          show e_Pn 20 elay ecode eI n d 346 (229, [(0, (1, 275))], [(0, z89)], w88) _
                          refine e_Pn.run (t' := (231, [(0, (1, 275))], [(1, 275)], w88)) eAlk 2 rfl ?_
                          refine e_Pn.callA rfl (fun n9 d9 => u_327 (q90.rf hR)) (fun r92 w93 h91 => ?_)
                          obtain ⟨rfl, h91⟩ := h91
                          have q94 := q90.tr h91
                          show e_Pn 20 elay ecode eI n d 346 (234, [(0, (1, 275))], [], w93) _
                          refine e_Pn.run (t' := (242, [(0, (1, 275))], [], w93)) eAlk 1 rfl ?_
                          exact e_Pn.ret0 rfl ⟨rfl, q94⟩
                      · show e_Pn 20 elay ecode eI n d 346 (204, [(0, (1, 275))], [(1, 275)], w55) _
                        refine e_Pn.run (t' := (226, [(0, (1, 275))], [(0, 0), (0, 6), (1, 275)], w55)) eAlk 3 rfl ?_
                        refine e_Pn.callA rfl (fun n9 d9 => u_336 (q57.rf hR)) (fun r96 w97 h95 => ?_)
                        obtain ⟨⟨z98, rfl⟩, h95⟩ := h95
                        have q99 := q57.tr h95
                        show e_Pn 20 elay ecode eI n d 346 (229, [(0, (1, 275))], [(0, z98)], w97) _
                        refine e_Pn.run (t' := (231, [(0, (1, 275))], [(1, 275)], w97)) eAlk 2 rfl ?_
                        refine e_Pn.callA rfl (fun n9 d9 => u_327 (q99.rf hR)) (fun r101 w102 h100 => ?_)
                        obtain ⟨rfl, h100⟩ := h100
                        have q103 := q99.tr h100
                        show e_Pn 20 elay ecode eI n d 346 (234, [(0, (1, 275))], [], w102) _
                        refine e_Pn.run (t' := (242, [(0, (1, 275))], [], w102)) eAlk 1 rfl ?_
                        exact e_Pn.ret0 rfl ⟨rfl, q103⟩
                    · show e_Pn 20 elay ecode eI n d 346 (191, [(0, (1, 275))], [(1, 275)], w55) _
                      refine e_Pn.run (t' := (226, [(0, (1, 275))], [(0, 0), (0, 5), (1, 275)], w55)) eAlk 3 rfl ?_
                      refine e_Pn.callA rfl (fun n9 d9 => u_336 (q57.rf hR)) (fun r105 w106 h104 => ?_)
                      obtain ⟨⟨z107, rfl⟩, h104⟩ := h104
                      have q108 := q57.tr h104
                      show e_Pn 20 elay ecode eI n d 346 (229, [(0, (1, 275))], [(0, z107)], w106) _
                      refine e_Pn.run (t' := (231, [(0, (1, 275))], [(1, 275)], w106)) eAlk 2 rfl ?_
                      refine e_Pn.callA rfl (fun n9 d9 => u_327 (q108.rf hR)) (fun r110 w111 h109 => ?_)
                      obtain ⟨rfl, h109⟩ := h109
                      have q112 := q108.tr h109
                      show e_Pn 20 elay ecode eI n d 346 (234, [(0, (1, 275))], [], w111) _
                      refine e_Pn.run (t' := (242, [(0, (1, 275))], [], w111)) eAlk 1 rfl ?_
                      exact e_Pn.ret0 rfl ⟨rfl, q112⟩
              · show e_Pn 20 elay ecode eI n d 346 (157, [(0, (1, 275))], [], w55) _
                refine e_Pn.run (t' := (158, [(0, (1, 275))], [(1, 275)], w55)) eAlk 1 rfl ?_
                refine e_Pn.callB rfl (fun k9 hk9 d9 => ihG k9 (by omega) 345 (by decide) d9 _ (q57.rf hR)) (fun r114 w115 h113 => ?_)
                obtain ⟨rfl, h113⟩ := h113
                have q116 := q57.tr h113
                show e_Pn 20 elay ecode eI n d 346 (161, [(0, (1, 275))], [], w115) _
                refine e_Pn.run (t' := (242, [(0, (1, 275))], [], w115)) eAlk 1 rfl ?_
                exact e_Pn.ret0 rfl ⟨rfl, q116⟩
            · show e_Pn 20 elay ecode eI n d 346 (115, [(0, (1, 275))], [], w49) _
              refine e_Pn.run (t' := (116, [(0, (1, 275))], [(1, 275)], w49)) eAlk 1 rfl ?_
              refine e_Pn.getf (z := w49 275 85) eAlk rfl rfl rfl (fun b117 => ?_)
              refine e_Pn.run (t' := (121, [(0, (1, 275))], [(0, 27), (0, w49 275 85)], w49)) eAlk 1 rfl ?_
              refine e_Pn.if2 eAlk rfl (fun h118 => ?_) (fun h118 => ?_)
              · show e_Pn 20 elay ecode eI n d 346 (128, [(0, (1, 275))], [], w49) _
                refine e_Pn.run (t' := (131, [(1, (0, 4)), (0, (1, 275))], [(1, 275)], w49)) eAlk 3 rfl ?_
                refine e_Pn.callA rfl (fun n9 d9 => u_327 (q51.rf hR)) (fun r120 w121 h119 => ?_)
                obtain ⟨rfl, h119⟩ := h119
                have q122 := q51.tr h119
                show e_Pn 20 elay ecode eI n d 346 (134, [(1, (0, 4)), (0, (1, 275))], [], w121) _
                refine e_Pn.run (t' := (135, [(1, (0, 4)), (0, (1, 275))], [(1, 275)], w121)) eAlk 1 rfl ?_
                refine e_Pn.callB rfl (fun k9 hk9 d9 => ihG k9 (by omega) 345 (by decide) d9 _ (q122.rf hR)) (fun r124 w125 h123 => ?_)
                obtain ⟨rfl, h123⟩ := h123
                have q126 := q122.tr h123
                show e_Pn 20 elay ecode eI n d 346 (138, [(1, (0, 4)), (0, (1, 275))], [], w125) _
                refine e_Pn.run (t' := (141, [(1, (0, 4)), (0, (1, 275))], [(0, 0), (0, 4), (1, 275)], w125)) eAlk 3 rfl ?_
                refine e_Pn.callA rfl (fun n9 d9 => u_336 (q126.rf hR)) (fun r128 w129 h127 => ?_)
                obtain ⟨⟨z130, rfl⟩, h127⟩ := h127
                have q131 := q126.tr h127
                show e_Pn 20 elay ecode eI n d 346 (144, [(1, (0, 4)), (0, (1, 275))], [(0, z130)], w129) _
                refine e_Pn.run (t' := (242, [(1, (0, 4)), (0, (1, 275))], [], w129)) eAlk 2 rfl ?_
                exact e_Pn.ret0 rfl ⟨rfl, q131⟩
              · show e_Pn 20 elay ecode eI n d 346 (124, [(0, (1, 275))], [], w49) _
                refine e_Pn.run (t' := (131, [(1, (0, 3)), (0, (1, 275))], [(1, 275)], w49)) eAlk 4 rfl ?_
                refine e_Pn.callA rfl (fun n9 d9 => u_327 (q51.rf hR)) (fun r133 w134 h132 => ?_)
                obtain ⟨rfl, h132⟩ := h132
                have q135 := q51.tr h132
                show e_Pn 20 elay ecode eI n d 346 (134, [(1, (0, 3)), (0, (1, 275))], [], w134) _
                refine e_Pn.run (t' := (135, [(1, (0, 3)), (0, (1, 275))], [(1, 275)], w134)) eAlk 1 rfl ?_
                refine e_Pn.callB rfl (fun k9 hk9 d9 => ihG k9 (by omega) 345 (by decide) d9 _ (q135.rf hR)) (fun r137 w138 h136 => ?_)
                obtain ⟨rfl, h136⟩ := h136
                have q139 := q135.tr h136
                show e_Pn 20 elay ecode eI n d 346 (138, [(1, (0, 3)), (0, (1, 275))], [], w138) _
                refine e_Pn.run (t' := (141, [(1, (0, 3)), (0, (1, 275))], [(0, 0), (0, 3), (1, 275)], w138)) eAlk 3 rfl ?_
                refine e_Pn.callA rfl (fun n9 d9 => u_336 (q139.rf hR)) (fun r141 w142 h140 => ?_)
                obtain ⟨⟨z143, rfl⟩, h140⟩ := h140
                have q144 := q139.tr h140
                show e_Pn 20 elay ecode eI n d 346 (144, [(1, (0, 3)), (0, (1, 275))], [(0, z143)], w142) _
                refine e_Pn.run (t' := (242, [(1, (0, 3)), (0, (1, 275))], [], w142)) eAlk 2 rfl ?_
                exact e_Pn.ret0 rfl ⟨rfl, q144⟩
        · show e_Pn 20 elay ecode eI n d 346 (83, [(0, (1, 275))], [], w5) _
          refine e_Pn.run (t' := (88, [(0, (1, 275))], [(0, 0), (0, 2), (1, 275), (0, 2), (1, 275)], w5)) eAlk 5 rfl ?_
          refine e_Pn.callA rfl (fun n9 d9 => u_336 (q7.rf hR)) (fun r146 w147 h145 => ?_)
          obtain ⟨⟨z148, rfl⟩, h145⟩ := h145
          have q149 := q7.tr h145
          show e_Pn 20 elay ecode eI n d 346 (91, [(0, (1, 275))], [(0, z148), (0, 2), (1, 275)], w147) _
          refine e_Pn.callA rfl (fun n9 d9 => u_338 (q149.rf hR)) (fun r151 w152 h150 => ?_)
          obtain ⟨rfl, h150⟩ := h150
          have q153 := q149.tr h150
          show e_Pn 20 elay ecode eI n d 346 (94, [(0, (1, 275))], [], w152) _
          refine e_Pn.run (t' := (242, [(0, (1, 275))], [], w152)) eAlk 1 rfl ?_
          exact e_Pn.ret0 rfl ⟨rfl, q153⟩
      · show e_Pn 20 elay ecode eI n d 346 (58, [(0, (1, 275))], [], w5) _
        refine e_Pn.run (t' := (61, [(0, (1, 275))], [(1, 275), (0, 1), (1, 275)], w5)) eAlk 3 rfl ?_
        refine e_Pn.getf (z := w5 275 85) eAlk rfl rfl rfl (fun b154 => ?_)
        refine e_Pn.callA rfl (fun n9 d9 => u_336 (q7.rf hR)) (fun r156 w157 h155 => ?_)
        obtain ⟨⟨z158, rfl⟩, h155⟩ := h155
        have q159 := q7.tr h155
        show e_Pn 20 elay ecode eI n d 346 (67, [(0, (1, 275))], [(0, z158)], w157) _
        refine e_Pn.run (t' := (69, [(0, (1, 275))], [(1, 275)], w157)) eAlk 2 rfl ?_
        refine e_Pn.callA rfl (fun n9 d9 => u_327 (q159.rf hR)) (fun r161 w162 h160 => ?_)
        obtain ⟨rfl, h160⟩ := h160
        have q163 := q159.tr h160
        show e_Pn 20 elay ecode eI n d 346 (72, [(0, (1, 275))], [], w162) _
        refine e_Pn.run (t' := (242, [(0, (1, 275))], [], w162)) eAlk 1 rfl ?_
        exact e_Pn.ret0 rfl ⟨rfl, q163⟩
    · show e_Pn 20 elay ecode eI n d 346 (17, [(0, (1, 275))], [], w5) _
      refine e_Pn.run (t' := (18, [(0, (1, 275))], [(1, 275)], w5)) eAlk 1 rfl ?_
      refine e_Pn.callA rfl (fun n9 d9 => u_335 (q7.rf hR)) (fun r165 w166 h164 => ?_)
      obtain ⟨rfl, h164⟩ := h164
      have q167 := q7.tr h164
      show e_Pn 20 elay ecode eI n d 346 (21, [(0, (1, 275))], [], w166) _
      refine e_Pn.run (t' := (22, [(0, (1, 275))], [(1, 275)], w166)) eAlk 1 rfl ?_
      refine e_Pn.callA rfl (fun n9 d9 => u_327 (q167.rf hR)) (fun r169 w170 h168 => ?_)
      obtain ⟨rfl, h168⟩ := h168
      have q171 := q167.tr h168
      show e_Pn 20 elay ecode eI n d 346 (25, [(0, (1, 275))], [], w170) _
      refine e_Pn.run (t' := (26, [(0, (1, 275))], [(1, 275)], w170)) eAlk 1 rfl ?_
      refine e_Pn.callB rfl (fun k9 hk9 d9 => ihG k9 (by omega) 346 (by decide) d9 _ (q171.rf hR)) (fun r173 w174 h172 => ?_)
      obtain ⟨rfl, h172⟩ := h172
      have q175 := q171.tr h172
      show e_Pn 20 elay ecode eI n d 346 (29, [(0, (1, 275))], [], w174) _
      refine e_Pn.run (t' := (31, [(0, (1, 275))], [(1, 275), (1, 275)], w174)) eAlk 2 rfl ?_
      refine e_Pn.getf (z := w174 275 83) eAlk rfl rfl rfl (fun b176 => ?_)
      refine e_Pn.run (t' := (35, [(0, (1, 275))], [(0, 1), (0, w174 275 83), (1, 275)], w174)) eAlk 1 rfl ?_
      refine e_Pn.bin0 eAlk rfl (fun z177 hz177 => ?_)
      refine e_Pn.putf eAlk rfl rfl ?_
      generalize hw178 : e_up w174 275 83 z177 = w178
      have q179 : mq w w178 := mq.upF q175 hw178 (by decide) (by decide +kernel)
      refine e_Pn.run (t' := (43, [(0, (1, 275))], [(0, 0), (0, 9), (1, 275)], w178)) eAlk 3 rfl ?_
      refine e_Pn.callA rfl (fun n9 d9 => u_336 (q179.rf hR)) (fun r181 w182 h180 => ?_)
      obtain ⟨⟨z183, rfl⟩, h180⟩ := h180
      have q184 := q179.tr h180
      show e_Pn 20 elay ecode eI n d 346 (46, [(0, (1, 275))], [(0, z183)], w182) _
      refine e_Pn.run (t' := (242, [(0, (1, 275))], [], w182)) eAlk 2 rfl ?_
      exact e_Pn.ret0 rfl ⟨rfl, q184⟩
  · show e_Pn 20 elay ecode eI n d 346 (7, [(0, (1, 275))], [], w) _
    exact e_Pn.ret0 rfl ⟨rfl, mq.r⟩
theorem uE_all : ∀ n, uE n := fun n => Nat.strongRecOn n (fun n ih M hM => by
  simp only [List.mem_cons, List.not_mem_nil, or_false] at hM
  rcases hM with rfl | rfl | rfl | rfl | rfl | rfl | rfl
  · exact fun d w hR => u_339 hR (fun k hk => ih k hk)
  · exact fun d w hR => u_340 hR (fun k hk => ih k hk)
  · exact fun d w hR => u_342 hR (fun k hk => ih k hk)
  · exact fun d w hR => u_343 hR (fun k hk => ih k hk)
  · exact fun d w hR => u_344 hR (fun k hk => ih k hk)
  · exact fun d w hR => u_345 hR (fun k hk => ih k hk)
  · exact fun d w hR => u_346 hR (fun k hk => ih k hk))
set_option maxHeartbeats 4000000 in
theorem u_349 {n d : Nat} {w : eW} (hR : mRw w) {x : Int} : e_Pn 20 elay ecode eI n d 349 (0, [(0, (1, 275)), (1, (0, x))], [], w) (fun r w' => r = [] ∧ mq w w') := by
  refine e_Pn.run (t' := (4, [(0, (1, 275)), (1, (0, x))], [(0, 0), (0, 30), (1, 275)], w)) eAlk 3 rfl ?_
  refine e_Pn.callA rfl (fun n9 d9 => u_336 (mq.r.rf hR)) (fun r2 w3 h1 => ?_)
  obtain ⟨⟨z4, rfl⟩, h1⟩ := h1
  have q5 := mq.r.tr h1
  show e_Pn 20 elay ecode eI n d 349 (7, [(0, (1, 275)), (1, (0, x))], [(0, z4)], w3) _
  refine e_Pn.run (t' := (9, [(0, (1, 275)), (1, (0, x))], [(1, 275)], w3)) eAlk 2 rfl ?_
  refine e_Pn.getf (z := w3 275 78) eAlk rfl rfl rfl (fun b6 => ?_)
  refine e_Pn.run (t' := (16, [(2, (0, w3 275 78)), (0, (1, 275)), (1, (0, x))], [(0, 17), (0, x)], w3)) eAlk 3 rfl ?_
  refine e_Pn.if2 eAlk rfl (fun h7 => ?_) (fun h7 => ?_)
  · show e_Pn 20 elay ecode eI n d 349 (69, [(2, (0, w3 275 78)), (0, (1, 275)), (1, (0, x))], [], w3) _
    refine e_Pn.run (t' := (70, [(2, (0, w3 275 78)), (0, (1, 275)), (1, (0, x))], [(1, 275)], w3)) eAlk 1 rfl ?_
    refine e_Pn.callA rfl (fun n9 d9 => u_327 (q5.rf hR)) (fun r9 w10 h8 => ?_)
    obtain ⟨rfl, h8⟩ := h8
    have q11 := q5.tr h8
    show e_Pn 20 elay ecode eI n d 349 (73, [(2, (0, w3 275 78)), (0, (1, 275)), (1, (0, x))], [], w10) _
    refine e_Pn.run (t' := (74, [(2, (0, w3 275 78)), (0, (1, 275)), (1, (0, x))], [(0, x)], w10)) eAlk 1 rfl ?_
    have a148 : e_Pn 20 elay ecode eI n d 349 (148, [(2, (0, w3 275 78)), (0, (1, 275)), (1, (0, x))], [], w10) (fun r w' => r = [] ∧ mq w w') := by
      refine e_Pn.run (t' := (149, [(2, (0, w3 275 78)), (0, (1, 275)), (1, (0, x))], [(1, 275)], w10)) eAlk 1 rfl ?_
      refine e_Pn.callA rfl (fun n9 d9 => uE_all n9 339 (by decide) d9 _ (q11.rf hR)) (fun r13 w14 h12 => ?_)
      obtain ⟨rfl, h12⟩ := h12
      have q15 := q11.tr h12
      show e_Pn 20 elay ecode eI n d 349 (152, [(2, (0, w3 275 78)), (0, (1, 275)), (1, (0, x))], [], w14) _
      refine e_Pn.run (t' := (154, [(3, (0, 1)), (2, (0, w3 275 78)), (0, (1, 275)), (1, (0, x))], [], w14)) eAlk 2 rfl ?_
      have hL16 : ∀ nn18 : Nat, nn18 ≤ n → ∀ (tl19 : eL) (y22 : Int) (y23 : Int) (y24 : Int) (w20 : eW), mq w w20 → e_Pn 20 elay ecode eI nn18 d 349 (154, (0, (1, 275)) :: (1, (0, y22)) :: (2, (0, y23)) :: (3, (0, y24)) :: tl19, [], w20) (fun r w' => r = [] ∧ mq w w') := by
        intro nn18
        induction nn18 with
        | zero => intro _ tl19 y22 y23 y24 w20 _; exact e_Pn.zero
        | succ nn18 ih17 =>
          intro hnnn18 tl19 y22 y23 y24 w20 q21
          refine e_Pn.runS (t' := (155, (0, (1, 275)) :: (1, (0, y22)) :: (2, (0, y23)) :: (3, (0, y24)) :: tl19, [(1, 275)], w20)) eAlk 0 rfl ?_
          refine e_Pn.getf (z := w20 275 88) eAlk rfl rfl rfl (fun b25 => ?_)
          refine e_Pn.if1 eAlk rfl (fun h26 => ?_) (fun h26 => ?_)
          · show e_Pn 20 elay ecode eI nn18 d 349 (184, (0, (1, 275)) :: (1, (0, y22)) :: (2, (0, y23)) :: (3, (0, y24)) :: tl19, [], w20) _
            refine e_Pn.run (t' := (188, (0, (1, 275)) :: (1, (0, y22)) :: (2, (0, y23)) :: (3, (0, y24)) :: tl19, [(0, y24), (0, 32), (1, 275)], w20)) eAlk 3 rfl ?_
            refine e_Pn.callA rfl (fun n9 d9 => u_336 (q21.rf hR)) (fun r28 w29 h27 => ?_)
            obtain ⟨⟨z30, rfl⟩, h27⟩ := h27
            have q31 := q21.tr h27
            show e_Pn 20 elay ecode eI nn18 d 349 (191, (0, (1, 275)) :: (1, (0, y22)) :: (2, (0, y23)) :: (3, (0, y24)) :: tl19, [(0, z30)], w29) _
            refine e_Pn.run (t' := (399, (0, (1, 275)) :: (1, (0, y22)) :: (2, (0, y23)) :: (3, (0, y24)) :: tl19, [(0, 59), (1, 275), (1, 275)], w29)) eAlk 5 rfl ?_
            refine e_Pn.callA rfl (fun n9 d9 => u_331 (q31.rf hR)) (fun r33 w34 h32 => ?_)
            obtain ⟨⟨z35, rfl⟩, h32⟩ := h32
            have q36 := q31.tr h32
            show e_Pn 20 elay ecode eI nn18 d 349 (402, (0, (1, 275)) :: (1, (0, y22)) :: (2, (0, y23)) :: (3, (0, y24)) :: tl19, [(0, z35), (1, 275)], w34) _
            refine e_Pn.callA rfl (fun n9 d9 => u_334 (q36.rf hR)) (fun r38 w39 h37 => ?_)
            obtain ⟨rfl, h37⟩ := h37
            have q40 := q36.tr h37
            show e_Pn 20 elay ecode eI nn18 d 349 (405, (0, (1, 275)) :: (1, (0, y22)) :: (2, (0, y23)) :: (3, (0, y24)) :: tl19, [], w39) _
            exact e_Pn.ret0 rfl ⟨rfl, q40⟩
          · show e_Pn 20 elay ecode eI nn18 d 349 (161, (0, (1, 275)) :: (1, (0, y22)) :: (2, (0, y23)) :: (3, (0, y24)) :: tl19, [], w20) _
            refine e_Pn.run (t' := (164, (0, (1, 275)) :: (1, (0, y22)) :: (2, (0, y23)) :: (3, (0, y24)) :: tl19, [(0, 44), (1, 275)], w20)) eAlk 2 rfl ?_
            refine e_Pn.callA rfl (fun n9 d9 => u_331 (q21.rf hR)) (fun r42 w43 h41 => ?_)
            obtain ⟨⟨z44, rfl⟩, h41⟩ := h41
            have q45 := q21.tr h41
            show e_Pn 20 elay ecode eI nn18 d 349 (167, (0, (1, 275)) :: (1, (0, y22)) :: (2, (0, y23)) :: (3, (0, y24)) :: tl19, [(0, z44)], w43) _
            refine e_Pn.if1 eAlk rfl (fun h46 => ?_) (fun h46 => ?_)
            · show e_Pn 20 elay ecode eI nn18 d 349 (184, (0, (1, 275)) :: (1, (0, y22)) :: (2, (0, y23)) :: (3, (0, y24)) :: tl19, [], w43) _
              refine e_Pn.run (t' := (188, (0, (1, 275)) :: (1, (0, y22)) :: (2, (0, y23)) :: (3, (0, y24)) :: tl19, [(0, y24), (0, 32), (1, 275)], w43)) eAlk 3 rfl ?_
              refine e_Pn.callA rfl (fun n9 d9 => u_336 (q45.rf hR)) (fun r48 w49 h47 => ?_)
              obtain ⟨⟨z50, rfl⟩, h47⟩ := h47
              have q51 := q45.tr h47
              show e_Pn 20 elay ecode eI nn18 d 349 (191, (0, (1, 275)) :: (1, (0, y22)) :: (2, (0, y23)) :: (3, (0, y24)) :: tl19, [(0, z50)], w49) _
              refine e_Pn.run (t' := (399, (0, (1, 275)) :: (1, (0, y22)) :: (2, (0, y23)) :: (3, (0, y24)) :: tl19, [(0, 59), (1, 275), (1, 275)], w49)) eAlk 5 rfl ?_
              refine e_Pn.callA rfl (fun n9 d9 => u_331 (q51.rf hR)) (fun r53 w54 h52 => ?_)
              obtain ⟨⟨z55, rfl⟩, h52⟩ := h52
              have q56 := q51.tr h52
              show e_Pn 20 elay ecode eI nn18 d 349 (402, (0, (1, 275)) :: (1, (0, y22)) :: (2, (0, y23)) :: (3, (0, y24)) :: tl19, [(0, z55), (1, 275)], w54) _
              refine e_Pn.callA rfl (fun n9 d9 => u_334 (q56.rf hR)) (fun r58 w59 h57 => ?_)
              obtain ⟨rfl, h57⟩ := h57
              have q60 := q56.tr h57
              show e_Pn 20 elay ecode eI nn18 d 349 (405, (0, (1, 275)) :: (1, (0, y22)) :: (2, (0, y23)) :: (3, (0, y24)) :: tl19, [], w59) _
              exact e_Pn.ret0 rfl ⟨rfl, q60⟩
            · show e_Pn 20 elay ecode eI nn18 d 349 (170, (0, (1, 275)) :: (1, (0, y22)) :: (2, (0, y23)) :: (3, (0, y24)) :: tl19, [], w43) _
              refine e_Pn.run (t' := (171, (0, (1, 275)) :: (1, (0, y22)) :: (2, (0, y23)) :: (3, (0, y24)) :: tl19, [(1, 275)], w43)) eAlk 1 rfl ?_
              refine e_Pn.callA rfl (fun n9 d9 => u_327 (q45.rf hR)) (fun r62 w63 h61 => ?_)
              obtain ⟨rfl, h61⟩ := h61
              have q64 := q45.tr h61
              show e_Pn 20 elay ecode eI nn18 d 349 (174, (0, (1, 275)) :: (1, (0, y22)) :: (2, (0, y23)) :: (3, (0, y24)) :: tl19, [], w63) _
              refine e_Pn.run (t' := (175, (0, (1, 275)) :: (1, (0, y22)) :: (2, (0, y23)) :: (3, (0, y24)) :: tl19, [(1, 275)], w63)) eAlk 1 rfl ?_
              refine e_Pn.callA rfl (fun n9 d9 => uE_all n9 339 (by decide) d9 _ (q64.rf hR)) (fun r66 w67 h65 => ?_)
              obtain ⟨rfl, h65⟩ := h65
              have q68 := q64.tr h65
              show e_Pn 20 elay ecode eI nn18 d 349 (178, (0, (1, 275)) :: (1, (0, y22)) :: (2, (0, y23)) :: (3, (0, y24)) :: tl19, [], w67) _
              refine e_Pn.incU eAlk rfl rfl (fun z69 => ?_)
              show e_Pn 20 elay ecode eI nn18 d 349 (181, (3, (0, z69)) :: (0, (1, 275)) :: (1, (0, y22)) :: (2, (0, y23)) :: List.filter (e_flt 0 3) tl19, [], w67) _
              refine e_Pn.run (t' := (154, (3, (0, z69)) :: (0, (1, 275)) :: (1, (0, y22)) :: (2, (0, y23)) :: List.filter (e_flt 0 3) tl19, [], w67)) eAlk 1 rfl ?_
              exact e_Pn.ord eAlk [0, 1, 2, 3] rfl rfl ((ih17 (by omega) _ y22 y23 z69 w67 q68).le (by omega))
      exact e_Pn.ord eAlk [0, 1, 2, 3] rfl rfl (hL16 n (Nat.le_refl _) _ x (w3 275 78) 1 w14 q15)
    have a195 : e_Pn 20 elay ecode eI n d 349 (195, [(2, (0, w3 275 78)), (0, (1, 275)), (1, (0, x))], [], w10) (fun r w' => r = [] ∧ mq w w') := by
      refine e_Pn.run (t' := (196, [(2, (0, w3 275 78)), (0, (1, 275)), (1, (0, x))], [(1, 275)], w10)) eAlk 1 rfl ?_
      refine e_Pn.callA rfl (fun n9 d9 => uE_all n9 339 (by decide) d9 _ (q11.rf hR)) (fun r71 w72 h70 => ?_)
      obtain ⟨rfl, h70⟩ := h70
      have q73 := q11.tr h70
      show e_Pn 20 elay ecode eI n d 349 (199, [(2, (0, w3 275 78)), (0, (1, 275)), (1, (0, x))], [], w72) _
      refine e_Pn.run (t' := (203, [(2, (0, w3 275 78)), (0, (1, 275)), (1, (0, x))], [(0, 44), (1, 275), (1, 275)], w72)) eAlk 3 rfl ?_
      refine e_Pn.callA rfl (fun n9 d9 => u_331 (q73.rf hR)) (fun r75 w76 h74 => ?_)
      obtain ⟨⟨z77, rfl⟩, h74⟩ := h74
      have q78 := q73.tr h74
      show e_Pn 20 elay ecode eI n d 349 (206, [(2, (0, w3 275 78)), (0, (1, 275)), (1, (0, x))], [(0, z77), (1, 275)], w76) _
      refine e_Pn.callA rfl (fun n9 d9 => u_334 (q78.rf hR)) (fun r80 w81 h79 => ?_)
      obtain ⟨rfl, h79⟩ := h79
      have q82 := q78.tr h79
      show e_Pn 20 elay ecode eI n d 349 (209, [(2, (0, w3 275 78)), (0, (1, 275)), (1, (0, x))], [], w81) _
      refine e_Pn.run (t' := (210, [(2, (0, w3 275 78)), (0, (1, 275)), (1, (0, x))], [(1, 275)], w81)) eAlk 1 rfl ?_
      refine e_Pn.callA rfl (fun n9 d9 => uE_all n9 339 (by decide) d9 _ (q82.rf hR)) (fun r84 w85 h83 => ?_)
      obtain ⟨rfl, h83⟩ := h83
      have q86 := q82.tr h83
      show e_Pn 20 elay ecode eI n d 349 (213, [(2, (0, w3 275 78)), (0, (1, 275)), (1, (0, x))], [], w85) _
      refine e_Pn.run (t' := (217, [(2, (0, w3 275 78)), (0, (1, 275)), (1, (0, x))], [(0, 0), (0, 35), (1, 275)], w85)) eAlk 3 rfl ?_
      refine e_Pn.callA rfl (fun n9 d9 => u_336 (q86.rf hR)) (fun r88 w89 h87 => ?_)
      obtain ⟨⟨z90, rfl⟩, h87⟩ := h87
      have q91 := q86.tr h87
      show e_Pn 20 elay ecode eI n d 349 (220, [(2, (0, w3 275 78)), (0, (1, 275)), (1, (0, x))], [(0, z90)], w89) _
      refine e_Pn.run (t' := (399, [(2, (0, w3 275 78)), (0, (1, 275)), (1, (0, x))], [(0, 59), (1, 275), (1, 275)], w89)) eAlk 5 rfl ?_
      refine e_Pn.callA rfl (fun n9 d9 => u_331 (q91.rf hR)) (fun r93 w94 h92 => ?_)
      obtain ⟨⟨z95, rfl⟩, h92⟩ := h92
      have q96 := q91.tr h92
      show e_Pn 20 elay ecode eI n d 349 (402, [(2, (0, w3 275 78)), (0, (1, 275)), (1, (0, x))], [(0, z95), (1, 275)], w94) _
      refine e_Pn.callA rfl (fun n9 d9 => u_334 (q96.rf hR)) (fun r98 w99 h97 => ?_)
      obtain ⟨rfl, h97⟩ := h97
      have q100 := q96.tr h97
      show e_Pn 20 elay ecode eI n d 349 (405, [(2, (0, w3 275 78)), (0, (1, 275)), (1, (0, x))], [], w99) _
      exact e_Pn.ret0 rfl ⟨rfl, q100⟩
    have a224 : e_Pn 20 elay ecode eI n d 349 (224, [(2, (0, w3 275 78)), (0, (1, 275)), (1, (0, x))], [], w10) (fun r w' => r = [] ∧ mq w w') := by
      refine e_Pn.run (t' := (230, [(2, (0, w3 275 78)), (0, (1, 275)), (1, (0, x))], [(0, 0), (0, 38), (1, 275), (0, 3), (1, 275)], w10)) eAlk 5 rfl ?_
      refine e_Pn.callA rfl (fun n9 d9 => u_336 (q11.rf hR)) (fun r102 w103 h101 => ?_)
      obtain ⟨⟨z104, rfl⟩, h101⟩ := h101
      have q105 := q11.tr h101
      show e_Pn 20 elay ecode eI n d 349 (233, [(2, (0, w3 275 78)), (0, (1, 275)), (1, (0, x))], [(0, z104), (0, 3), (1, 275)], w103) _
      refine e_Pn.callA rfl (fun n9 d9 => u_338 (q105.rf hR)) (fun r107 w108 h106 => ?_)
      obtain ⟨rfl, h106⟩ := h106
      have q109 := q105.tr h106
      show e_Pn 20 elay ecode eI n d 349 (236, [(2, (0, w3 275 78)), (0, (1, 275)), (1, (0, x))], [], w108) _
      refine e_Pn.run (t' := (399, [(2, (0, w3 275 78)), (0, (1, 275)), (1, (0, x))], [(0, 59), (1, 275), (1, 275)], w108)) eAlk 4 rfl ?_
      refine e_Pn.callA rfl (fun n9 d9 => u_331 (q109.rf hR)) (fun r111 w112 h110 => ?_)
      obtain ⟨⟨z113, rfl⟩, h110⟩ := h110
      have q114 := q109.tr h110
      show e_Pn 20 elay ecode eI n d 349 (402, [(2, (0, w3 275 78)), (0, (1, 275)), (1, (0, x))], [(0, z113), (1, 275)], w112) _
      refine e_Pn.callA rfl (fun n9 d9 => u_334 (q114.rf hR)) (fun r116 w117 h115 => ?_)
      obtain ⟨rfl, h115⟩ := h115
      have q118 := q114.tr h115
      show e_Pn 20 elay ecode eI n d 349 (405, [(2, (0, w3 275 78)), (0, (1, 275)), (1, (0, x))], [], w117) _
      exact e_Pn.ret0 rfl ⟨rfl, q118⟩
    have a239 : e_Pn 20 elay ecode eI n d 349 (239, [(2, (0, w3 275 78)), (0, (1, 275)), (1, (0, x))], [], w10) (fun r w' => r = [] ∧ mq w w') := by
      refine e_Pn.run (t' := (245, [(2, (0, w3 275 78)), (0, (1, 275)), (1, (0, x))], [(0, 0), (0, 39), (1, 275), (0, 3), (1, 275)], w10)) eAlk 5 rfl ?_
      refine e_Pn.callA rfl (fun n9 d9 => u_336 (q11.rf hR)) (fun r120 w121 h119 => ?_)
      obtain ⟨⟨z122, rfl⟩, h119⟩ := h119
      have q123 := q11.tr h119
      show e_Pn 20 elay ecode eI n d 349 (248, [(2, (0, w3 275 78)), (0, (1, 275)), (1, (0, x))], [(0, z122), (0, 3), (1, 275)], w121) _
      refine e_Pn.callA rfl (fun n9 d9 => u_338 (q123.rf hR)) (fun r125 w126 h124 => ?_)
      obtain ⟨rfl, h124⟩ := h124
      have q127 := q123.tr h124
      show e_Pn 20 elay ecode eI n d 349 (251, [(2, (0, w3 275 78)), (0, (1, 275)), (1, (0, x))], [], w126) _
      refine e_Pn.run (t' := (399, [(2, (0, w3 275 78)), (0, (1, 275)), (1, (0, x))], [(0, 59), (1, 275), (1, 275)], w126)) eAlk 4 rfl ?_
      refine e_Pn.callA rfl (fun n9 d9 => u_331 (q127.rf hR)) (fun r129 w130 h128 => ?_)
      obtain ⟨⟨z131, rfl⟩, h128⟩ := h128
      have q132 := q127.tr h128
      show e_Pn 20 elay ecode eI n d 349 (402, [(2, (0, w3 275 78)), (0, (1, 275)), (1, (0, x))], [(0, z131), (1, 275)], w130) _
      refine e_Pn.callA rfl (fun n9 d9 => u_334 (q132.rf hR)) (fun r134 w135 h133 => ?_)
      obtain ⟨rfl, h133⟩ := h133
      have q136 := q132.tr h133
      show e_Pn 20 elay ecode eI n d 349 (405, [(2, (0, w3 275 78)), (0, (1, 275)), (1, (0, x))], [], w135) _
      exact e_Pn.ret0 rfl ⟨rfl, q136⟩
    have a254 : e_Pn 20 elay ecode eI n d 349 (254, [(2, (0, w3 275 78)), (0, (1, 275)), (1, (0, x))], [], w10) (fun r w' => r = [] ∧ mq w w') := by
      refine e_Pn.run (t' := (255, [(2, (0, w3 275 78)), (0, (1, 275)), (1, (0, x))], [(1, 275)], w10)) eAlk 1 rfl ?_
      refine e_Pn.callA rfl (fun n9 d9 => uE_all n9 339 (by decide) d9 _ (q11.rf hR)) (fun r138 w139 h137 => ?_)
      obtain ⟨rfl, h137⟩ := h137
      have q140 := q11.tr h137
      show e_Pn 20 elay ecode eI n d 349 (258, [(2, (0, w3 275 78)), (0, (1, 275)), (1, (0, x))], [], w139) _
      refine e_Pn.run (t' := (262, [(2, (0, w3 275 78)), (0, (1, 275)), (1, (0, x))], [(0, 44), (1, 275), (1, 275)], w139)) eAlk 3 rfl ?_
      refine e_Pn.callA rfl (fun n9 d9 => u_331 (q140.rf hR)) (fun r142 w143 h141 => ?_)
      obtain ⟨⟨z144, rfl⟩, h141⟩ := h141
      have q145 := q140.tr h141
      show e_Pn 20 elay ecode eI n d 349 (265, [(2, (0, w3 275 78)), (0, (1, 275)), (1, (0, x))], [(0, z144), (1, 275)], w143) _
      refine e_Pn.callA rfl (fun n9 d9 => u_334 (q145.rf hR)) (fun r147 w148 h146 => ?_)
      obtain ⟨rfl, h146⟩ := h146
      have q149 := q145.tr h146
      show e_Pn 20 elay ecode eI n d 349 (268, [(2, (0, w3 275 78)), (0, (1, 275)), (1, (0, x))], [], w148) _
      refine e_Pn.run (t' := (274, [(2, (0, w3 275 78)), (0, (1, 275)), (1, (0, x))], [(0, 0), (0, 44), (1, 275), (0, 3), (1, 275)], w148)) eAlk 5 rfl ?_
      refine e_Pn.callA rfl (fun n9 d9 => u_336 (q149.rf hR)) (fun r151 w152 h150 => ?_)
      obtain ⟨⟨z153, rfl⟩, h150⟩ := h150
      have q154 := q149.tr h150
      show e_Pn 20 elay ecode eI n d 349 (277, [(2, (0, w3 275 78)), (0, (1, 275)), (1, (0, x))], [(0, z153), (0, 3), (1, 275)], w152) _
      refine e_Pn.callA rfl (fun n9 d9 => u_338 (q154.rf hR)) (fun r156 w157 h155 => ?_)
      obtain ⟨rfl, h155⟩ := h155
      have q158 := q154.tr h155
      show e_Pn 20 elay ecode eI n d 349 (280, [(2, (0, w3 275 78)), (0, (1, 275)), (1, (0, x))], [], w157) _
      refine e_Pn.run (t' := (399, [(2, (0, w3 275 78)), (0, (1, 275)), (1, (0, x))], [(0, 59), (1, 275), (1, 275)], w157)) eAlk 4 rfl ?_
      refine e_Pn.callA rfl (fun n9 d9 => u_331 (q158.rf hR)) (fun r160 w161 h159 => ?_)
      obtain ⟨⟨z162, rfl⟩, h159⟩ := h159
      have q163 := q158.tr h159
      show e_Pn 20 elay ecode eI n d 349 (402, [(2, (0, w3 275 78)), (0, (1, 275)), (1, (0, x))], [(0, z162), (1, 275)], w161) _
      refine e_Pn.callA rfl (fun n9 d9 => u_334 (q163.rf hR)) (fun r165 w166 h164 => ?_)
      obtain ⟨rfl, h164⟩ := h164
      have q167 := q163.tr h164
      show e_Pn 20 elay ecode eI n d 349 (405, [(2, (0, w3 275 78)), (0, (1, 275)), (1, (0, x))], [], w166) _
      exact e_Pn.ret0 rfl ⟨rfl, q167⟩
    have a283 : e_Pn 20 elay ecode eI n d 349 (283, [(2, (0, w3 275 78)), (0, (1, 275)), (1, (0, x))], [], w10) (fun r w' => r = [] ∧ mq w w') := by
      refine e_Pn.run (t' := (287, [(2, (0, w3 275 78)), (0, (1, 275)), (1, (0, x))], [(0, 0), (0, 42), (1, 275)], w10)) eAlk 3 rfl ?_
      refine e_Pn.callA rfl (fun n9 d9 => u_336 (q11.rf hR)) (fun r169 w170 h168 => ?_)
      obtain ⟨⟨z171, rfl⟩, h168⟩ := h168
      have q172 := q11.tr h168
      show e_Pn 20 elay ecode eI n d 349 (290, [(2, (0, w3 275 78)), (0, (1, 275)), (1, (0, x))], [(0, z171)], w170) _
      refine e_Pn.run (t' := (399, [(2, (0, w3 275 78)), (0, (1, 275)), (1, (0, x))], [(0, 59), (1, 275), (1, 275)], w170)) eAlk 5 rfl ?_
      refine e_Pn.callA rfl (fun n9 d9 => u_331 (q172.rf hR)) (fun r174 w175 h173 => ?_)
      obtain ⟨⟨z176, rfl⟩, h173⟩ := h173
      have q177 := q172.tr h173
      show e_Pn 20 elay ecode eI n d 349 (402, [(2, (0, w3 275 78)), (0, (1, 275)), (1, (0, x))], [(0, z176), (1, 275)], w175) _
      refine e_Pn.callA rfl (fun n9 d9 => u_334 (q177.rf hR)) (fun r179 w180 h178 => ?_)
      obtain ⟨rfl, h178⟩ := h178
      have q181 := q177.tr h178
      show e_Pn 20 elay ecode eI n d 349 (405, [(2, (0, w3 275 78)), (0, (1, 275)), (1, (0, x))], [], w180) _
      exact e_Pn.ret0 rfl ⟨rfl, q181⟩
    have a294 : e_Pn 20 elay ecode eI n d 349 (294, [(2, (0, w3 275 78)), (0, (1, 275)), (1, (0, x))], [], w10) (fun r w' => r = [] ∧ mq w w') := by
      refine e_Pn.run (t' := (298, [(2, (0, w3 275 78)), (0, (1, 275)), (1, (0, x))], [(0, 0), (0, 43), (1, 275)], w10)) eAlk 3 rfl ?_
      refine e_Pn.callA rfl (fun n9 d9 => u_336 (q11.rf hR)) (fun r183 w184 h182 => ?_)
      obtain ⟨⟨z185, rfl⟩, h182⟩ := h182
      have q186 := q11.tr h182
      show e_Pn 20 elay ecode eI n d 349 (301, [(2, (0, w3 275 78)), (0, (1, 275)), (1, (0, x))], [(0, z185)], w184) _
      refine e_Pn.run (t' := (399, [(2, (0, w3 275 78)), (0, (1, 275)), (1, (0, x))], [(0, 59), (1, 275), (1, 275)], w184)) eAlk 5 rfl ?_
      refine e_Pn.callA rfl (fun n9 d9 => u_331 (q186.rf hR)) (fun r188 w189 h187 => ?_)
      obtain ⟨⟨z190, rfl⟩, h187⟩ := h187
      have q191 := q186.tr h187
      show e_Pn 20 elay ecode eI n d 349 (402, [(2, (0, w3 275 78)), (0, (1, 275)), (1, (0, x))], [(0, z190), (1, 275)], w189) _
      refine e_Pn.callA rfl (fun n9 d9 => u_334 (q191.rf hR)) (fun r193 w194 h192 => ?_)
      obtain ⟨rfl, h192⟩ := h192
      have q195 := q191.tr h192
      show e_Pn 20 elay ecode eI n d 349 (405, [(2, (0, w3 275 78)), (0, (1, 275)), (1, (0, x))], [], w194) _
      exact e_Pn.ret0 rfl ⟨rfl, q195⟩
    have a305 : e_Pn 20 elay ecode eI n d 349 (305, [(2, (0, w3 275 78)), (0, (1, 275)), (1, (0, x))], [], w10) (fun r w' => r = [] ∧ mq w w') := by
      refine e_Pn.run (t' := (309, [(2, (0, w3 275 78)), (0, (1, 275)), (1, (0, x))], [(0, 0), (0, 45), (1, 275)], w10)) eAlk 3 rfl ?_
      refine e_Pn.callA rfl (fun n9 d9 => u_336 (q11.rf hR)) (fun r197 w198 h196 => ?_)
      obtain ⟨⟨z199, rfl⟩, h196⟩ := h196
      have q200 := q11.tr h196
      show e_Pn 20 elay ecode eI n d 349 (312, [(2, (0, w3 275 78)), (0, (1, 275)), (1, (0, x))], [(0, z199)], w198) _
      refine e_Pn.run (t' := (399, [(2, (0, w3 275 78)), (0, (1, 275)), (1, (0, x))], [(0, 59), (1, 275), (1, 275)], w198)) eAlk 5 rfl ?_
      refine e_Pn.callA rfl (fun n9 d9 => u_331 (q200.rf hR)) (fun r202 w203 h201 => ?_)
      obtain ⟨⟨z204, rfl⟩, h201⟩ := h201
      have q205 := q200.tr h201
      show e_Pn 20 elay ecode eI n d 349 (402, [(2, (0, w3 275 78)), (0, (1, 275)), (1, (0, x))], [(0, z204), (1, 275)], w203) _
      refine e_Pn.callA rfl (fun n9 d9 => u_334 (q205.rf hR)) (fun r207 w208 h206 => ?_)
      obtain ⟨rfl, h206⟩ := h206
      have q209 := q205.tr h206
      show e_Pn 20 elay ecode eI n d 349 (405, [(2, (0, w3 275 78)), (0, (1, 275)), (1, (0, x))], [], w208) _
      exact e_Pn.ret0 rfl ⟨rfl, q209⟩
    have a316 : e_Pn 20 elay ecode eI n d 349 (316, [(2, (0, w3 275 78)), (0, (1, 275)), (1, (0, x))], [], w10) (fun r w' => r = [] ∧ mq w w') := by
      refine e_Pn.run (t' := (320, [(2, (0, w3 275 78)), (0, (1, 275)), (1, (0, x))], [(1, 275), (0, 46), (1, 275)], w10)) eAlk 3 rfl ?_
      refine e_Pn.getf (z := w10 275 82) eAlk rfl rfl rfl (fun b210 => ?_)
      refine e_Pn.callA rfl (fun n9 d9 => u_336 (q11.rf hR)) (fun r212 w213 h211 => ?_)
      obtain ⟨⟨z214, rfl⟩, h211⟩ := h211
      have q215 := q11.tr h211
      show e_Pn 20 elay ecode eI n d 349 (326, [(2, (0, w3 275 78)), (0, (1, 275)), (1, (0, x))], [(0, z214)], w213) _
      refine e_Pn.run (t' := (399, [(2, (0, w3 275 78)), (0, (1, 275)), (1, (0, x))], [(0, 59), (1, 275), (1, 275)], w213)) eAlk 5 rfl ?_
      refine e_Pn.callA rfl (fun n9 d9 => u_331 (q215.rf hR)) (fun r217 w218 h216 => ?_)
      obtain ⟨⟨z219, rfl⟩, h216⟩ := h216
      have q220 := q215.tr h216
      show e_Pn 20 elay ecode eI n d 349 (402, [(2, (0, w3 275 78)), (0, (1, 275)), (1, (0, x))], [(0, z219), (1, 275)], w218) _
      refine e_Pn.callA rfl (fun n9 d9 => u_334 (q220.rf hR)) (fun r222 w223 h221 => ?_)
      obtain ⟨rfl, h221⟩ := h221
      have q224 := q220.tr h221
      show e_Pn 20 elay ecode eI n d 349 (405, [(2, (0, w3 275 78)), (0, (1, 275)), (1, (0, x))], [], w223) _
      exact e_Pn.ret0 rfl ⟨rfl, q224⟩
    have a330 : e_Pn 20 elay ecode eI n d 349 (330, [(2, (0, w3 275 78)), (0, (1, 275)), (1, (0, x))], [], w10) (fun r w' => r = [] ∧ mq w w') := by
      refine e_Pn.run (t' := (331, [(2, (0, w3 275 78)), (0, (1, 275)), (1, (0, x))], [(1, 275)], w10)) eAlk 1 rfl ?_
      refine e_Pn.callA rfl (fun n9 d9 => uE_all n9 339 (by decide) d9 _ (q11.rf hR)) (fun r226 w227 h225 => ?_)
      obtain ⟨rfl, h225⟩ := h225
      have q228 := q11.tr h225
      show e_Pn 20 elay ecode eI n d 349 (334, [(2, (0, w3 275 78)), (0, (1, 275)), (1, (0, x))], [], w227) _
      refine e_Pn.run (t' := (337, [(2, (0, w3 275 78)), (0, (1, 275)), (1, (0, x))], [(0, 4), (0, x), (1, 275)], w227)) eAlk 3 rfl ?_
      refine e_Pn.if2 eAlk rfl (fun h229 => ?_) (fun h229 => ?_)
      · show e_Pn 20 elay ecode eI n d 349 (345, [(2, (0, w3 275 78)), (0, (1, 275)), (1, (0, x))], [(1, 275)], w227) _
        refine e_Pn.run (t' := (347, [(2, (0, w3 275 78)), (0, (1, 275)), (1, (0, x))], [(0, 5), (0, x), (1, 275)], w227)) eAlk 2 rfl ?_
        refine e_Pn.if2 eAlk rfl (fun h230 => ?_) (fun h230 => ?_)
        · show e_Pn 20 elay ecode eI n d 349 (355, [(2, (0, w3 275 78)), (0, (1, 275)), (1, (0, x))], [(1, 275)], w227) _
          refine e_Pn.run (t' := (358, [(2, (0, w3 275 78)), (0, (1, 275)), (1, (0, x))], [(0, 7), (0, x), (1, 275)], w227)) eAlk 2 rfl ?_
          refine e_Pn.if2 eAlk rfl (fun h231 => ?_) (fun h231 => ?_)
          · show e_Pn 20 elay ecode eI n d 349 (366, [(2, (0, w3 275 78)), (0, (1, 275)), (1, (0, x))], [(1, 275)], w227) _
            refine e_Pn.run (t' := (369, [(2, (0, w3 275 78)), (0, (1, 275)), (1, (0, x))], [(0, 8), (0, x), (1, 275)], w227)) eAlk 2 rfl ?_
            refine e_Pn.if2 eAlk rfl (fun h232 => ?_) (fun h232 => ?_)
            · show e_Pn 20 elay ecode eI n d 349 (377, [(2, (0, w3 275 78)), (0, (1, 275)), (1, (0, x))], [(1, 275)], w227) _
              refine e_Pn.run (t' := (380, [(2, (0, w3 275 78)), (0, (1, 275)), (1, (0, x))], [(0, 11), (0, x), (1, 275)], w227)) eAlk 2 rfl ?_
              refine e_Pn.if2 eAlk rfl (fun h233 => ?_) (fun h233 => ?_)
              · show e_Pn 20 elay ecode eI n d 349 (388, [(2, (0, w3 275 78)), (0, (1, 275)), (1, (0, x))], [(1, 275)], w227) _
                refine e_Pn.run (t' := (391, [(2, (0, w3 275 78)), (0, (1, 275)), (1, (0, x))], [(0, w3 275 78), (0, 41), (1, 275)], w227)) eAlk 2 rfl ?_
                refine e_Pn.callA rfl (fun n9 d9 => u_336 (q228.rf hR)) (fun r235 w236 h234 => ?_)
                obtain ⟨⟨z237, rfl⟩, h234⟩ := h234
                have q238 := q228.tr h234
                show e_Pn 20 elay ecode eI n d 349 (394, [(2, (0, w3 275 78)), (0, (1, 275)), (1, (0, x))], [(0, z237)], w236) _
                refine e_Pn.run (t' := (399, [(2, (0, w3 275 78)), (0, (1, 275)), (1, (0, x))], [(0, 59), (1, 275), (1, 275)], w236)) eAlk 4 rfl ?_
                refine e_Pn.callA rfl (fun n9 d9 => u_331 (q238.rf hR)) (fun r240 w241 h239 => ?_)
                obtain ⟨⟨z242, rfl⟩, h239⟩ := h239
                have q243 := q238.tr h239
                show e_Pn 20 elay ecode eI n d 349 (402, [(2, (0, w3 275 78)), (0, (1, 275)), (1, (0, x))], [(0, z242), (1, 275)], w241) _
                refine e_Pn.callA rfl (fun n9 d9 => u_334 (q243.rf hR)) (fun r245 w246 h244 => ?_)
                obtain ⟨rfl, h244⟩ := h244
                have q247 := q243.tr h244
                show e_Pn 20 elay ecode eI n d 349 (405, [(2, (0, w3 275 78)), (0, (1, 275)), (1, (0, x))], [], w246) _
                exact e_Pn.ret0 rfl ⟨rfl, q247⟩
              · show e_Pn 20 elay ecode eI n d 349 (383, [(2, (0, w3 275 78)), (0, (1, 275)), (1, (0, x))], [(1, 275)], w227) _
                refine e_Pn.run (t' := (391, [(2, (0, w3 275 78)), (0, (1, 275)), (1, (0, x))], [(0, w3 275 78), (0, 40), (1, 275)], w227)) eAlk 3 rfl ?_
                refine e_Pn.callA rfl (fun n9 d9 => u_336 (q228.rf hR)) (fun r249 w250 h248 => ?_)
                obtain ⟨⟨z251, rfl⟩, h248⟩ := h248
                have q252 := q228.tr h248
                show e_Pn 20 elay ecode eI n d 349 (394, [(2, (0, w3 275 78)), (0, (1, 275)), (1, (0, x))], [(0, z251)], w250) _
                refine e_Pn.run (t' := (399, [(2, (0, w3 275 78)), (0, (1, 275)), (1, (0, x))], [(0, 59), (1, 275), (1, 275)], w250)) eAlk 4 rfl ?_
                refine e_Pn.callA rfl (fun n9 d9 => u_331 (q252.rf hR)) (fun r254 w255 h253 => ?_)
                obtain ⟨⟨z256, rfl⟩, h253⟩ := h253
                have q257 := q252.tr h253
                show e_Pn 20 elay ecode eI n d 349 (402, [(2, (0, w3 275 78)), (0, (1, 275)), (1, (0, x))], [(0, z256), (1, 275)], w255) _
                refine e_Pn.callA rfl (fun n9 d9 => u_334 (q257.rf hR)) (fun r259 w260 h258 => ?_)
                obtain ⟨rfl, h258⟩ := h258
                have q261 := q257.tr h258
                show e_Pn 20 elay ecode eI n d 349 (405, [(2, (0, w3 275 78)), (0, (1, 275)), (1, (0, x))], [], w260) _
                exact e_Pn.ret0 rfl ⟨rfl, q261⟩
            · show e_Pn 20 elay ecode eI n d 349 (372, [(2, (0, w3 275 78)), (0, (1, 275)), (1, (0, x))], [(1, 275)], w227) _
              refine e_Pn.run (t' := (391, [(2, (0, w3 275 78)), (0, (1, 275)), (1, (0, x))], [(0, w3 275 78), (0, 37), (1, 275)], w227)) eAlk 3 rfl ?_
              refine e_Pn.callA rfl (fun n9 d9 => u_336 (q228.rf hR)) (fun r263 w264 h262 => ?_)
              obtain ⟨⟨z265, rfl⟩, h262⟩ := h262
              have q266 := q228.tr h262
              show e_Pn 20 elay ecode eI n d 349 (394, [(2, (0, w3 275 78)), (0, (1, 275)), (1, (0, x))], [(0, z265)], w264) _
              refine e_Pn.run (t' := (399, [(2, (0, w3 275 78)), (0, (1, 275)), (1, (0, x))], [(0, 59), (1, 275), (1, 275)], w264)) eAlk 4 rfl ?_
              refine e_Pn.callA rfl (fun n9 d9 => u_331 (q266.rf hR)) (fun r268 w269 h267 => ?_)
              obtain ⟨⟨z270, rfl⟩, h267⟩ := h267
              have q271 := q266.tr h267
              show e_Pn 20 elay ecode eI n d 349 (402, [(2, (0, w3 275 78)), (0, (1, 275)), (1, (0, x))], [(0, z270), (1, 275)], w269) _
              refine e_Pn.callA rfl (fun n9 d9 => u_334 (q271.rf hR)) (fun r273 w274 h272 => ?_)
              obtain ⟨rfl, h272⟩ := h272
              have q275 := q271.tr h272
              show e_Pn 20 elay ecode eI n d 349 (405, [(2, (0, w3 275 78)), (0, (1, 275)), (1, (0, x))], [], w274) _
              exact e_Pn.ret0 rfl ⟨rfl, q275⟩
          · show e_Pn 20 elay ecode eI n d 349 (361, [(2, (0, w3 275 78)), (0, (1, 275)), (1, (0, x))], [(1, 275)], w227) _
            refine e_Pn.run (t' := (391, [(2, (0, w3 275 78)), (0, (1, 275)), (1, (0, x))], [(0, w3 275 78), (0, 36), (1, 275)], w227)) eAlk 3 rfl ?_
            refine e_Pn.callA rfl (fun n9 d9 => u_336 (q228.rf hR)) (fun r277 w278 h276 => ?_)
            obtain ⟨⟨z279, rfl⟩, h276⟩ := h276
            have q280 := q228.tr h276
            show e_Pn 20 elay ecode eI n d 349 (394, [(2, (0, w3 275 78)), (0, (1, 275)), (1, (0, x))], [(0, z279)], w278) _
            refine e_Pn.run (t' := (399, [(2, (0, w3 275 78)), (0, (1, 275)), (1, (0, x))], [(0, 59), (1, 275), (1, 275)], w278)) eAlk 4 rfl ?_
            refine e_Pn.callA rfl (fun n9 d9 => u_331 (q280.rf hR)) (fun r282 w283 h281 => ?_)
            obtain ⟨⟨z284, rfl⟩, h281⟩ := h281
            have q285 := q280.tr h281
            show e_Pn 20 elay ecode eI n d 349 (402, [(2, (0, w3 275 78)), (0, (1, 275)), (1, (0, x))], [(0, z284), (1, 275)], w283) _
            refine e_Pn.callA rfl (fun n9 d9 => u_334 (q285.rf hR)) (fun r287 w288 h286 => ?_)
            obtain ⟨rfl, h286⟩ := h286
            have q289 := q285.tr h286
            show e_Pn 20 elay ecode eI n d 349 (405, [(2, (0, w3 275 78)), (0, (1, 275)), (1, (0, x))], [], w288) _
            exact e_Pn.ret0 rfl ⟨rfl, q289⟩
        · show e_Pn 20 elay ecode eI n d 349 (350, [(2, (0, w3 275 78)), (0, (1, 275)), (1, (0, x))], [(1, 275)], w227) _
          refine e_Pn.run (t' := (391, [(2, (0, w3 275 78)), (0, (1, 275)), (1, (0, x))], [(0, w3 275 78), (0, 34), (1, 275)], w227)) eAlk 3 rfl ?_
          refine e_Pn.callA rfl (fun n9 d9 => u_336 (q228.rf hR)) (fun r291 w292 h290 => ?_)
          obtain ⟨⟨z293, rfl⟩, h290⟩ := h290
          have q294 := q228.tr h290
          show e_Pn 20 elay ecode eI n d 349 (394, [(2, (0, w3 275 78)), (0, (1, 275)), (1, (0, x))], [(0, z293)], w292) _
          refine e_Pn.run (t' := (399, [(2, (0, w3 275 78)), (0, (1, 275)), (1, (0, x))], [(0, 59), (1, 275), (1, 275)], w292)) eAlk 4 rfl ?_
          refine e_Pn.callA rfl (fun n9 d9 => u_331 (q294.rf hR)) (fun r296 w297 h295 => ?_)
          obtain ⟨⟨z298, rfl⟩, h295⟩ := h295
          have q299 := q294.tr h295
          show e_Pn 20 elay ecode eI n d 349 (402, [(2, (0, w3 275 78)), (0, (1, 275)), (1, (0, x))], [(0, z298), (1, 275)], w297) _
          refine e_Pn.callA rfl (fun n9 d9 => u_334 (q299.rf hR)) (fun r301 w302 h300 => ?_)
          obtain ⟨rfl, h300⟩ := h300
          have q303 := q299.tr h300
          show e_Pn 20 elay ecode eI n d 349 (405, [(2, (0, w3 275 78)), (0, (1, 275)), (1, (0, x))], [], w302) _
          exact e_Pn.ret0 rfl ⟨rfl, q303⟩
      · show e_Pn 20 elay ecode eI n d 349 (340, [(2, (0, w3 275 78)), (0, (1, 275)), (1, (0, x))], [(1, 275)], w227) _
        refine e_Pn.run (t' := (391, [(2, (0, w3 275 78)), (0, (1, 275)), (1, (0, x))], [(0, w3 275 78), (0, 33), (1, 275)], w227)) eAlk 3 rfl ?_
        refine e_Pn.callA rfl (fun n9 d9 => u_336 (q228.rf hR)) (fun r305 w306 h304 => ?_)
        obtain ⟨⟨z307, rfl⟩, h304⟩ := h304
        have q308 := q228.tr h304
        show e_Pn 20 elay ecode eI n d 349 (394, [(2, (0, w3 275 78)), (0, (1, 275)), (1, (0, x))], [(0, z307)], w306) _
        refine e_Pn.run (t' := (399, [(2, (0, w3 275 78)), (0, (1, 275)), (1, (0, x))], [(0, 59), (1, 275), (1, 275)], w306)) eAlk 4 rfl ?_
        refine e_Pn.callA rfl (fun n9 d9 => u_331 (q308.rf hR)) (fun r310 w311 h309 => ?_)
        obtain ⟨⟨z312, rfl⟩, h309⟩ := h309
        have q313 := q308.tr h309
        show e_Pn 20 elay ecode eI n d 349 (402, [(2, (0, w3 275 78)), (0, (1, 275)), (1, (0, x))], [(0, z312), (1, 275)], w311) _
        refine e_Pn.callA rfl (fun n9 d9 => u_334 (q313.rf hR)) (fun r315 w316 h314 => ?_)
        obtain ⟨rfl, h314⟩ := h314
        have q317 := q313.tr h314
        show e_Pn 20 elay ecode eI n d 349 (405, [(2, (0, w3 275 78)), (0, (1, 275)), (1, (0, x))], [], w316) _
        exact e_Pn.ret0 rfl ⟨rfl, q317⟩
    exact e_Pn.swU eAlk rfl ⟨a330, a148, a330, a330, a195, a330, a330, a224, a239, a330, a330, a283, a294, a254, a305, a316, a330, trivial⟩
  · show e_Pn 20 elay ecode eI n d 349 (19, [(2, (0, w3 275 78)), (0, (1, 275)), (1, (0, x))], [], w3) _
    refine e_Pn.run (t' := (20, [(2, (0, w3 275 78)), (0, (1, 275)), (1, (0, x))], [(1, 275)], w3)) eAlk 1 rfl ?_
    refine e_Pn.getf (z := w3 275 82) eAlk rfl rfl rfl (fun b318 => ?_)
    refine e_Pn.if1 eAlk rfl (fun h319 => ?_) (fun h319 => ?_)
    · show e_Pn 20 elay ecode eI n d 349 (69, [(2, (0, w3 275 78)), (0, (1, 275)), (1, (0, x))], [], w3) _
      refine e_Pn.run (t' := (70, [(2, (0, w3 275 78)), (0, (1, 275)), (1, (0, x))], [(1, 275)], w3)) eAlk 1 rfl ?_
      refine e_Pn.callA rfl (fun n9 d9 => u_327 (q5.rf hR)) (fun r321 w322 h320 => ?_)
      obtain ⟨rfl, h320⟩ := h320
      have q323 := q5.tr h320
      show e_Pn 20 elay ecode eI n d 349 (73, [(2, (0, w3 275 78)), (0, (1, 275)), (1, (0, x))], [], w322) _
      refine e_Pn.run (t' := (74, [(2, (0, w3 275 78)), (0, (1, 275)), (1, (0, x))], [(0, x)], w322)) eAlk 1 rfl ?_
      have a148 : e_Pn 20 elay ecode eI n d 349 (148, [(2, (0, w3 275 78)), (0, (1, 275)), (1, (0, x))], [], w322) (fun r w' => r = [] ∧ mq w w') := by
        refine e_Pn.run (t' := (149, [(2, (0, w3 275 78)), (0, (1, 275)), (1, (0, x))], [(1, 275)], w322)) eAlk 1 rfl ?_
        refine e_Pn.callA rfl (fun n9 d9 => uE_all n9 339 (by decide) d9 _ (q323.rf hR)) (fun r325 w326 h324 => ?_)
        obtain ⟨rfl, h324⟩ := h324
        have q327 := q323.tr h324
        show e_Pn 20 elay ecode eI n d 349 (152, [(2, (0, w3 275 78)), (0, (1, 275)), (1, (0, x))], [], w326) _
        refine e_Pn.run (t' := (154, [(3, (0, 1)), (2, (0, w3 275 78)), (0, (1, 275)), (1, (0, x))], [], w326)) eAlk 2 rfl ?_
        have hL328 : ∀ nn330 : Nat, nn330 ≤ n → ∀ (tl331 : eL) (y334 : Int) (y335 : Int) (y336 : Int) (w332 : eW), mq w w332 → e_Pn 20 elay ecode eI nn330 d 349 (154, (0, (1, 275)) :: (1, (0, y334)) :: (2, (0, y335)) :: (3, (0, y336)) :: tl331, [], w332) (fun r w' => r = [] ∧ mq w w') := by
          intro nn330
          induction nn330 with
          | zero => intro _ tl331 y334 y335 y336 w332 _; exact e_Pn.zero
          | succ nn330 ih329 =>
            intro hnnn330 tl331 y334 y335 y336 w332 q333
            refine e_Pn.runS (t' := (155, (0, (1, 275)) :: (1, (0, y334)) :: (2, (0, y335)) :: (3, (0, y336)) :: tl331, [(1, 275)], w332)) eAlk 0 rfl ?_
            refine e_Pn.getf (z := w332 275 88) eAlk rfl rfl rfl (fun b337 => ?_)
            refine e_Pn.if1 eAlk rfl (fun h338 => ?_) (fun h338 => ?_)
            · show e_Pn 20 elay ecode eI nn330 d 349 (184, (0, (1, 275)) :: (1, (0, y334)) :: (2, (0, y335)) :: (3, (0, y336)) :: tl331, [], w332) _
              refine e_Pn.run (t' := (188, (0, (1, 275)) :: (1, (0, y334)) :: (2, (0, y335)) :: (3, (0, y336)) :: tl331, [(0, y336), (0, 32), (1, 275)], w332)) eAlk 3 rfl ?_
              refine e_Pn.callA rfl (fun n9 d9 => u_336 (q333.rf hR)) (fun r340 w341 h339 => ?_)
              obtain ⟨⟨z342, rfl⟩, h339⟩ := h339
              have q343 := q333.tr h339
              show e_Pn 20 elay ecode eI nn330 d 349 (191, (0, (1, 275)) :: (1, (0, y334)) :: (2, (0, y335)) :: (3, (0, y336)) :: tl331, [(0, z342)], w341) _
              refine e_Pn.run (t' := (399, (0, (1, 275)) :: (1, (0, y334)) :: (2, (0, y335)) :: (3, (0, y336)) :: tl331, [(0, 59), (1, 275), (1, 275)], w341)) eAlk 5 rfl ?_
              refine e_Pn.callA rfl (fun n9 d9 => u_331 (q343.rf hR)) (fun r345 w346 h344 => ?_)
              obtain ⟨⟨z347, rfl⟩, h344⟩ := h344
              have q348 := q343.tr h344
              show e_Pn 20 elay ecode eI nn330 d 349 (402, (0, (1, 275)) :: (1, (0, y334)) :: (2, (0, y335)) :: (3, (0, y336)) :: tl331, [(0, z347), (1, 275)], w346) _
              refine e_Pn.callA rfl (fun n9 d9 => u_334 (q348.rf hR)) (fun r350 w351 h349 => ?_)
              obtain ⟨rfl, h349⟩ := h349
              have q352 := q348.tr h349
              show e_Pn 20 elay ecode eI nn330 d 349 (405, (0, (1, 275)) :: (1, (0, y334)) :: (2, (0, y335)) :: (3, (0, y336)) :: tl331, [], w351) _
              exact e_Pn.ret0 rfl ⟨rfl, q352⟩
            · show e_Pn 20 elay ecode eI nn330 d 349 (161, (0, (1, 275)) :: (1, (0, y334)) :: (2, (0, y335)) :: (3, (0, y336)) :: tl331, [], w332) _
              refine e_Pn.run (t' := (164, (0, (1, 275)) :: (1, (0, y334)) :: (2, (0, y335)) :: (3, (0, y336)) :: tl331, [(0, 44), (1, 275)], w332)) eAlk 2 rfl ?_
              refine e_Pn.callA rfl (fun n9 d9 => u_331 (q333.rf hR)) (fun r354 w355 h353 => ?_)
              obtain ⟨⟨z356, rfl⟩, h353⟩ := h353
              have q357 := q333.tr h353
              show e_Pn 20 elay ecode eI nn330 d 349 (167, (0, (1, 275)) :: (1, (0, y334)) :: (2, (0, y335)) :: (3, (0, y336)) :: tl331, [(0, z356)], w355) _
              refine e_Pn.if1 eAlk rfl (fun h358 => ?_) (fun h358 => ?_)
              · show e_Pn 20 elay ecode eI nn330 d 349 (184, (0, (1, 275)) :: (1, (0, y334)) :: (2, (0, y335)) :: (3, (0, y336)) :: tl331, [], w355) _
                refine e_Pn.run (t' := (188, (0, (1, 275)) :: (1, (0, y334)) :: (2, (0, y335)) :: (3, (0, y336)) :: tl331, [(0, y336), (0, 32), (1, 275)], w355)) eAlk 3 rfl ?_
                refine e_Pn.callA rfl (fun n9 d9 => u_336 (q357.rf hR)) (fun r360 w361 h359 => ?_)
                obtain ⟨⟨z362, rfl⟩, h359⟩ := h359
                have q363 := q357.tr h359
                show e_Pn 20 elay ecode eI nn330 d 349 (191, (0, (1, 275)) :: (1, (0, y334)) :: (2, (0, y335)) :: (3, (0, y336)) :: tl331, [(0, z362)], w361) _
                refine e_Pn.run (t' := (399, (0, (1, 275)) :: (1, (0, y334)) :: (2, (0, y335)) :: (3, (0, y336)) :: tl331, [(0, 59), (1, 275), (1, 275)], w361)) eAlk 5 rfl ?_
                refine e_Pn.callA rfl (fun n9 d9 => u_331 (q363.rf hR)) (fun r365 w366 h364 => ?_)
                obtain ⟨⟨z367, rfl⟩, h364⟩ := h364
                have q368 := q363.tr h364
                show e_Pn 20 elay ecode eI nn330 d 349 (402, (0, (1, 275)) :: (1, (0, y334)) :: (2, (0, y335)) :: (3, (0, y336)) :: tl331, [(0, z367), (1, 275)], w366) _
                refine e_Pn.callA rfl (fun n9 d9 => u_334 (q368.rf hR)) (fun r370 w371 h369 => ?_)
                obtain ⟨rfl, h369⟩ := h369
                have q372 := q368.tr h369
                show e_Pn 20 elay ecode eI nn330 d 349 (405, (0, (1, 275)) :: (1, (0, y334)) :: (2, (0, y335)) :: (3, (0, y336)) :: tl331, [], w371) _
                exact e_Pn.ret0 rfl ⟨rfl, q372⟩
              · show e_Pn 20 elay ecode eI nn330 d 349 (170, (0, (1, 275)) :: (1, (0, y334)) :: (2, (0, y335)) :: (3, (0, y336)) :: tl331, [], w355) _
                refine e_Pn.run (t' := (171, (0, (1, 275)) :: (1, (0, y334)) :: (2, (0, y335)) :: (3, (0, y336)) :: tl331, [(1, 275)], w355)) eAlk 1 rfl ?_
                refine e_Pn.callA rfl (fun n9 d9 => u_327 (q357.rf hR)) (fun r374 w375 h373 => ?_)
                obtain ⟨rfl, h373⟩ := h373
                have q376 := q357.tr h373
                show e_Pn 20 elay ecode eI nn330 d 349 (174, (0, (1, 275)) :: (1, (0, y334)) :: (2, (0, y335)) :: (3, (0, y336)) :: tl331, [], w375) _
                refine e_Pn.run (t' := (175, (0, (1, 275)) :: (1, (0, y334)) :: (2, (0, y335)) :: (3, (0, y336)) :: tl331, [(1, 275)], w375)) eAlk 1 rfl ?_
                refine e_Pn.callA rfl (fun n9 d9 => uE_all n9 339 (by decide) d9 _ (q376.rf hR)) (fun r378 w379 h377 => ?_)
                obtain ⟨rfl, h377⟩ := h377
                have q380 := q376.tr h377
                show e_Pn 20 elay ecode eI nn330 d 349 (178, (0, (1, 275)) :: (1, (0, y334)) :: (2, (0, y335)) :: (3, (0, y336)) :: tl331, [], w379) _
                refine e_Pn.incU eAlk rfl rfl (fun z381 => ?_)
                show e_Pn 20 elay ecode eI nn330 d 349 (181, (3, (0, z381)) :: (0, (1, 275)) :: (1, (0, y334)) :: (2, (0, y335)) :: List.filter (e_flt 0 3) tl331, [], w379) _
                refine e_Pn.run (t' := (154, (3, (0, z381)) :: (0, (1, 275)) :: (1, (0, y334)) :: (2, (0, y335)) :: List.filter (e_flt 0 3) tl331, [], w379)) eAlk 1 rfl ?_
                exact e_Pn.ord eAlk [0, 1, 2, 3] rfl rfl ((ih329 (by omega) _ y334 y335 z381 w379 q380).le (by omega))
        exact e_Pn.ord eAlk [0, 1, 2, 3] rfl rfl (hL328 n (Nat.le_refl _) _ x (w3 275 78) 1 w326 q327)
      have a195 : e_Pn 20 elay ecode eI n d 349 (195, [(2, (0, w3 275 78)), (0, (1, 275)), (1, (0, x))], [], w322) (fun r w' => r = [] ∧ mq w w') := by
        refine e_Pn.run (t' := (196, [(2, (0, w3 275 78)), (0, (1, 275)), (1, (0, x))], [(1, 275)], w322)) eAlk 1 rfl ?_
        refine e_Pn.callA rfl (fun n9 d9 => uE_all n9 339 (by decide) d9 _ (q323.rf hR)) (fun r383 w384 h382 => ?_)
        obtain ⟨rfl, h382⟩ := h382
        have q385 := q323.tr h382
        show e_Pn 20 elay ecode eI n d 349 (199, [(2, (0, w3 275 78)), (0, (1, 275)), (1, (0, x))], [], w384) _
        refine e_Pn.run (t' := (203, [(2, (0, w3 275 78)), (0, (1, 275)), (1, (0, x))], [(0, 44), (1, 275), (1, 275)], w384)) eAlk 3 rfl ?_
        refine e_Pn.callA rfl (fun n9 d9 => u_331 (q385.rf hR)) (fun r387 w388 h386 => ?_)
        obtain ⟨⟨z389, rfl⟩, h386⟩ := h386
        have q390 := q385.tr h386
        show e_Pn 20 elay ecode eI n d 349 (206, [(2, (0, w3 275 78)), (0, (1, 275)), (1, (0, x))], [(0, z389), (1, 275)], w388) _
        refine e_Pn.callA rfl (fun n9 d9 => u_334 (q390.rf hR)) (fun r392 w393 h391 => ?_)
        obtain ⟨rfl, h391⟩ := h391
        have q394 := q390.tr h391
        show e_Pn 20 elay ecode eI n d 349 (209, [(2, (0, w3 275 78)), (0, (1, 275)), (1, (0, x))], [], w393) _
        refine e_Pn.run (t' := (210, [(2, (0, w3 275 78)), (0, (1, 275)), (1, (0, x))], [(1, 275)], w393)) eAlk 1 rfl ?_
        refine e_Pn.callA rfl (fun n9 d9 => uE_all n9 339 (by decide) d9 _ (q394.rf hR)) (fun r396 w397 h395 => ?_)
        obtain ⟨rfl, h395⟩ := h395
        have q398 := q394.tr h395
        show e_Pn 20 elay ecode eI n d 349 (213, [(2, (0, w3 275 78)), (0, (1, 275)), (1, (0, x))], [], w397) _
        refine e_Pn.run (t' := (217, [(2, (0, w3 275 78)), (0, (1, 275)), (1, (0, x))], [(0, 0), (0, 35), (1, 275)], w397)) eAlk 3 rfl ?_
        refine e_Pn.callA rfl (fun n9 d9 => u_336 (q398.rf hR)) (fun r400 w401 h399 => ?_)
        obtain ⟨⟨z402, rfl⟩, h399⟩ := h399
        have q403 := q398.tr h399
        show e_Pn 20 elay ecode eI n d 349 (220, [(2, (0, w3 275 78)), (0, (1, 275)), (1, (0, x))], [(0, z402)], w401) _
        refine e_Pn.run (t' := (399, [(2, (0, w3 275 78)), (0, (1, 275)), (1, (0, x))], [(0, 59), (1, 275), (1, 275)], w401)) eAlk 5 rfl ?_
        refine e_Pn.callA rfl (fun n9 d9 => u_331 (q403.rf hR)) (fun r405 w406 h404 => ?_)
        obtain ⟨⟨z407, rfl⟩, h404⟩ := h404
        have q408 := q403.tr h404
        show e_Pn 20 elay ecode eI n d 349 (402, [(2, (0, w3 275 78)), (0, (1, 275)), (1, (0, x))], [(0, z407), (1, 275)], w406) _
        refine e_Pn.callA rfl (fun n9 d9 => u_334 (q408.rf hR)) (fun r410 w411 h409 => ?_)
        obtain ⟨rfl, h409⟩ := h409
        have q412 := q408.tr h409
        show e_Pn 20 elay ecode eI n d 349 (405, [(2, (0, w3 275 78)), (0, (1, 275)), (1, (0, x))], [], w411) _
        exact e_Pn.ret0 rfl ⟨rfl, q412⟩
      have a224 : e_Pn 20 elay ecode eI n d 349 (224, [(2, (0, w3 275 78)), (0, (1, 275)), (1, (0, x))], [], w322) (fun r w' => r = [] ∧ mq w w') := by
        refine e_Pn.run (t' := (230, [(2, (0, w3 275 78)), (0, (1, 275)), (1, (0, x))], [(0, 0), (0, 38), (1, 275), (0, 3), (1, 275)], w322)) eAlk 5 rfl ?_
        refine e_Pn.callA rfl (fun n9 d9 => u_336 (q323.rf hR)) (fun r414 w415 h413 => ?_)
        obtain ⟨⟨z416, rfl⟩, h413⟩ := h413
        have q417 := q323.tr h413
        show e_Pn 20 elay ecode eI n d 349 (233, [(2, (0, w3 275 78)), (0, (1, 275)), (1, (0, x))], [(0, z416), (0, 3), (1, 275)], w415) _
        refine e_Pn.callA rfl (fun n9 d9 => u_338 (q417.rf hR)) (fun r419 w420 h418 => ?_)
        obtain ⟨rfl, h418⟩ := h418
        have q421 := q417.tr h418
        show e_Pn 20 elay ecode eI n d 349 (236, [(2, (0, w3 275 78)), (0, (1, 275)), (1, (0, x))], [], w420) _
        refine e_Pn.run (t' := (399, [(2, (0, w3 275 78)), (0, (1, 275)), (1, (0, x))], [(0, 59), (1, 275), (1, 275)], w420)) eAlk 4 rfl ?_
        refine e_Pn.callA rfl (fun n9 d9 => u_331 (q421.rf hR)) (fun r423 w424 h422 => ?_)
        obtain ⟨⟨z425, rfl⟩, h422⟩ := h422
        have q426 := q421.tr h422
        show e_Pn 20 elay ecode eI n d 349 (402, [(2, (0, w3 275 78)), (0, (1, 275)), (1, (0, x))], [(0, z425), (1, 275)], w424) _
        refine e_Pn.callA rfl (fun n9 d9 => u_334 (q426.rf hR)) (fun r428 w429 h427 => ?_)
        obtain ⟨rfl, h427⟩ := h427
        have q430 := q426.tr h427
        show e_Pn 20 elay ecode eI n d 349 (405, [(2, (0, w3 275 78)), (0, (1, 275)), (1, (0, x))], [], w429) _
        exact e_Pn.ret0 rfl ⟨rfl, q430⟩
      have a239 : e_Pn 20 elay ecode eI n d 349 (239, [(2, (0, w3 275 78)), (0, (1, 275)), (1, (0, x))], [], w322) (fun r w' => r = [] ∧ mq w w') := by
        refine e_Pn.run (t' := (245, [(2, (0, w3 275 78)), (0, (1, 275)), (1, (0, x))], [(0, 0), (0, 39), (1, 275), (0, 3), (1, 275)], w322)) eAlk 5 rfl ?_
        refine e_Pn.callA rfl (fun n9 d9 => u_336 (q323.rf hR)) (fun r432 w433 h431 => ?_)
        obtain ⟨⟨z434, rfl⟩, h431⟩ := h431
        have q435 := q323.tr h431
        show e_Pn 20 elay ecode eI n d 349 (248, [(2, (0, w3 275 78)), (0, (1, 275)), (1, (0, x))], [(0, z434), (0, 3), (1, 275)], w433) _
        refine e_Pn.callA rfl (fun n9 d9 => u_338 (q435.rf hR)) (fun r437 w438 h436 => ?_)
        obtain ⟨rfl, h436⟩ := h436
        have q439 := q435.tr h436
        show e_Pn 20 elay ecode eI n d 349 (251, [(2, (0, w3 275 78)), (0, (1, 275)), (1, (0, x))], [], w438) _
        refine e_Pn.run (t' := (399, [(2, (0, w3 275 78)), (0, (1, 275)), (1, (0, x))], [(0, 59), (1, 275), (1, 275)], w438)) eAlk 4 rfl ?_
        refine e_Pn.callA rfl (fun n9 d9 => u_331 (q439.rf hR)) (fun r441 w442 h440 => ?_)
        obtain ⟨⟨z443, rfl⟩, h440⟩ := h440
        have q444 := q439.tr h440
        show e_Pn 20 elay ecode eI n d 349 (402, [(2, (0, w3 275 78)), (0, (1, 275)), (1, (0, x))], [(0, z443), (1, 275)], w442) _
        refine e_Pn.callA rfl (fun n9 d9 => u_334 (q444.rf hR)) (fun r446 w447 h445 => ?_)
        obtain ⟨rfl, h445⟩ := h445
        have q448 := q444.tr h445
        show e_Pn 20 elay ecode eI n d 349 (405, [(2, (0, w3 275 78)), (0, (1, 275)), (1, (0, x))], [], w447) _
        exact e_Pn.ret0 rfl ⟨rfl, q448⟩
      have a254 : e_Pn 20 elay ecode eI n d 349 (254, [(2, (0, w3 275 78)), (0, (1, 275)), (1, (0, x))], [], w322) (fun r w' => r = [] ∧ mq w w') := by
        refine e_Pn.run (t' := (255, [(2, (0, w3 275 78)), (0, (1, 275)), (1, (0, x))], [(1, 275)], w322)) eAlk 1 rfl ?_
        refine e_Pn.callA rfl (fun n9 d9 => uE_all n9 339 (by decide) d9 _ (q323.rf hR)) (fun r450 w451 h449 => ?_)
        obtain ⟨rfl, h449⟩ := h449
        have q452 := q323.tr h449
        show e_Pn 20 elay ecode eI n d 349 (258, [(2, (0, w3 275 78)), (0, (1, 275)), (1, (0, x))], [], w451) _
        refine e_Pn.run (t' := (262, [(2, (0, w3 275 78)), (0, (1, 275)), (1, (0, x))], [(0, 44), (1, 275), (1, 275)], w451)) eAlk 3 rfl ?_
        refine e_Pn.callA rfl (fun n9 d9 => u_331 (q452.rf hR)) (fun r454 w455 h453 => ?_)
        obtain ⟨⟨z456, rfl⟩, h453⟩ := h453
        have q457 := q452.tr h453
        show e_Pn 20 elay ecode eI n d 349 (265, [(2, (0, w3 275 78)), (0, (1, 275)), (1, (0, x))], [(0, z456), (1, 275)], w455) _
        refine e_Pn.callA rfl (fun n9 d9 => u_334 (q457.rf hR)) (fun r459 w460 h458 => ?_)
        obtain ⟨rfl, h458⟩ := h458
        have q461 := q457.tr h458
        show e_Pn 20 elay ecode eI n d 349 (268, [(2, (0, w3 275 78)), (0, (1, 275)), (1, (0, x))], [], w460) _
        refine e_Pn.run (t' := (274, [(2, (0, w3 275 78)), (0, (1, 275)), (1, (0, x))], [(0, 0), (0, 44), (1, 275), (0, 3), (1, 275)], w460)) eAlk 5 rfl ?_
        refine e_Pn.callA rfl (fun n9 d9 => u_336 (q461.rf hR)) (fun r463 w464 h462 => ?_)
        obtain ⟨⟨z465, rfl⟩, h462⟩ := h462
        have q466 := q461.tr h462
        show e_Pn 20 elay ecode eI n d 349 (277, [(2, (0, w3 275 78)), (0, (1, 275)), (1, (0, x))], [(0, z465), (0, 3), (1, 275)], w464) _
        refine e_Pn.callA rfl (fun n9 d9 => u_338 (q466.rf hR)) (fun r468 w469 h467 => ?_)
        obtain ⟨rfl, h467⟩ := h467
        have q470 := q466.tr h467
        show e_Pn 20 elay ecode eI n d 349 (280, [(2, (0, w3 275 78)), (0, (1, 275)), (1, (0, x))], [], w469) _
        refine e_Pn.run (t' := (399, [(2, (0, w3 275 78)), (0, (1, 275)), (1, (0, x))], [(0, 59), (1, 275), (1, 275)], w469)) eAlk 4 rfl ?_
        refine e_Pn.callA rfl (fun n9 d9 => u_331 (q470.rf hR)) (fun r472 w473 h471 => ?_)
        obtain ⟨⟨z474, rfl⟩, h471⟩ := h471
        have q475 := q470.tr h471
        show e_Pn 20 elay ecode eI n d 349 (402, [(2, (0, w3 275 78)), (0, (1, 275)), (1, (0, x))], [(0, z474), (1, 275)], w473) _
        refine e_Pn.callA rfl (fun n9 d9 => u_334 (q475.rf hR)) (fun r477 w478 h476 => ?_)
        obtain ⟨rfl, h476⟩ := h476
        have q479 := q475.tr h476
        show e_Pn 20 elay ecode eI n d 349 (405, [(2, (0, w3 275 78)), (0, (1, 275)), (1, (0, x))], [], w478) _
        exact e_Pn.ret0 rfl ⟨rfl, q479⟩
      have a283 : e_Pn 20 elay ecode eI n d 349 (283, [(2, (0, w3 275 78)), (0, (1, 275)), (1, (0, x))], [], w322) (fun r w' => r = [] ∧ mq w w') := by
        refine e_Pn.run (t' := (287, [(2, (0, w3 275 78)), (0, (1, 275)), (1, (0, x))], [(0, 0), (0, 42), (1, 275)], w322)) eAlk 3 rfl ?_
        refine e_Pn.callA rfl (fun n9 d9 => u_336 (q323.rf hR)) (fun r481 w482 h480 => ?_)
        obtain ⟨⟨z483, rfl⟩, h480⟩ := h480
        have q484 := q323.tr h480
        show e_Pn 20 elay ecode eI n d 349 (290, [(2, (0, w3 275 78)), (0, (1, 275)), (1, (0, x))], [(0, z483)], w482) _
        refine e_Pn.run (t' := (399, [(2, (0, w3 275 78)), (0, (1, 275)), (1, (0, x))], [(0, 59), (1, 275), (1, 275)], w482)) eAlk 5 rfl ?_
        refine e_Pn.callA rfl (fun n9 d9 => u_331 (q484.rf hR)) (fun r486 w487 h485 => ?_)
        obtain ⟨⟨z488, rfl⟩, h485⟩ := h485
        have q489 := q484.tr h485
        show e_Pn 20 elay ecode eI n d 349 (402, [(2, (0, w3 275 78)), (0, (1, 275)), (1, (0, x))], [(0, z488), (1, 275)], w487) _
        refine e_Pn.callA rfl (fun n9 d9 => u_334 (q489.rf hR)) (fun r491 w492 h490 => ?_)
        obtain ⟨rfl, h490⟩ := h490
        have q493 := q489.tr h490
        show e_Pn 20 elay ecode eI n d 349 (405, [(2, (0, w3 275 78)), (0, (1, 275)), (1, (0, x))], [], w492) _
        exact e_Pn.ret0 rfl ⟨rfl, q493⟩
      have a294 : e_Pn 20 elay ecode eI n d 349 (294, [(2, (0, w3 275 78)), (0, (1, 275)), (1, (0, x))], [], w322) (fun r w' => r = [] ∧ mq w w') := by
        refine e_Pn.run (t' := (298, [(2, (0, w3 275 78)), (0, (1, 275)), (1, (0, x))], [(0, 0), (0, 43), (1, 275)], w322)) eAlk 3 rfl ?_
        refine e_Pn.callA rfl (fun n9 d9 => u_336 (q323.rf hR)) (fun r495 w496 h494 => ?_)
        obtain ⟨⟨z497, rfl⟩, h494⟩ := h494
        have q498 := q323.tr h494
        show e_Pn 20 elay ecode eI n d 349 (301, [(2, (0, w3 275 78)), (0, (1, 275)), (1, (0, x))], [(0, z497)], w496) _
        refine e_Pn.run (t' := (399, [(2, (0, w3 275 78)), (0, (1, 275)), (1, (0, x))], [(0, 59), (1, 275), (1, 275)], w496)) eAlk 5 rfl ?_
        refine e_Pn.callA rfl (fun n9 d9 => u_331 (q498.rf hR)) (fun r500 w501 h499 => ?_)
        obtain ⟨⟨z502, rfl⟩, h499⟩ := h499
        have q503 := q498.tr h499
        show e_Pn 20 elay ecode eI n d 349 (402, [(2, (0, w3 275 78)), (0, (1, 275)), (1, (0, x))], [(0, z502), (1, 275)], w501) _
        refine e_Pn.callA rfl (fun n9 d9 => u_334 (q503.rf hR)) (fun r505 w506 h504 => ?_)
        obtain ⟨rfl, h504⟩ := h504
        have q507 := q503.tr h504
        show e_Pn 20 elay ecode eI n d 349 (405, [(2, (0, w3 275 78)), (0, (1, 275)), (1, (0, x))], [], w506) _
        exact e_Pn.ret0 rfl ⟨rfl, q507⟩
      have a305 : e_Pn 20 elay ecode eI n d 349 (305, [(2, (0, w3 275 78)), (0, (1, 275)), (1, (0, x))], [], w322) (fun r w' => r = [] ∧ mq w w') := by
        refine e_Pn.run (t' := (309, [(2, (0, w3 275 78)), (0, (1, 275)), (1, (0, x))], [(0, 0), (0, 45), (1, 275)], w322)) eAlk 3 rfl ?_
        refine e_Pn.callA rfl (fun n9 d9 => u_336 (q323.rf hR)) (fun r509 w510 h508 => ?_)
        obtain ⟨⟨z511, rfl⟩, h508⟩ := h508
        have q512 := q323.tr h508
        show e_Pn 20 elay ecode eI n d 349 (312, [(2, (0, w3 275 78)), (0, (1, 275)), (1, (0, x))], [(0, z511)], w510) _
        refine e_Pn.run (t' := (399, [(2, (0, w3 275 78)), (0, (1, 275)), (1, (0, x))], [(0, 59), (1, 275), (1, 275)], w510)) eAlk 5 rfl ?_
        refine e_Pn.callA rfl (fun n9 d9 => u_331 (q512.rf hR)) (fun r514 w515 h513 => ?_)
        obtain ⟨⟨z516, rfl⟩, h513⟩ := h513
        have q517 := q512.tr h513
        show e_Pn 20 elay ecode eI n d 349 (402, [(2, (0, w3 275 78)), (0, (1, 275)), (1, (0, x))], [(0, z516), (1, 275)], w515) _
        refine e_Pn.callA rfl (fun n9 d9 => u_334 (q517.rf hR)) (fun r519 w520 h518 => ?_)
        obtain ⟨rfl, h518⟩ := h518
        have q521 := q517.tr h518
        show e_Pn 20 elay ecode eI n d 349 (405, [(2, (0, w3 275 78)), (0, (1, 275)), (1, (0, x))], [], w520) _
        exact e_Pn.ret0 rfl ⟨rfl, q521⟩
      have a316 : e_Pn 20 elay ecode eI n d 349 (316, [(2, (0, w3 275 78)), (0, (1, 275)), (1, (0, x))], [], w322) (fun r w' => r = [] ∧ mq w w') := by
        refine e_Pn.run (t' := (320, [(2, (0, w3 275 78)), (0, (1, 275)), (1, (0, x))], [(1, 275), (0, 46), (1, 275)], w322)) eAlk 3 rfl ?_
        refine e_Pn.getf (z := w322 275 82) eAlk rfl rfl rfl (fun b522 => ?_)
        refine e_Pn.callA rfl (fun n9 d9 => u_336 (q323.rf hR)) (fun r524 w525 h523 => ?_)
        obtain ⟨⟨z526, rfl⟩, h523⟩ := h523
        have q527 := q323.tr h523
        show e_Pn 20 elay ecode eI n d 349 (326, [(2, (0, w3 275 78)), (0, (1, 275)), (1, (0, x))], [(0, z526)], w525) _
        refine e_Pn.run (t' := (399, [(2, (0, w3 275 78)), (0, (1, 275)), (1, (0, x))], [(0, 59), (1, 275), (1, 275)], w525)) eAlk 5 rfl ?_
        refine e_Pn.callA rfl (fun n9 d9 => u_331 (q527.rf hR)) (fun r529 w530 h528 => ?_)
        obtain ⟨⟨z531, rfl⟩, h528⟩ := h528
        have q532 := q527.tr h528
        show e_Pn 20 elay ecode eI n d 349 (402, [(2, (0, w3 275 78)), (0, (1, 275)), (1, (0, x))], [(0, z531), (1, 275)], w530) _
        refine e_Pn.callA rfl (fun n9 d9 => u_334 (q532.rf hR)) (fun r534 w535 h533 => ?_)
        obtain ⟨rfl, h533⟩ := h533
        have q536 := q532.tr h533
        show e_Pn 20 elay ecode eI n d 349 (405, [(2, (0, w3 275 78)), (0, (1, 275)), (1, (0, x))], [], w535) _
        exact e_Pn.ret0 rfl ⟨rfl, q536⟩
      have a330 : e_Pn 20 elay ecode eI n d 349 (330, [(2, (0, w3 275 78)), (0, (1, 275)), (1, (0, x))], [], w322) (fun r w' => r = [] ∧ mq w w') := by
        refine e_Pn.run (t' := (331, [(2, (0, w3 275 78)), (0, (1, 275)), (1, (0, x))], [(1, 275)], w322)) eAlk 1 rfl ?_
        refine e_Pn.callA rfl (fun n9 d9 => uE_all n9 339 (by decide) d9 _ (q323.rf hR)) (fun r538 w539 h537 => ?_)
        obtain ⟨rfl, h537⟩ := h537
        have q540 := q323.tr h537
        show e_Pn 20 elay ecode eI n d 349 (334, [(2, (0, w3 275 78)), (0, (1, 275)), (1, (0, x))], [], w539) _
        refine e_Pn.run (t' := (337, [(2, (0, w3 275 78)), (0, (1, 275)), (1, (0, x))], [(0, 4), (0, x), (1, 275)], w539)) eAlk 3 rfl ?_
        refine e_Pn.if2 eAlk rfl (fun h541 => ?_) (fun h541 => ?_)
        · show e_Pn 20 elay ecode eI n d 349 (345, [(2, (0, w3 275 78)), (0, (1, 275)), (1, (0, x))], [(1, 275)], w539) _
          refine e_Pn.run (t' := (347, [(2, (0, w3 275 78)), (0, (1, 275)), (1, (0, x))], [(0, 5), (0, x), (1, 275)], w539)) eAlk 2 rfl ?_
          refine e_Pn.if2 eAlk rfl (fun h542 => ?_) (fun h542 => ?_)
          · show e_Pn 20 elay ecode eI n d 349 (355, [(2, (0, w3 275 78)), (0, (1, 275)), (1, (0, x))], [(1, 275)], w539) _
            refine e_Pn.run (t' := (358, [(2, (0, w3 275 78)), (0, (1, 275)), (1, (0, x))], [(0, 7), (0, x), (1, 275)], w539)) eAlk 2 rfl ?_
            refine e_Pn.if2 eAlk rfl (fun h543 => ?_) (fun h543 => ?_)
            · show e_Pn 20 elay ecode eI n d 349 (366, [(2, (0, w3 275 78)), (0, (1, 275)), (1, (0, x))], [(1, 275)], w539) _
              refine e_Pn.run (t' := (369, [(2, (0, w3 275 78)), (0, (1, 275)), (1, (0, x))], [(0, 8), (0, x), (1, 275)], w539)) eAlk 2 rfl ?_
              refine e_Pn.if2 eAlk rfl (fun h544 => ?_) (fun h544 => ?_)
              · show e_Pn 20 elay ecode eI n d 349 (377, [(2, (0, w3 275 78)), (0, (1, 275)), (1, (0, x))], [(1, 275)], w539) _
                refine e_Pn.run (t' := (380, [(2, (0, w3 275 78)), (0, (1, 275)), (1, (0, x))], [(0, 11), (0, x), (1, 275)], w539)) eAlk 2 rfl ?_
                refine e_Pn.if2 eAlk rfl (fun h545 => ?_) (fun h545 => ?_)
                · show e_Pn 20 elay ecode eI n d 349 (388, [(2, (0, w3 275 78)), (0, (1, 275)), (1, (0, x))], [(1, 275)], w539) _
                  refine e_Pn.run (t' := (391, [(2, (0, w3 275 78)), (0, (1, 275)), (1, (0, x))], [(0, w3 275 78), (0, 41), (1, 275)], w539)) eAlk 2 rfl ?_
                  refine e_Pn.callA rfl (fun n9 d9 => u_336 (q540.rf hR)) (fun r547 w548 h546 => ?_)
                  obtain ⟨⟨z549, rfl⟩, h546⟩ := h546
                  have q550 := q540.tr h546
                  show e_Pn 20 elay ecode eI n d 349 (394, [(2, (0, w3 275 78)), (0, (1, 275)), (1, (0, x))], [(0, z549)], w548) _
                  refine e_Pn.run (t' := (399, [(2, (0, w3 275 78)), (0, (1, 275)), (1, (0, x))], [(0, 59), (1, 275), (1, 275)], w548)) eAlk 4 rfl ?_
                  refine e_Pn.callA rfl (fun n9 d9 => u_331 (q550.rf hR)) (fun r552 w553 h551 => ?_)
                  obtain ⟨⟨z554, rfl⟩, h551⟩ := h551
                  have q555 := q550.tr h551
                  show e_Pn 20 elay ecode eI n d 349 (402, [(2, (0, w3 275 78)), (0, (1, 275)), (1, (0, x))], [(0, z554), (1, 275)], w553) _
                  refine e_Pn.callA rfl (fun n9 d9 => u_334 (q555.rf hR)) (fun r557 w558 h556 => ?_)
                  obtain ⟨rfl, h556⟩ := h556
                  have q559 := q555.tr h556
                  show e_Pn 20 elay ecode eI n d 349 (405, [(2, (0, w3 275 78)), (0, (1, 275)), (1, (0, x))], [], w558) _
                  exact e_Pn.ret0 rfl ⟨rfl, q559⟩
                · show e_Pn 20 elay ecode eI n d 349 (383, [(2, (0, w3 275 78)), (0, (1, 275)), (1, (0, x))], [(1, 275)], w539) _
                  refine e_Pn.run (t' := (391, [(2, (0, w3 275 78)), (0, (1, 275)), (1, (0, x))], [(0, w3 275 78), (0, 40), (1, 275)], w539)) eAlk 3 rfl ?_
                  refine e_Pn.callA rfl (fun n9 d9 => u_336 (q540.rf hR)) (fun r561 w562 h560 => ?_)
                  obtain ⟨⟨z563, rfl⟩, h560⟩ := h560
                  have q564 := q540.tr h560
                  show e_Pn 20 elay ecode eI n d 349 (394, [(2, (0, w3 275 78)), (0, (1, 275)), (1, (0, x))], [(0, z563)], w562) _
                  refine e_Pn.run (t' := (399, [(2, (0, w3 275 78)), (0, (1, 275)), (1, (0, x))], [(0, 59), (1, 275), (1, 275)], w562)) eAlk 4 rfl ?_
                  refine e_Pn.callA rfl (fun n9 d9 => u_331 (q564.rf hR)) (fun r566 w567 h565 => ?_)
                  obtain ⟨⟨z568, rfl⟩, h565⟩ := h565
                  have q569 := q564.tr h565
                  show e_Pn 20 elay ecode eI n d 349 (402, [(2, (0, w3 275 78)), (0, (1, 275)), (1, (0, x))], [(0, z568), (1, 275)], w567) _
                  refine e_Pn.callA rfl (fun n9 d9 => u_334 (q569.rf hR)) (fun r571 w572 h570 => ?_)
                  obtain ⟨rfl, h570⟩ := h570
                  have q573 := q569.tr h570
                  show e_Pn 20 elay ecode eI n d 349 (405, [(2, (0, w3 275 78)), (0, (1, 275)), (1, (0, x))], [], w572) _
                  exact e_Pn.ret0 rfl ⟨rfl, q573⟩
              · show e_Pn 20 elay ecode eI n d 349 (372, [(2, (0, w3 275 78)), (0, (1, 275)), (1, (0, x))], [(1, 275)], w539) _
                refine e_Pn.run (t' := (391, [(2, (0, w3 275 78)), (0, (1, 275)), (1, (0, x))], [(0, w3 275 78), (0, 37), (1, 275)], w539)) eAlk 3 rfl ?_
                refine e_Pn.callA rfl (fun n9 d9 => u_336 (q540.rf hR)) (fun r575 w576 h574 => ?_)
                obtain ⟨⟨z577, rfl⟩, h574⟩ := h574
                have q578 := q540.tr h574
                show e_Pn 20 elay ecode eI n d 349 (394, [(2, (0, w3 275 78)), (0, (1, 275)), (1, (0, x))], [(0, z577)], w576) _
                refine e_Pn.run (t' := (399, [(2, (0, w3 275 78)), (0, (1, 275)), (1, (0, x))], [(0, 59), (1, 275), (1, 275)], w576)) eAlk 4 rfl ?_
                refine e_Pn.callA rfl (fun n9 d9 => u_331 (q578.rf hR)) (fun r580 w581 h579 => ?_)
                obtain ⟨⟨z582, rfl⟩, h579⟩ := h579
                have q583 := q578.tr h579
                show e_Pn 20 elay ecode eI n d 349 (402, [(2, (0, w3 275 78)), (0, (1, 275)), (1, (0, x))], [(0, z582), (1, 275)], w581) _
                refine e_Pn.callA rfl (fun n9 d9 => u_334 (q583.rf hR)) (fun r585 w586 h584 => ?_)
                obtain ⟨rfl, h584⟩ := h584
                have q587 := q583.tr h584
                show e_Pn 20 elay ecode eI n d 349 (405, [(2, (0, w3 275 78)), (0, (1, 275)), (1, (0, x))], [], w586) _
                exact e_Pn.ret0 rfl ⟨rfl, q587⟩
            · show e_Pn 20 elay ecode eI n d 349 (361, [(2, (0, w3 275 78)), (0, (1, 275)), (1, (0, x))], [(1, 275)], w539) _
              refine e_Pn.run (t' := (391, [(2, (0, w3 275 78)), (0, (1, 275)), (1, (0, x))], [(0, w3 275 78), (0, 36), (1, 275)], w539)) eAlk 3 rfl ?_
              refine e_Pn.callA rfl (fun n9 d9 => u_336 (q540.rf hR)) (fun r589 w590 h588 => ?_)
              obtain ⟨⟨z591, rfl⟩, h588⟩ := h588
              have q592 := q540.tr h588
              show e_Pn 20 elay ecode eI n d 349 (394, [(2, (0, w3 275 78)), (0, (1, 275)), (1, (0, x))], [(0, z591)], w590) _
              refine e_Pn.run (t' := (399, [(2, (0, w3 275 78)), (0, (1, 275)), (1, (0, x))], [(0, 59), (1, 275), (1, 275)], w590)) eAlk 4 rfl ?_
              refine e_Pn.callA rfl (fun n9 d9 => u_331 (q592.rf hR)) (fun r594 w595 h593 => ?_)
              obtain ⟨⟨z596, rfl⟩, h593⟩ := h593
              have q597 := q592.tr h593
              show e_Pn 20 elay ecode eI n d 349 (402, [(2, (0, w3 275 78)), (0, (1, 275)), (1, (0, x))], [(0, z596), (1, 275)], w595) _
              refine e_Pn.callA rfl (fun n9 d9 => u_334 (q597.rf hR)) (fun r599 w600 h598 => ?_)
              obtain ⟨rfl, h598⟩ := h598
              have q601 := q597.tr h598
              show e_Pn 20 elay ecode eI n d 349 (405, [(2, (0, w3 275 78)), (0, (1, 275)), (1, (0, x))], [], w600) _
              exact e_Pn.ret0 rfl ⟨rfl, q601⟩
          · show e_Pn 20 elay ecode eI n d 349 (350, [(2, (0, w3 275 78)), (0, (1, 275)), (1, (0, x))], [(1, 275)], w539) _
            refine e_Pn.run (t' := (391, [(2, (0, w3 275 78)), (0, (1, 275)), (1, (0, x))], [(0, w3 275 78), (0, 34), (1, 275)], w539)) eAlk 3 rfl ?_
            refine e_Pn.callA rfl (fun n9 d9 => u_336 (q540.rf hR)) (fun r603 w604 h602 => ?_)
            obtain ⟨⟨z605, rfl⟩, h602⟩ := h602
            have q606 := q540.tr h602
            show e_Pn 20 elay ecode eI n d 349 (394, [(2, (0, w3 275 78)), (0, (1, 275)), (1, (0, x))], [(0, z605)], w604) _
            refine e_Pn.run (t' := (399, [(2, (0, w3 275 78)), (0, (1, 275)), (1, (0, x))], [(0, 59), (1, 275), (1, 275)], w604)) eAlk 4 rfl ?_
            refine e_Pn.callA rfl (fun n9 d9 => u_331 (q606.rf hR)) (fun r608 w609 h607 => ?_)
            obtain ⟨⟨z610, rfl⟩, h607⟩ := h607
            have q611 := q606.tr h607
            show e_Pn 20 elay ecode eI n d 349 (402, [(2, (0, w3 275 78)), (0, (1, 275)), (1, (0, x))], [(0, z610), (1, 275)], w609) _
            refine e_Pn.callA rfl (fun n9 d9 => u_334 (q611.rf hR)) (fun r613 w614 h612 => ?_)
            obtain ⟨rfl, h612⟩ := h612
            have q615 := q611.tr h612
            show e_Pn 20 elay ecode eI n d 349 (405, [(2, (0, w3 275 78)), (0, (1, 275)), (1, (0, x))], [], w614) _
            exact e_Pn.ret0 rfl ⟨rfl, q615⟩
        · show e_Pn 20 elay ecode eI n d 349 (340, [(2, (0, w3 275 78)), (0, (1, 275)), (1, (0, x))], [(1, 275)], w539) _
          refine e_Pn.run (t' := (391, [(2, (0, w3 275 78)), (0, (1, 275)), (1, (0, x))], [(0, w3 275 78), (0, 33), (1, 275)], w539)) eAlk 3 rfl ?_
          refine e_Pn.callA rfl (fun n9 d9 => u_336 (q540.rf hR)) (fun r617 w618 h616 => ?_)
          obtain ⟨⟨z619, rfl⟩, h616⟩ := h616
          have q620 := q540.tr h616
          show e_Pn 20 elay ecode eI n d 349 (394, [(2, (0, w3 275 78)), (0, (1, 275)), (1, (0, x))], [(0, z619)], w618) _
          refine e_Pn.run (t' := (399, [(2, (0, w3 275 78)), (0, (1, 275)), (1, (0, x))], [(0, 59), (1, 275), (1, 275)], w618)) eAlk 4 rfl ?_
          refine e_Pn.callA rfl (fun n9 d9 => u_331 (q620.rf hR)) (fun r622 w623 h621 => ?_)
          obtain ⟨⟨z624, rfl⟩, h621⟩ := h621
          have q625 := q620.tr h621
          show e_Pn 20 elay ecode eI n d 349 (402, [(2, (0, w3 275 78)), (0, (1, 275)), (1, (0, x))], [(0, z624), (1, 275)], w623) _
          refine e_Pn.callA rfl (fun n9 d9 => u_334 (q625.rf hR)) (fun r627 w628 h626 => ?_)
          obtain ⟨rfl, h626⟩ := h626
          have q629 := q625.tr h626
          show e_Pn 20 elay ecode eI n d 349 (405, [(2, (0, w3 275 78)), (0, (1, 275)), (1, (0, x))], [], w628) _
          exact e_Pn.ret0 rfl ⟨rfl, q629⟩
      exact e_Pn.swU eAlk rfl ⟨a330, a148, a330, a330, a195, a330, a330, a224, a239, a330, a330, a283, a294, a254, a305, a316, a330, trivial⟩
    · show e_Pn 20 elay ecode eI n d 349 (26, [(2, (0, w3 275 78)), (0, (1, 275)), (1, (0, x))], [], w3) _
      refine e_Pn.run (t' := (27, [(2, (0, w3 275 78)), (0, (1, 275)), (1, (0, x))], [(1, 275)], w3)) eAlk 1 rfl ?_
      refine e_Pn.getr (z := 341) eAlk rfl rfl (q5.rf hR (90, 341) (by decide)) (by omega) ?_
      refine e_Pn.run (t' := (31, [(2, (0, w3 275 78)), (0, (1, 275)), (1, (0, x))], [(1, 275), (1, 341)], w3)) eAlk 1 rfl ?_
      refine e_Pn.getf (z := w3 275 94) eAlk rfl rfl rfl (fun b630 => ?_)
      refine e_Pn.run (t' := (35, [(2, (0, w3 275 78)), (0, (1, 275)), (1, (0, x))], [(0, 4), (0, w3 275 94), (1, 341)], w3)) eAlk 1 rfl ?_
      refine e_Pn.ast eAlk rfl rfl rfl (fun b631 b632 => ?_)
      generalize hw633 : e_up w3 341 (w3 275 94) 4 = w633
      have q634 : mq w w633 := mq.upA q5 hw633 (by decide)
      refine e_Pn.run (t' := (37, [(2, (0, w3 275 78)), (0, (1, 275)), (1, (0, x))], [(1, 275)], w633)) eAlk 1 rfl ?_
      refine e_Pn.getr (z := 342) eAlk rfl rfl (q634.rf hR (91, 342) (by decide)) (by omega) ?_
      refine e_Pn.run (t' := (41, [(2, (0, w3 275 78)), (0, (1, 275)), (1, (0, x))], [(1, 275), (1, 342)], w633)) eAlk 1 rfl ?_
      refine e_Pn.getf (z := w633 275 94) eAlk rfl rfl rfl (fun b635 => ?_)
      refine e_Pn.run (t' := (45, [(2, (0, w3 275 78)), (0, (1, 275)), (1, (0, x))], [(1, 275), (0, w633 275 94), (1, 342)], w633)) eAlk 1 rfl ?_
      refine e_Pn.getf (z := w633 275 86) eAlk rfl rfl rfl (fun b636 => ?_)
      refine e_Pn.ast eAlk rfl rfl rfl (fun b637 b638 => ?_)
      generalize hw639 : e_up w633 342 (w633 275 94) (w633 275 86) = w639
      have q640 : mq w w639 := mq.upA q634 hw639 (by decide)
      refine e_Pn.run (t' := (50, [(2, (0, w3 275 78)), (0, (1, 275)), (1, (0, x))], [(1, 275)], w639)) eAlk 1 rfl ?_
      refine e_Pn.getr (z := 343) eAlk rfl rfl (q640.rf hR (92, 343) (by decide)) (by omega) ?_
      refine e_Pn.run (t' := (54, [(2, (0, w3 275 78)), (0, (1, 275)), (1, (0, x))], [(1, 275), (1, 343)], w639)) eAlk 1 rfl ?_
      refine e_Pn.getf (z := w639 275 94) eAlk rfl rfl rfl (fun b641 => ?_)
      refine e_Pn.run (t' := (58, [(2, (0, w3 275 78)), (0, (1, 275)), (1, (0, x))], [(0, 5), (0, w639 275 94), (1, 343)], w639)) eAlk 1 rfl ?_
      refine e_Pn.ast eAlk rfl rfl rfl (fun b642 b643 => ?_)
      generalize hw644 : e_up w639 343 (w639 275 94) 5 = w644
      have q645 : mq w w644 := mq.upA q640 hw644 (by decide)
      refine e_Pn.run (t' := (61, [(2, (0, w3 275 78)), (0, (1, 275)), (1, (0, x))], [(1, 275), (1, 275)], w644)) eAlk 2 rfl ?_
      refine e_Pn.getf (z := w644 275 94) eAlk rfl rfl rfl (fun b646 => ?_)
      refine e_Pn.run (t' := (65, [(2, (0, w3 275 78)), (0, (1, 275)), (1, (0, x))], [(0, 1), (0, w644 275 94), (1, 275)], w644)) eAlk 1 rfl ?_
      refine e_Pn.bin0 eAlk rfl (fun z647 hz647 => ?_)
      refine e_Pn.putf eAlk rfl rfl ?_
      generalize hw648 : e_up w644 275 94 z647 = w648
      have q649 : mq w w648 := mq.upF q645 hw648 (by decide) (by decide +kernel)
      refine e_Pn.run (t' := (70, [(2, (0, w3 275 78)), (0, (1, 275)), (1, (0, x))], [(1, 275)], w648)) eAlk 1 rfl ?_
      refine e_Pn.callA rfl (fun n9 d9 => u_327 (q649.rf hR)) (fun r651 w652 h650 => ?_)
      obtain ⟨rfl, h650⟩ := h650
      have q653 := q649.tr h650
      show e_Pn 20 elay ecode eI n d 349 (73, [(2, (0, w3 275 78)), (0, (1, 275)), (1, (0, x))], [], w652) _
      refine e_Pn.run (t' := (74, [(2, (0, w3 275 78)), (0, (1, 275)), (1, (0, x))], [(0, x)], w652)) eAlk 1 rfl ?_
      have a148 : e_Pn 20 elay ecode eI n d 349 (148, [(2, (0, w3 275 78)), (0, (1, 275)), (1, (0, x))], [], w652) (fun r w' => r = [] ∧ mq w w') := by
        refine e_Pn.run (t' := (149, [(2, (0, w3 275 78)), (0, (1, 275)), (1, (0, x))], [(1, 275)], w652)) eAlk 1 rfl ?_
        refine e_Pn.callA rfl (fun n9 d9 => uE_all n9 339 (by decide) d9 _ (q653.rf hR)) (fun r655 w656 h654 => ?_)
        obtain ⟨rfl, h654⟩ := h654
        have q657 := q653.tr h654
        show e_Pn 20 elay ecode eI n d 349 (152, [(2, (0, w3 275 78)), (0, (1, 275)), (1, (0, x))], [], w656) _
        refine e_Pn.run (t' := (154, [(3, (0, 1)), (2, (0, w3 275 78)), (0, (1, 275)), (1, (0, x))], [], w656)) eAlk 2 rfl ?_
        have hL658 : ∀ nn660 : Nat, nn660 ≤ n → ∀ (tl661 : eL) (y664 : Int) (y665 : Int) (y666 : Int) (w662 : eW), mq w w662 → e_Pn 20 elay ecode eI nn660 d 349 (154, (0, (1, 275)) :: (1, (0, y664)) :: (2, (0, y665)) :: (3, (0, y666)) :: tl661, [], w662) (fun r w' => r = [] ∧ mq w w') := by
          intro nn660
          induction nn660 with
          | zero => intro _ tl661 y664 y665 y666 w662 _; exact e_Pn.zero
          | succ nn660 ih659 =>
            intro hnnn660 tl661 y664 y665 y666 w662 q663
            refine e_Pn.runS (t' := (155, (0, (1, 275)) :: (1, (0, y664)) :: (2, (0, y665)) :: (3, (0, y666)) :: tl661, [(1, 275)], w662)) eAlk 0 rfl ?_
            refine e_Pn.getf (z := w662 275 88) eAlk rfl rfl rfl (fun b667 => ?_)
            refine e_Pn.if1 eAlk rfl (fun h668 => ?_) (fun h668 => ?_)
            · show e_Pn 20 elay ecode eI nn660 d 349 (184, (0, (1, 275)) :: (1, (0, y664)) :: (2, (0, y665)) :: (3, (0, y666)) :: tl661, [], w662) _
              refine e_Pn.run (t' := (188, (0, (1, 275)) :: (1, (0, y664)) :: (2, (0, y665)) :: (3, (0, y666)) :: tl661, [(0, y666), (0, 32), (1, 275)], w662)) eAlk 3 rfl ?_
              refine e_Pn.callA rfl (fun n9 d9 => u_336 (q663.rf hR)) (fun r670 w671 h669 => ?_)
              obtain ⟨⟨z672, rfl⟩, h669⟩ := h669
              have q673 := q663.tr h669
              show e_Pn 20 elay ecode eI nn660 d 349 (191, (0, (1, 275)) :: (1, (0, y664)) :: (2, (0, y665)) :: (3, (0, y666)) :: tl661, [(0, z672)], w671) _
              refine e_Pn.run (t' := (399, (0, (1, 275)) :: (1, (0, y664)) :: (2, (0, y665)) :: (3, (0, y666)) :: tl661, [(0, 59), (1, 275), (1, 275)], w671)) eAlk 5 rfl ?_
              refine e_Pn.callA rfl (fun n9 d9 => u_331 (q673.rf hR)) (fun r675 w676 h674 => ?_)
              obtain ⟨⟨z677, rfl⟩, h674⟩ := h674
              have q678 := q673.tr h674
              show e_Pn 20 elay ecode eI nn660 d 349 (402, (0, (1, 275)) :: (1, (0, y664)) :: (2, (0, y665)) :: (3, (0, y666)) :: tl661, [(0, z677), (1, 275)], w676) _
              refine e_Pn.callA rfl (fun n9 d9 => u_334 (q678.rf hR)) (fun r680 w681 h679 => ?_)
              obtain ⟨rfl, h679⟩ := h679
              have q682 := q678.tr h679
              show e_Pn 20 elay ecode eI nn660 d 349 (405, (0, (1, 275)) :: (1, (0, y664)) :: (2, (0, y665)) :: (3, (0, y666)) :: tl661, [], w681) _
              exact e_Pn.ret0 rfl ⟨rfl, q682⟩
            · show e_Pn 20 elay ecode eI nn660 d 349 (161, (0, (1, 275)) :: (1, (0, y664)) :: (2, (0, y665)) :: (3, (0, y666)) :: tl661, [], w662) _
              refine e_Pn.run (t' := (164, (0, (1, 275)) :: (1, (0, y664)) :: (2, (0, y665)) :: (3, (0, y666)) :: tl661, [(0, 44), (1, 275)], w662)) eAlk 2 rfl ?_
              refine e_Pn.callA rfl (fun n9 d9 => u_331 (q663.rf hR)) (fun r684 w685 h683 => ?_)
              obtain ⟨⟨z686, rfl⟩, h683⟩ := h683
              have q687 := q663.tr h683
              show e_Pn 20 elay ecode eI nn660 d 349 (167, (0, (1, 275)) :: (1, (0, y664)) :: (2, (0, y665)) :: (3, (0, y666)) :: tl661, [(0, z686)], w685) _
              refine e_Pn.if1 eAlk rfl (fun h688 => ?_) (fun h688 => ?_)
              · show e_Pn 20 elay ecode eI nn660 d 349 (184, (0, (1, 275)) :: (1, (0, y664)) :: (2, (0, y665)) :: (3, (0, y666)) :: tl661, [], w685) _
                refine e_Pn.run (t' := (188, (0, (1, 275)) :: (1, (0, y664)) :: (2, (0, y665)) :: (3, (0, y666)) :: tl661, [(0, y666), (0, 32), (1, 275)], w685)) eAlk 3 rfl ?_
                refine e_Pn.callA rfl (fun n9 d9 => u_336 (q687.rf hR)) (fun r690 w691 h689 => ?_)
                obtain ⟨⟨z692, rfl⟩, h689⟩ := h689
                have q693 := q687.tr h689
                show e_Pn 20 elay ecode eI nn660 d 349 (191, (0, (1, 275)) :: (1, (0, y664)) :: (2, (0, y665)) :: (3, (0, y666)) :: tl661, [(0, z692)], w691) _
                refine e_Pn.run (t' := (399, (0, (1, 275)) :: (1, (0, y664)) :: (2, (0, y665)) :: (3, (0, y666)) :: tl661, [(0, 59), (1, 275), (1, 275)], w691)) eAlk 5 rfl ?_
                refine e_Pn.callA rfl (fun n9 d9 => u_331 (q693.rf hR)) (fun r695 w696 h694 => ?_)
                obtain ⟨⟨z697, rfl⟩, h694⟩ := h694
                have q698 := q693.tr h694
                show e_Pn 20 elay ecode eI nn660 d 349 (402, (0, (1, 275)) :: (1, (0, y664)) :: (2, (0, y665)) :: (3, (0, y666)) :: tl661, [(0, z697), (1, 275)], w696) _
                refine e_Pn.callA rfl (fun n9 d9 => u_334 (q698.rf hR)) (fun r700 w701 h699 => ?_)
                obtain ⟨rfl, h699⟩ := h699
                have q702 := q698.tr h699
                show e_Pn 20 elay ecode eI nn660 d 349 (405, (0, (1, 275)) :: (1, (0, y664)) :: (2, (0, y665)) :: (3, (0, y666)) :: tl661, [], w701) _
                exact e_Pn.ret0 rfl ⟨rfl, q702⟩
              · show e_Pn 20 elay ecode eI nn660 d 349 (170, (0, (1, 275)) :: (1, (0, y664)) :: (2, (0, y665)) :: (3, (0, y666)) :: tl661, [], w685) _
                refine e_Pn.run (t' := (171, (0, (1, 275)) :: (1, (0, y664)) :: (2, (0, y665)) :: (3, (0, y666)) :: tl661, [(1, 275)], w685)) eAlk 1 rfl ?_
                refine e_Pn.callA rfl (fun n9 d9 => u_327 (q687.rf hR)) (fun r704 w705 h703 => ?_)
                obtain ⟨rfl, h703⟩ := h703
                have q706 := q687.tr h703
                show e_Pn 20 elay ecode eI nn660 d 349 (174, (0, (1, 275)) :: (1, (0, y664)) :: (2, (0, y665)) :: (3, (0, y666)) :: tl661, [], w705) _
                refine e_Pn.run (t' := (175, (0, (1, 275)) :: (1, (0, y664)) :: (2, (0, y665)) :: (3, (0, y666)) :: tl661, [(1, 275)], w705)) eAlk 1 rfl ?_
                refine e_Pn.callA rfl (fun n9 d9 => uE_all n9 339 (by decide) d9 _ (q706.rf hR)) (fun r708 w709 h707 => ?_)
                obtain ⟨rfl, h707⟩ := h707
                have q710 := q706.tr h707
                show e_Pn 20 elay ecode eI nn660 d 349 (178, (0, (1, 275)) :: (1, (0, y664)) :: (2, (0, y665)) :: (3, (0, y666)) :: tl661, [], w709) _
                refine e_Pn.incU eAlk rfl rfl (fun z711 => ?_)
                show e_Pn 20 elay ecode eI nn660 d 349 (181, (3, (0, z711)) :: (0, (1, 275)) :: (1, (0, y664)) :: (2, (0, y665)) :: List.filter (e_flt 0 3) tl661, [], w709) _
                refine e_Pn.run (t' := (154, (3, (0, z711)) :: (0, (1, 275)) :: (1, (0, y664)) :: (2, (0, y665)) :: List.filter (e_flt 0 3) tl661, [], w709)) eAlk 1 rfl ?_
                exact e_Pn.ord eAlk [0, 1, 2, 3] rfl rfl ((ih659 (by omega) _ y664 y665 z711 w709 q710).le (by omega))
        exact e_Pn.ord eAlk [0, 1, 2, 3] rfl rfl (hL658 n (Nat.le_refl _) _ x (w3 275 78) 1 w656 q657)
      have a195 : e_Pn 20 elay ecode eI n d 349 (195, [(2, (0, w3 275 78)), (0, (1, 275)), (1, (0, x))], [], w652) (fun r w' => r = [] ∧ mq w w') := by
        refine e_Pn.run (t' := (196, [(2, (0, w3 275 78)), (0, (1, 275)), (1, (0, x))], [(1, 275)], w652)) eAlk 1 rfl ?_
        refine e_Pn.callA rfl (fun n9 d9 => uE_all n9 339 (by decide) d9 _ (q653.rf hR)) (fun r713 w714 h712 => ?_)
        obtain ⟨rfl, h712⟩ := h712
        have q715 := q653.tr h712
        show e_Pn 20 elay ecode eI n d 349 (199, [(2, (0, w3 275 78)), (0, (1, 275)), (1, (0, x))], [], w714) _
        refine e_Pn.run (t' := (203, [(2, (0, w3 275 78)), (0, (1, 275)), (1, (0, x))], [(0, 44), (1, 275), (1, 275)], w714)) eAlk 3 rfl ?_
        refine e_Pn.callA rfl (fun n9 d9 => u_331 (q715.rf hR)) (fun r717 w718 h716 => ?_)
        obtain ⟨⟨z719, rfl⟩, h716⟩ := h716
        have q720 := q715.tr h716
        show e_Pn 20 elay ecode eI n d 349 (206, [(2, (0, w3 275 78)), (0, (1, 275)), (1, (0, x))], [(0, z719), (1, 275)], w718) _
        refine e_Pn.callA rfl (fun n9 d9 => u_334 (q720.rf hR)) (fun r722 w723 h721 => ?_)
        obtain ⟨rfl, h721⟩ := h721
        have q724 := q720.tr h721
        show e_Pn 20 elay ecode eI n d 349 (209, [(2, (0, w3 275 78)), (0, (1, 275)), (1, (0, x))], [], w723) _
        refine e_Pn.run (t' := (210, [(2, (0, w3 275 78)), (0, (1, 275)), (1, (0, x))], [(1, 275)], w723)) eAlk 1 rfl ?_
        refine e_Pn.callA rfl (fun n9 d9 => uE_all n9 339 (by decide) d9 _ (q724.rf hR)) (fun r726 w727 h725 => ?_)
        obtain ⟨rfl, h725⟩ := h725
        have q728 := q724.tr h725
        show e_Pn 20 elay ecode eI n d 349 (213, [(2, (0, w3 275 78)), (0, (1, 275)), (1, (0, x))], [], w727) _
        refine e_Pn.run (t' := (217, [(2, (0, w3 275 78)), (0, (1, 275)), (1, (0, x))], [(0, 0), (0, 35), (1, 275)], w727)) eAlk 3 rfl ?_
        refine e_Pn.callA rfl (fun n9 d9 => u_336 (q728.rf hR)) (fun r730 w731 h729 => ?_)
        obtain ⟨⟨z732, rfl⟩, h729⟩ := h729
        have q733 := q728.tr h729
        show e_Pn 20 elay ecode eI n d 349 (220, [(2, (0, w3 275 78)), (0, (1, 275)), (1, (0, x))], [(0, z732)], w731) _
        refine e_Pn.run (t' := (399, [(2, (0, w3 275 78)), (0, (1, 275)), (1, (0, x))], [(0, 59), (1, 275), (1, 275)], w731)) eAlk 5 rfl ?_
        refine e_Pn.callA rfl (fun n9 d9 => u_331 (q733.rf hR)) (fun r735 w736 h734 => ?_)
        obtain ⟨⟨z737, rfl⟩, h734⟩ := h734
        have q738 := q733.tr h734
        show e_Pn 20 elay ecode eI n d 349 (402, [(2, (0, w3 275 78)), (0, (1, 275)), (1, (0, x))], [(0, z737), (1, 275)], w736) _
        refine e_Pn.callA rfl (fun n9 d9 => u_334 (q738.rf hR)) (fun r740 w741 h739 => ?_)
        obtain ⟨rfl, h739⟩ := h739
        have q742 := q738.tr h739
        show e_Pn 20 elay ecode eI n d 349 (405, [(2, (0, w3 275 78)), (0, (1, 275)), (1, (0, x))], [], w741) _
        exact e_Pn.ret0 rfl ⟨rfl, q742⟩
      have a224 : e_Pn 20 elay ecode eI n d 349 (224, [(2, (0, w3 275 78)), (0, (1, 275)), (1, (0, x))], [], w652) (fun r w' => r = [] ∧ mq w w') := by
        refine e_Pn.run (t' := (230, [(2, (0, w3 275 78)), (0, (1, 275)), (1, (0, x))], [(0, 0), (0, 38), (1, 275), (0, 3), (1, 275)], w652)) eAlk 5 rfl ?_
        refine e_Pn.callA rfl (fun n9 d9 => u_336 (q653.rf hR)) (fun r744 w745 h743 => ?_)
        obtain ⟨⟨z746, rfl⟩, h743⟩ := h743
        have q747 := q653.tr h743
        show e_Pn 20 elay ecode eI n d 349 (233, [(2, (0, w3 275 78)), (0, (1, 275)), (1, (0, x))], [(0, z746), (0, 3), (1, 275)], w745) _
        refine e_Pn.callA rfl (fun n9 d9 => u_338 (q747.rf hR)) (fun r749 w750 h748 => ?_)
        obtain ⟨rfl, h748⟩ := h748
        have q751 := q747.tr h748
        show e_Pn 20 elay ecode eI n d 349 (236, [(2, (0, w3 275 78)), (0, (1, 275)), (1, (0, x))], [], w750) _
        refine e_Pn.run (t' := (399, [(2, (0, w3 275 78)), (0, (1, 275)), (1, (0, x))], [(0, 59), (1, 275), (1, 275)], w750)) eAlk 4 rfl ?_
        refine e_Pn.callA rfl (fun n9 d9 => u_331 (q751.rf hR)) (fun r753 w754 h752 => ?_)
        obtain ⟨⟨z755, rfl⟩, h752⟩ := h752
        have q756 := q751.tr h752
        show e_Pn 20 elay ecode eI n d 349 (402, [(2, (0, w3 275 78)), (0, (1, 275)), (1, (0, x))], [(0, z755), (1, 275)], w754) _
        refine e_Pn.callA rfl (fun n9 d9 => u_334 (q756.rf hR)) (fun r758 w759 h757 => ?_)
        obtain ⟨rfl, h757⟩ := h757
        have q760 := q756.tr h757
        show e_Pn 20 elay ecode eI n d 349 (405, [(2, (0, w3 275 78)), (0, (1, 275)), (1, (0, x))], [], w759) _
        exact e_Pn.ret0 rfl ⟨rfl, q760⟩
      have a239 : e_Pn 20 elay ecode eI n d 349 (239, [(2, (0, w3 275 78)), (0, (1, 275)), (1, (0, x))], [], w652) (fun r w' => r = [] ∧ mq w w') := by
        refine e_Pn.run (t' := (245, [(2, (0, w3 275 78)), (0, (1, 275)), (1, (0, x))], [(0, 0), (0, 39), (1, 275), (0, 3), (1, 275)], w652)) eAlk 5 rfl ?_
        refine e_Pn.callA rfl (fun n9 d9 => u_336 (q653.rf hR)) (fun r762 w763 h761 => ?_)
        obtain ⟨⟨z764, rfl⟩, h761⟩ := h761
        have q765 := q653.tr h761
        show e_Pn 20 elay ecode eI n d 349 (248, [(2, (0, w3 275 78)), (0, (1, 275)), (1, (0, x))], [(0, z764), (0, 3), (1, 275)], w763) _
        refine e_Pn.callA rfl (fun n9 d9 => u_338 (q765.rf hR)) (fun r767 w768 h766 => ?_)
        obtain ⟨rfl, h766⟩ := h766
        have q769 := q765.tr h766
        show e_Pn 20 elay ecode eI n d 349 (251, [(2, (0, w3 275 78)), (0, (1, 275)), (1, (0, x))], [], w768) _
        refine e_Pn.run (t' := (399, [(2, (0, w3 275 78)), (0, (1, 275)), (1, (0, x))], [(0, 59), (1, 275), (1, 275)], w768)) eAlk 4 rfl ?_
        refine e_Pn.callA rfl (fun n9 d9 => u_331 (q769.rf hR)) (fun r771 w772 h770 => ?_)
        obtain ⟨⟨z773, rfl⟩, h770⟩ := h770
        have q774 := q769.tr h770
        show e_Pn 20 elay ecode eI n d 349 (402, [(2, (0, w3 275 78)), (0, (1, 275)), (1, (0, x))], [(0, z773), (1, 275)], w772) _
        refine e_Pn.callA rfl (fun n9 d9 => u_334 (q774.rf hR)) (fun r776 w777 h775 => ?_)
        obtain ⟨rfl, h775⟩ := h775
        have q778 := q774.tr h775
        show e_Pn 20 elay ecode eI n d 349 (405, [(2, (0, w3 275 78)), (0, (1, 275)), (1, (0, x))], [], w777) _
        exact e_Pn.ret0 rfl ⟨rfl, q778⟩
      have a254 : e_Pn 20 elay ecode eI n d 349 (254, [(2, (0, w3 275 78)), (0, (1, 275)), (1, (0, x))], [], w652) (fun r w' => r = [] ∧ mq w w') := by
        refine e_Pn.run (t' := (255, [(2, (0, w3 275 78)), (0, (1, 275)), (1, (0, x))], [(1, 275)], w652)) eAlk 1 rfl ?_
        refine e_Pn.callA rfl (fun n9 d9 => uE_all n9 339 (by decide) d9 _ (q653.rf hR)) (fun r780 w781 h779 => ?_)
        obtain ⟨rfl, h779⟩ := h779
        have q782 := q653.tr h779
        show e_Pn 20 elay ecode eI n d 349 (258, [(2, (0, w3 275 78)), (0, (1, 275)), (1, (0, x))], [], w781) _
        refine e_Pn.run (t' := (262, [(2, (0, w3 275 78)), (0, (1, 275)), (1, (0, x))], [(0, 44), (1, 275), (1, 275)], w781)) eAlk 3 rfl ?_
        refine e_Pn.callA rfl (fun n9 d9 => u_331 (q782.rf hR)) (fun r784 w785 h783 => ?_)
        obtain ⟨⟨z786, rfl⟩, h783⟩ := h783
        have q787 := q782.tr h783
        show e_Pn 20 elay ecode eI n d 349 (265, [(2, (0, w3 275 78)), (0, (1, 275)), (1, (0, x))], [(0, z786), (1, 275)], w785) _
        refine e_Pn.callA rfl (fun n9 d9 => u_334 (q787.rf hR)) (fun r789 w790 h788 => ?_)
        obtain ⟨rfl, h788⟩ := h788
        have q791 := q787.tr h788
        show e_Pn 20 elay ecode eI n d 349 (268, [(2, (0, w3 275 78)), (0, (1, 275)), (1, (0, x))], [], w790) _
        refine e_Pn.run (t' := (274, [(2, (0, w3 275 78)), (0, (1, 275)), (1, (0, x))], [(0, 0), (0, 44), (1, 275), (0, 3), (1, 275)], w790)) eAlk 5 rfl ?_
        refine e_Pn.callA rfl (fun n9 d9 => u_336 (q791.rf hR)) (fun r793 w794 h792 => ?_)
        obtain ⟨⟨z795, rfl⟩, h792⟩ := h792
        have q796 := q791.tr h792
        show e_Pn 20 elay ecode eI n d 349 (277, [(2, (0, w3 275 78)), (0, (1, 275)), (1, (0, x))], [(0, z795), (0, 3), (1, 275)], w794) _
        refine e_Pn.callA rfl (fun n9 d9 => u_338 (q796.rf hR)) (fun r798 w799 h797 => ?_)
        obtain ⟨rfl, h797⟩ := h797
        have q800 := q796.tr h797
        show e_Pn 20 elay ecode eI n d 349 (280, [(2, (0, w3 275 78)), (0, (1, 275)), (1, (0, x))], [], w799) _
        refine e_Pn.run (t' := (399, [(2, (0, w3 275 78)), (0, (1, 275)), (1, (0, x))], [(0, 59), (1, 275), (1, 275)], w799)) eAlk 4 rfl ?_
        refine e_Pn.callA rfl (fun n9 d9 => u_331 (q800.rf hR)) (fun r802 w803 h801 => ?_)
        obtain ⟨⟨z804, rfl⟩, h801⟩ := h801
        have q805 := q800.tr h801
        show e_Pn 20 elay ecode eI n d 349 (402, [(2, (0, w3 275 78)), (0, (1, 275)), (1, (0, x))], [(0, z804), (1, 275)], w803) _
        refine e_Pn.callA rfl (fun n9 d9 => u_334 (q805.rf hR)) (fun r807 w808 h806 => ?_)
        obtain ⟨rfl, h806⟩ := h806
        have q809 := q805.tr h806
        show e_Pn 20 elay ecode eI n d 349 (405, [(2, (0, w3 275 78)), (0, (1, 275)), (1, (0, x))], [], w808) _
        exact e_Pn.ret0 rfl ⟨rfl, q809⟩
      have a283 : e_Pn 20 elay ecode eI n d 349 (283, [(2, (0, w3 275 78)), (0, (1, 275)), (1, (0, x))], [], w652) (fun r w' => r = [] ∧ mq w w') := by
        refine e_Pn.run (t' := (287, [(2, (0, w3 275 78)), (0, (1, 275)), (1, (0, x))], [(0, 0), (0, 42), (1, 275)], w652)) eAlk 3 rfl ?_
        refine e_Pn.callA rfl (fun n9 d9 => u_336 (q653.rf hR)) (fun r811 w812 h810 => ?_)
        obtain ⟨⟨z813, rfl⟩, h810⟩ := h810
        have q814 := q653.tr h810
        show e_Pn 20 elay ecode eI n d 349 (290, [(2, (0, w3 275 78)), (0, (1, 275)), (1, (0, x))], [(0, z813)], w812) _
        refine e_Pn.run (t' := (399, [(2, (0, w3 275 78)), (0, (1, 275)), (1, (0, x))], [(0, 59), (1, 275), (1, 275)], w812)) eAlk 5 rfl ?_
        refine e_Pn.callA rfl (fun n9 d9 => u_331 (q814.rf hR)) (fun r816 w817 h815 => ?_)
        obtain ⟨⟨z818, rfl⟩, h815⟩ := h815
        have q819 := q814.tr h815
        show e_Pn 20 elay ecode eI n d 349 (402, [(2, (0, w3 275 78)), (0, (1, 275)), (1, (0, x))], [(0, z818), (1, 275)], w817) _
        refine e_Pn.callA rfl (fun n9 d9 => u_334 (q819.rf hR)) (fun r821 w822 h820 => ?_)
        obtain ⟨rfl, h820⟩ := h820
        have q823 := q819.tr h820
        show e_Pn 20 elay ecode eI n d 349 (405, [(2, (0, w3 275 78)), (0, (1, 275)), (1, (0, x))], [], w822) _
        exact e_Pn.ret0 rfl ⟨rfl, q823⟩
      have a294 : e_Pn 20 elay ecode eI n d 349 (294, [(2, (0, w3 275 78)), (0, (1, 275)), (1, (0, x))], [], w652) (fun r w' => r = [] ∧ mq w w') := by
        refine e_Pn.run (t' := (298, [(2, (0, w3 275 78)), (0, (1, 275)), (1, (0, x))], [(0, 0), (0, 43), (1, 275)], w652)) eAlk 3 rfl ?_
        refine e_Pn.callA rfl (fun n9 d9 => u_336 (q653.rf hR)) (fun r825 w826 h824 => ?_)
        obtain ⟨⟨z827, rfl⟩, h824⟩ := h824
        have q828 := q653.tr h824
        show e_Pn 20 elay ecode eI n d 349 (301, [(2, (0, w3 275 78)), (0, (1, 275)), (1, (0, x))], [(0, z827)], w826) _
        refine e_Pn.run (t' := (399, [(2, (0, w3 275 78)), (0, (1, 275)), (1, (0, x))], [(0, 59), (1, 275), (1, 275)], w826)) eAlk 5 rfl ?_
        refine e_Pn.callA rfl (fun n9 d9 => u_331 (q828.rf hR)) (fun r830 w831 h829 => ?_)
        obtain ⟨⟨z832, rfl⟩, h829⟩ := h829
        have q833 := q828.tr h829
        show e_Pn 20 elay ecode eI n d 349 (402, [(2, (0, w3 275 78)), (0, (1, 275)), (1, (0, x))], [(0, z832), (1, 275)], w831) _
        refine e_Pn.callA rfl (fun n9 d9 => u_334 (q833.rf hR)) (fun r835 w836 h834 => ?_)
        obtain ⟨rfl, h834⟩ := h834
        have q837 := q833.tr h834
        show e_Pn 20 elay ecode eI n d 349 (405, [(2, (0, w3 275 78)), (0, (1, 275)), (1, (0, x))], [], w836) _
        exact e_Pn.ret0 rfl ⟨rfl, q837⟩
      have a305 : e_Pn 20 elay ecode eI n d 349 (305, [(2, (0, w3 275 78)), (0, (1, 275)), (1, (0, x))], [], w652) (fun r w' => r = [] ∧ mq w w') := by
        refine e_Pn.run (t' := (309, [(2, (0, w3 275 78)), (0, (1, 275)), (1, (0, x))], [(0, 0), (0, 45), (1, 275)], w652)) eAlk 3 rfl ?_
        refine e_Pn.callA rfl (fun n9 d9 => u_336 (q653.rf hR)) (fun r839 w840 h838 => ?_)
        obtain ⟨⟨z841, rfl⟩, h838⟩ := h838
        have q842 := q653.tr h838
        show e_Pn 20 elay ecode eI n d 349 (312, [(2, (0, w3 275 78)), (0, (1, 275)), (1, (0, x))], [(0, z841)], w840) _
        refine e_Pn.run (t' := (399, [(2, (0, w3 275 78)), (0, (1, 275)), (1, (0, x))], [(0, 59), (1, 275), (1, 275)], w840)) eAlk 5 rfl ?_
        refine e_Pn.callA rfl (fun n9 d9 => u_331 (q842.rf hR)) (fun r844 w845 h843 => ?_)
        obtain ⟨⟨z846, rfl⟩, h843⟩ := h843
        have q847 := q842.tr h843
        show e_Pn 20 elay ecode eI n d 349 (402, [(2, (0, w3 275 78)), (0, (1, 275)), (1, (0, x))], [(0, z846), (1, 275)], w845) _
        refine e_Pn.callA rfl (fun n9 d9 => u_334 (q847.rf hR)) (fun r849 w850 h848 => ?_)
        obtain ⟨rfl, h848⟩ := h848
        have q851 := q847.tr h848
        show e_Pn 20 elay ecode eI n d 349 (405, [(2, (0, w3 275 78)), (0, (1, 275)), (1, (0, x))], [], w850) _
        exact e_Pn.ret0 rfl ⟨rfl, q851⟩
      have a316 : e_Pn 20 elay ecode eI n d 349 (316, [(2, (0, w3 275 78)), (0, (1, 275)), (1, (0, x))], [], w652) (fun r w' => r = [] ∧ mq w w') := by
        refine e_Pn.run (t' := (320, [(2, (0, w3 275 78)), (0, (1, 275)), (1, (0, x))], [(1, 275), (0, 46), (1, 275)], w652)) eAlk 3 rfl ?_
        refine e_Pn.getf (z := w652 275 82) eAlk rfl rfl rfl (fun b852 => ?_)
        refine e_Pn.callA rfl (fun n9 d9 => u_336 (q653.rf hR)) (fun r854 w855 h853 => ?_)
        obtain ⟨⟨z856, rfl⟩, h853⟩ := h853
        have q857 := q653.tr h853
        show e_Pn 20 elay ecode eI n d 349 (326, [(2, (0, w3 275 78)), (0, (1, 275)), (1, (0, x))], [(0, z856)], w855) _
        refine e_Pn.run (t' := (399, [(2, (0, w3 275 78)), (0, (1, 275)), (1, (0, x))], [(0, 59), (1, 275), (1, 275)], w855)) eAlk 5 rfl ?_
        refine e_Pn.callA rfl (fun n9 d9 => u_331 (q857.rf hR)) (fun r859 w860 h858 => ?_)
        obtain ⟨⟨z861, rfl⟩, h858⟩ := h858
        have q862 := q857.tr h858
        show e_Pn 20 elay ecode eI n d 349 (402, [(2, (0, w3 275 78)), (0, (1, 275)), (1, (0, x))], [(0, z861), (1, 275)], w860) _
        refine e_Pn.callA rfl (fun n9 d9 => u_334 (q862.rf hR)) (fun r864 w865 h863 => ?_)
        obtain ⟨rfl, h863⟩ := h863
        have q866 := q862.tr h863
        show e_Pn 20 elay ecode eI n d 349 (405, [(2, (0, w3 275 78)), (0, (1, 275)), (1, (0, x))], [], w865) _
        exact e_Pn.ret0 rfl ⟨rfl, q866⟩
      have a330 : e_Pn 20 elay ecode eI n d 349 (330, [(2, (0, w3 275 78)), (0, (1, 275)), (1, (0, x))], [], w652) (fun r w' => r = [] ∧ mq w w') := by
        refine e_Pn.run (t' := (331, [(2, (0, w3 275 78)), (0, (1, 275)), (1, (0, x))], [(1, 275)], w652)) eAlk 1 rfl ?_
        refine e_Pn.callA rfl (fun n9 d9 => uE_all n9 339 (by decide) d9 _ (q653.rf hR)) (fun r868 w869 h867 => ?_)
        obtain ⟨rfl, h867⟩ := h867
        have q870 := q653.tr h867
        show e_Pn 20 elay ecode eI n d 349 (334, [(2, (0, w3 275 78)), (0, (1, 275)), (1, (0, x))], [], w869) _
        refine e_Pn.run (t' := (337, [(2, (0, w3 275 78)), (0, (1, 275)), (1, (0, x))], [(0, 4), (0, x), (1, 275)], w869)) eAlk 3 rfl ?_
        refine e_Pn.if2 eAlk rfl (fun h871 => ?_) (fun h871 => ?_)
        · show e_Pn 20 elay ecode eI n d 349 (345, [(2, (0, w3 275 78)), (0, (1, 275)), (1, (0, x))], [(1, 275)], w869) _
          refine e_Pn.run (t' := (347, [(2, (0, w3 275 78)), (0, (1, 275)), (1, (0, x))], [(0, 5), (0, x), (1, 275)], w869)) eAlk 2 rfl ?_
          refine e_Pn.if2 eAlk rfl (fun h872 => ?_) (fun h872 => ?_)
          · show e_Pn 20 elay ecode eI n d 349 (355, [(2, (0, w3 275 78)), (0, (1, 275)), (1, (0, x))], [(1, 275)], w869) _
            refine e_Pn.run (t' := (358, [(2, (0, w3 275 78)), (0, (1, 275)), (1, (0, x))], [(0, 7), (0, x), (1, 275)], w869)) eAlk 2 rfl ?_
            refine e_Pn.if2 eAlk rfl (fun h873 => ?_) (fun h873 => ?_)
            · show e_Pn 20 elay ecode eI n d 349 (366, [(2, (0, w3 275 78)), (0, (1, 275)), (1, (0, x))], [(1, 275)], w869) _
              refine e_Pn.run (t' := (369, [(2, (0, w3 275 78)), (0, (1, 275)), (1, (0, x))], [(0, 8), (0, x), (1, 275)], w869)) eAlk 2 rfl ?_
              refine e_Pn.if2 eAlk rfl (fun h874 => ?_) (fun h874 => ?_)
              · show e_Pn 20 elay ecode eI n d 349 (377, [(2, (0, w3 275 78)), (0, (1, 275)), (1, (0, x))], [(1, 275)], w869) _
                refine e_Pn.run (t' := (380, [(2, (0, w3 275 78)), (0, (1, 275)), (1, (0, x))], [(0, 11), (0, x), (1, 275)], w869)) eAlk 2 rfl ?_
                refine e_Pn.if2 eAlk rfl (fun h875 => ?_) (fun h875 => ?_)
                · show e_Pn 20 elay ecode eI n d 349 (388, [(2, (0, w3 275 78)), (0, (1, 275)), (1, (0, x))], [(1, 275)], w869) _
                  refine e_Pn.run (t' := (391, [(2, (0, w3 275 78)), (0, (1, 275)), (1, (0, x))], [(0, w3 275 78), (0, 41), (1, 275)], w869)) eAlk 2 rfl ?_
                  refine e_Pn.callA rfl (fun n9 d9 => u_336 (q870.rf hR)) (fun r877 w878 h876 => ?_)
                  obtain ⟨⟨z879, rfl⟩, h876⟩ := h876
                  have q880 := q870.tr h876
                  show e_Pn 20 elay ecode eI n d 349 (394, [(2, (0, w3 275 78)), (0, (1, 275)), (1, (0, x))], [(0, z879)], w878) _
                  refine e_Pn.run (t' := (399, [(2, (0, w3 275 78)), (0, (1, 275)), (1, (0, x))], [(0, 59), (1, 275), (1, 275)], w878)) eAlk 4 rfl ?_
                  refine e_Pn.callA rfl (fun n9 d9 => u_331 (q880.rf hR)) (fun r882 w883 h881 => ?_)
                  obtain ⟨⟨z884, rfl⟩, h881⟩ := h881
                  have q885 := q880.tr h881
                  show e_Pn 20 elay ecode eI n d 349 (402, [(2, (0, w3 275 78)), (0, (1, 275)), (1, (0, x))], [(0, z884), (1, 275)], w883) _
                  refine e_Pn.callA rfl (fun n9 d9 => u_334 (q885.rf hR)) (fun r887 w888 h886 => ?_)
                  obtain ⟨rfl, h886⟩ := h886
                  have q889 := q885.tr h886
                  show e_Pn 20 elay ecode eI n d 349 (405, [(2, (0, w3 275 78)), (0, (1, 275)), (1, (0, x))], [], w888) _
                  exact e_Pn.ret0 rfl ⟨rfl, q889⟩
                · show e_Pn 20 elay ecode eI n d 349 (383, [(2, (0, w3 275 78)), (0, (1, 275)), (1, (0, x))], [(1, 275)], w869) _
                  refine e_Pn.run (t' := (391, [(2, (0, w3 275 78)), (0, (1, 275)), (1, (0, x))], [(0, w3 275 78), (0, 40), (1, 275)], w869)) eAlk 3 rfl ?_
                  refine e_Pn.callA rfl (fun n9 d9 => u_336 (q870.rf hR)) (fun r891 w892 h890 => ?_)
                  obtain ⟨⟨z893, rfl⟩, h890⟩ := h890
                  have q894 := q870.tr h890
                  show e_Pn 20 elay ecode eI n d 349 (394, [(2, (0, w3 275 78)), (0, (1, 275)), (1, (0, x))], [(0, z893)], w892) _
                  refine e_Pn.run (t' := (399, [(2, (0, w3 275 78)), (0, (1, 275)), (1, (0, x))], [(0, 59), (1, 275), (1, 275)], w892)) eAlk 4 rfl ?_
                  refine e_Pn.callA rfl (fun n9 d9 => u_331 (q894.rf hR)) (fun r896 w897 h895 => ?_)
                  obtain ⟨⟨z898, rfl⟩, h895⟩ := h895
                  have q899 := q894.tr h895
                  show e_Pn 20 elay ecode eI n d 349 (402, [(2, (0, w3 275 78)), (0, (1, 275)), (1, (0, x))], [(0, z898), (1, 275)], w897) _
                  refine e_Pn.callA rfl (fun n9 d9 => u_334 (q899.rf hR)) (fun r901 w902 h900 => ?_)
                  obtain ⟨rfl, h900⟩ := h900
                  have q903 := q899.tr h900
                  show e_Pn 20 elay ecode eI n d 349 (405, [(2, (0, w3 275 78)), (0, (1, 275)), (1, (0, x))], [], w902) _
                  exact e_Pn.ret0 rfl ⟨rfl, q903⟩
              · show e_Pn 20 elay ecode eI n d 349 (372, [(2, (0, w3 275 78)), (0, (1, 275)), (1, (0, x))], [(1, 275)], w869) _
                refine e_Pn.run (t' := (391, [(2, (0, w3 275 78)), (0, (1, 275)), (1, (0, x))], [(0, w3 275 78), (0, 37), (1, 275)], w869)) eAlk 3 rfl ?_
                refine e_Pn.callA rfl (fun n9 d9 => u_336 (q870.rf hR)) (fun r905 w906 h904 => ?_)
                obtain ⟨⟨z907, rfl⟩, h904⟩ := h904
                have q908 := q870.tr h904
                show e_Pn 20 elay ecode eI n d 349 (394, [(2, (0, w3 275 78)), (0, (1, 275)), (1, (0, x))], [(0, z907)], w906) _
                refine e_Pn.run (t' := (399, [(2, (0, w3 275 78)), (0, (1, 275)), (1, (0, x))], [(0, 59), (1, 275), (1, 275)], w906)) eAlk 4 rfl ?_
                refine e_Pn.callA rfl (fun n9 d9 => u_331 (q908.rf hR)) (fun r910 w911 h909 => ?_)
                obtain ⟨⟨z912, rfl⟩, h909⟩ := h909
                have q913 := q908.tr h909
                show e_Pn 20 elay ecode eI n d 349 (402, [(2, (0, w3 275 78)), (0, (1, 275)), (1, (0, x))], [(0, z912), (1, 275)], w911) _
                refine e_Pn.callA rfl (fun n9 d9 => u_334 (q913.rf hR)) (fun r915 w916 h914 => ?_)
                obtain ⟨rfl, h914⟩ := h914
                have q917 := q913.tr h914
                show e_Pn 20 elay ecode eI n d 349 (405, [(2, (0, w3 275 78)), (0, (1, 275)), (1, (0, x))], [], w916) _
                exact e_Pn.ret0 rfl ⟨rfl, q917⟩
            · show e_Pn 20 elay ecode eI n d 349 (361, [(2, (0, w3 275 78)), (0, (1, 275)), (1, (0, x))], [(1, 275)], w869) _
              refine e_Pn.run (t' := (391, [(2, (0, w3 275 78)), (0, (1, 275)), (1, (0, x))], [(0, w3 275 78), (0, 36), (1, 275)], w869)) eAlk 3 rfl ?_
              refine e_Pn.callA rfl (fun n9 d9 => u_336 (q870.rf hR)) (fun r919 w920 h918 => ?_)
              obtain ⟨⟨z921, rfl⟩, h918⟩ := h918
              have q922 := q870.tr h918
              show e_Pn 20 elay ecode eI n d 349 (394, [(2, (0, w3 275 78)), (0, (1, 275)), (1, (0, x))], [(0, z921)], w920) _
              refine e_Pn.run (t' := (399, [(2, (0, w3 275 78)), (0, (1, 275)), (1, (0, x))], [(0, 59), (1, 275), (1, 275)], w920)) eAlk 4 rfl ?_
              refine e_Pn.callA rfl (fun n9 d9 => u_331 (q922.rf hR)) (fun r924 w925 h923 => ?_)
              obtain ⟨⟨z926, rfl⟩, h923⟩ := h923
              have q927 := q922.tr h923
              show e_Pn 20 elay ecode eI n d 349 (402, [(2, (0, w3 275 78)), (0, (1, 275)), (1, (0, x))], [(0, z926), (1, 275)], w925) _
              refine e_Pn.callA rfl (fun n9 d9 => u_334 (q927.rf hR)) (fun r929 w930 h928 => ?_)
              obtain ⟨rfl, h928⟩ := h928
              have q931 := q927.tr h928
              show e_Pn 20 elay ecode eI n d 349 (405, [(2, (0, w3 275 78)), (0, (1, 275)), (1, (0, x))], [], w930) _
              exact e_Pn.ret0 rfl ⟨rfl, q931⟩
          · show e_Pn 20 elay ecode eI n d 349 (350, [(2, (0, w3 275 78)), (0, (1, 275)), (1, (0, x))], [(1, 275)], w869) _
            refine e_Pn.run (t' := (391, [(2, (0, w3 275 78)), (0, (1, 275)), (1, (0, x))], [(0, w3 275 78), (0, 34), (1, 275)], w869)) eAlk 3 rfl ?_
            refine e_Pn.callA rfl (fun n9 d9 => u_336 (q870.rf hR)) (fun r933 w934 h932 => ?_)
            obtain ⟨⟨z935, rfl⟩, h932⟩ := h932
            have q936 := q870.tr h932
            show e_Pn 20 elay ecode eI n d 349 (394, [(2, (0, w3 275 78)), (0, (1, 275)), (1, (0, x))], [(0, z935)], w934) _
            refine e_Pn.run (t' := (399, [(2, (0, w3 275 78)), (0, (1, 275)), (1, (0, x))], [(0, 59), (1, 275), (1, 275)], w934)) eAlk 4 rfl ?_
            refine e_Pn.callA rfl (fun n9 d9 => u_331 (q936.rf hR)) (fun r938 w939 h937 => ?_)
            obtain ⟨⟨z940, rfl⟩, h937⟩ := h937
            have q941 := q936.tr h937
            show e_Pn 20 elay ecode eI n d 349 (402, [(2, (0, w3 275 78)), (0, (1, 275)), (1, (0, x))], [(0, z940), (1, 275)], w939) _
            refine e_Pn.callA rfl (fun n9 d9 => u_334 (q941.rf hR)) (fun r943 w944 h942 => ?_)
            obtain ⟨rfl, h942⟩ := h942
            have q945 := q941.tr h942
            show e_Pn 20 elay ecode eI n d 349 (405, [(2, (0, w3 275 78)), (0, (1, 275)), (1, (0, x))], [], w944) _
            exact e_Pn.ret0 rfl ⟨rfl, q945⟩
        · show e_Pn 20 elay ecode eI n d 349 (340, [(2, (0, w3 275 78)), (0, (1, 275)), (1, (0, x))], [(1, 275)], w869) _
          refine e_Pn.run (t' := (391, [(2, (0, w3 275 78)), (0, (1, 275)), (1, (0, x))], [(0, w3 275 78), (0, 33), (1, 275)], w869)) eAlk 3 rfl ?_
          refine e_Pn.callA rfl (fun n9 d9 => u_336 (q870.rf hR)) (fun r947 w948 h946 => ?_)
          obtain ⟨⟨z949, rfl⟩, h946⟩ := h946
          have q950 := q870.tr h946
          show e_Pn 20 elay ecode eI n d 349 (394, [(2, (0, w3 275 78)), (0, (1, 275)), (1, (0, x))], [(0, z949)], w948) _
          refine e_Pn.run (t' := (399, [(2, (0, w3 275 78)), (0, (1, 275)), (1, (0, x))], [(0, 59), (1, 275), (1, 275)], w948)) eAlk 4 rfl ?_
          refine e_Pn.callA rfl (fun n9 d9 => u_331 (q950.rf hR)) (fun r952 w953 h951 => ?_)
          obtain ⟨⟨z954, rfl⟩, h951⟩ := h951
          have q955 := q950.tr h951
          show e_Pn 20 elay ecode eI n d 349 (402, [(2, (0, w3 275 78)), (0, (1, 275)), (1, (0, x))], [(0, z954), (1, 275)], w953) _
          refine e_Pn.callA rfl (fun n9 d9 => u_334 (q955.rf hR)) (fun r957 w958 h956 => ?_)
          obtain ⟨rfl, h956⟩ := h956
          have q959 := q955.tr h956
          show e_Pn 20 elay ecode eI n d 349 (405, [(2, (0, w3 275 78)), (0, (1, 275)), (1, (0, x))], [], w958) _
          exact e_Pn.ret0 rfl ⟨rfl, q959⟩
      exact e_Pn.swU eAlk rfl ⟨a330, a148, a330, a330, a195, a330, a330, a224, a239, a330, a330, a283, a294, a254, a305, a316, a330, trivial⟩
theorem u_347 {n d : Nat} {w : eW} (hR : mRw w) : e_Pn 20 elay ecode eI n d 347 (0, [(0, (1, 275))], [], w) (fun r w' => (∃ z : Int, r = [(0, z)]) ∧ mq w w') := by
  refine e_Pn.run (t' := (1, [(0, (1, 275))], [(1, 275)], w)) eAlk 1 rfl ?_
  refine e_Pn.getf (z := w 275 88) eAlk rfl rfl rfl (fun b1 => ?_)
  refine e_Pn.if1 eAlk rfl (fun h2 => ?_) (fun h2 => ?_)
  · show e_Pn 20 elay ecode eI n d 347 (62, [(0, (1, 275))], [], w) _
    refine e_Pn.run (t' := (63, [(0, (1, 275))], [(0, 0)], w)) eAlk 1 rfl ?_
    exact e_Pn.ret4 rfl ⟨⟨_, rfl⟩, mq.r⟩
  · show e_Pn 20 elay ecode eI n d 347 (7, [(0, (1, 275))], [], w) _
    refine e_Pn.run (t' := (8, [(0, (1, 275))], [(1, 275)], w)) eAlk 1 rfl ?_
    refine e_Pn.getf (z := w 275 84) eAlk rfl rfl rfl (fun b3 => ?_)
    refine e_Pn.run (t' := (12, [(0, (1, 275))], [(0, 1), (0, w 275 84)], w)) eAlk 1 rfl ?_
    refine e_Pn.if2 eAlk rfl (fun h4 => ?_) (fun h4 => ?_)
    · show e_Pn 20 elay ecode eI n d 347 (58, [(0, (1, 275))], [], w) _
      refine e_Pn.run (t' := (63, [(0, (1, 275))], [(0, 1)], w)) eAlk 2 rfl ?_
      exact e_Pn.ret4 rfl ⟨⟨_, rfl⟩, mq.r⟩
    · show e_Pn 20 elay ecode eI n d 347 (15, [(0, (1, 275))], [], w) _
      refine e_Pn.run (t' := (16, [(0, (1, 275))], [(1, 275)], w)) eAlk 1 rfl ?_
      refine e_Pn.getf (z := w 275 84) eAlk rfl rfl rfl (fun b5 => ?_)
      refine e_Pn.run (t' := (20, [(0, (1, 275))], [(0, 4), (0, w 275 84)], w)) eAlk 1 rfl ?_
      refine e_Pn.if2 eAlk rfl (fun h6 => ?_) (fun h6 => ?_)
      · show e_Pn 20 elay ecode eI n d 347 (62, [(0, (1, 275))], [], w) _
        refine e_Pn.run (t' := (63, [(0, (1, 275))], [(0, 0)], w)) eAlk 1 rfl ?_
        exact e_Pn.ret4 rfl ⟨⟨_, rfl⟩, mq.r⟩
      · show e_Pn 20 elay ecode eI n d 347 (23, [(0, (1, 275))], [], w) _
        refine e_Pn.run (t' := (24, [(0, (1, 275))], [(1, 275)], w)) eAlk 1 rfl ?_
        refine e_Pn.getf (z := w 275 85) eAlk rfl rfl rfl (fun b7 => ?_)
        refine e_Pn.run (t' := (34, [(0, (1, 275))], [(4, 18), (4, 3), (4, w 275 85)], w)) eAlk 3 rfl ?_
        refine e_Pn.callA rfl (fun n9 d9 => u_266 (mq.r.rf hR)) (fun r9 w10 h8 => ?_)
        obtain ⟨⟨z11, rfl⟩, h8⟩ := h8
        have q12 := mq.r.tr h8
        show e_Pn 20 elay ecode eI n d 347 (37, [(0, (1, 275))], [(0, z11)], w10) _
        refine e_Pn.if1 eAlk rfl (fun h13 => ?_) (fun h13 => ?_)
        · show e_Pn 20 elay ecode eI n d 347 (58, [(0, (1, 275))], [], w10) _
          refine e_Pn.run (t' := (63, [(0, (1, 275))], [(0, 1)], w10)) eAlk 2 rfl ?_
          exact e_Pn.ret4 rfl ⟨⟨_, rfl⟩, q12⟩
        · show e_Pn 20 elay ecode eI n d 347 (40, [(0, (1, 275))], [], w10) _
          refine e_Pn.run (t' := (41, [(0, (1, 275))], [(1, 275)], w10)) eAlk 1 rfl ?_
          refine e_Pn.getf (z := w10 275 85) eAlk rfl rfl rfl (fun b14 => ?_)
          refine e_Pn.run (t' := (46, [(0, (1, 275))], [(0, 20), (0, w10 275 85)], w10)) eAlk 1 rfl ?_
          refine e_Pn.if2 eAlk rfl (fun h15 => ?_) (fun h15 => ?_)
          · show e_Pn 20 elay ecode eI n d 347 (58, [(0, (1, 275))], [], w10) _
            refine e_Pn.run (t' := (63, [(0, (1, 275))], [(0, 1)], w10)) eAlk 2 rfl ?_
            exact e_Pn.ret4 rfl ⟨⟨_, rfl⟩, q12⟩
          · show e_Pn 20 elay ecode eI n d 347 (49, [(0, (1, 275))], [], w10) _
            refine e_Pn.run (t' := (50, [(0, (1, 275))], [(1, 275)], w10)) eAlk 1 rfl ?_
            refine e_Pn.getf (z := w10 275 85) eAlk rfl rfl rfl (fun b16 => ?_)
            refine e_Pn.run (t' := (55, [(0, (1, 275))], [(0, 21), (0, w10 275 85)], w10)) eAlk 1 rfl ?_
            refine e_Pn.if2 eAlk rfl (fun h17 => ?_) (fun h17 => ?_)
            · show e_Pn 20 elay ecode eI n d 347 (62, [(0, (1, 275))], [], w10) _
              refine e_Pn.run (t' := (63, [(0, (1, 275))], [(0, 0)], w10)) eAlk 1 rfl ?_
              exact e_Pn.ret4 rfl ⟨⟨_, rfl⟩, q12⟩
            · show e_Pn 20 elay ecode eI n d 347 (58, [(0, (1, 275))], [], w10) _
              refine e_Pn.run (t' := (63, [(0, (1, 275))], [(0, 1)], w10)) eAlk 2 rfl ?_
              exact e_Pn.ret4 rfl ⟨⟨_, rfl⟩, q12⟩
def uS (k : Nat) : Prop := ∀ M, M ∈ [348, 350, 351, 352] → uP M k
set_option maxHeartbeats 4000000 in
theorem u_348 {n d : Nat} {w : eW} (hR : mRw w) (ihG : ∀ k, k < n → uS k) : e_Pn 20 elay ecode eI n d 348 (0, [(0, (1, 275))], [], w) (fun r w' => r = [] ∧ mq w w') := by
  have hL1 : ∀ nn3 : Nat, nn3 ≤ n → ∀ (tl4 : eL) (w5 : eW), mq w w5 → e_Pn 20 elay ecode eI nn3 d 348 (0, (0, (1, 275)) :: tl4, [], w5) (fun r w' => r = [] ∧ mq w w') := by
    intro nn3
    induction nn3 with
    | zero => intro _ tl4 w5 _; exact e_Pn.zero
    | succ nn3 ih2 =>
      intro hnnn3 tl4 w5 q6
      refine e_Pn.runS (t' := (1, (0, (1, 275)) :: tl4, [(1, 275)], w5)) eAlk 0 rfl ?_
      refine e_Pn.callA rfl (fun n9 d9 => u_347 (q6.rf hR)) (fun r8 w9 h7 => ?_)
      obtain ⟨⟨z10, rfl⟩, h7⟩ := h7
      have q11 := q6.tr h7
      show e_Pn 20 elay ecode eI nn3 d 348 (4, (0, (1, 275)) :: tl4, [(0, z10)], w9) _
      refine e_Pn.if1 eAlk rfl (fun h12 => ?_) (fun h12 => ?_)
      · show e_Pn 20 elay ecode eI nn3 d 348 (133, (0, (1, 275)) :: tl4, [], w9) _
        exact e_Pn.ret0 rfl ⟨rfl, q11⟩
      · show e_Pn 20 elay ecode eI nn3 d 348 (7, (0, (1, 275)) :: tl4, [], w9) _
        refine e_Pn.run (t' := (8, (0, (1, 275)) :: tl4, [(1, 275)], w9)) eAlk 1 rfl ?_
        refine e_Pn.getf (z := w9 275 84) eAlk rfl rfl rfl (fun b13 => ?_)
        refine e_Pn.run (t' := (12, (0, (1, 275)) :: tl4, [(0, 1), (0, w9 275 84)], w9)) eAlk 1 rfl ?_
        refine e_Pn.if2 eAlk rfl (fun h14 => ?_) (fun h14 => ?_)
        · show e_Pn 20 elay ecode eI nn3 d 348 (74, (0, (1, 275)) :: tl4, [], w9) _
          refine e_Pn.run (t' := (75, (0, (1, 275)) :: tl4, [(1, 275)], w9)) eAlk 1 rfl ?_
          refine e_Pn.getf (z := w9 275 85) eAlk rfl rfl rfl (fun b15 => ?_)
          refine e_Pn.run (t' := (80, (0, (1, 275)) :: tl4, [(0, 18), (0, w9 275 85)], w9)) eAlk 1 rfl ?_
          refine e_Pn.if2 eAlk rfl (fun h16 => ?_) (fun h16 => ?_)
          · show e_Pn 20 elay ecode eI nn3 d 348 (90, (0, (1, 275)) :: tl4, [], w9) _
            refine e_Pn.run (t' := (91, (0, (1, 275)) :: tl4, [(1, 275)], w9)) eAlk 1 rfl ?_
            refine e_Pn.getf (z := w9 275 85) eAlk rfl rfl rfl (fun b17 => ?_)
            refine e_Pn.run (t' := (96, (0, (1, 275)) :: tl4, [(0, 20), (0, w9 275 85)], w9)) eAlk 1 rfl ?_
            refine e_Pn.if2 eAlk rfl (fun h18 => ?_) (fun h18 => ?_)
            · show e_Pn 20 elay ecode eI nn3 d 348 (106, (0, (1, 275)) :: tl4, [], w9) _
              refine e_Pn.run (t' := (107, (0, (1, 275)) :: tl4, [(1, 275)], w9)) eAlk 1 rfl ?_
              refine e_Pn.getf (z := w9 275 85) eAlk rfl rfl rfl (fun b19 => ?_)
              refine e_Pn.run (t' := (112, (0, (1, 275)) :: tl4, [(0, 21), (0, w9 275 85)], w9)) eAlk 1 rfl ?_
              refine e_Pn.if2 eAlk rfl (fun h20 => ?_) (fun h20 => ?_)
              · show e_Pn 20 elay ecode eI nn3 d 348 (122, (0, (1, 275)) :: tl4, [], w9) _
                refine e_Pn.run (t' := (124, (0, (1, 275)) :: tl4, [(1, 275), (1, 275)], w9)) eAlk 2 rfl ?_
                refine e_Pn.getf (z := w9 275 85) eAlk rfl rfl rfl (fun b21 => ?_)
                refine e_Pn.callA rfl (fun n9 d9 => u_349 (q11.rf hR)) (fun r23 w24 h22 => ?_)
                obtain ⟨rfl, h22⟩ := h22
                have q25 := q11.tr h22
                show e_Pn 20 elay ecode eI nn3 d 348 (130, (0, (1, 275)) :: tl4, [], w24) _
                refine e_Pn.run (t' := (0, (0, (1, 275)) :: tl4, [], w24)) eAlk 1 rfl ?_
                exact e_Pn.ord eAlk [0] rfl rfl ((ih2 (by omega) _ w24 q25).le (by omega))
              · show e_Pn 20 elay ecode eI nn3 d 348 (115, (0, (1, 275)) :: tl4, [], w9) _
                refine e_Pn.run (t' := (116, (0, (1, 275)) :: tl4, [(1, 275)], w9)) eAlk 1 rfl ?_
                refine e_Pn.callB rfl (fun k9 hk9 d9 => ihG k9 (by omega) 352 (by decide) d9 _ (q11.rf hR)) (fun r27 w28 h26 => ?_)
                obtain ⟨rfl, h26⟩ := h26
                have q29 := q11.tr h26
                show e_Pn 20 elay ecode eI nn3 d 348 (119, (0, (1, 275)) :: tl4, [], w28) _
                refine e_Pn.run (t' := (0, (0, (1, 275)) :: tl4, [], w28)) eAlk 1 rfl ?_
                exact e_Pn.ord eAlk [0] rfl rfl ((ih2 (by omega) _ w28 q29).le (by omega))
            · show e_Pn 20 elay ecode eI nn3 d 348 (99, (0, (1, 275)) :: tl4, [], w9) _
              refine e_Pn.run (t' := (100, (0, (1, 275)) :: tl4, [(1, 275)], w9)) eAlk 1 rfl ?_
              refine e_Pn.callB rfl (fun k9 hk9 d9 => ihG k9 (by omega) 351 (by decide) d9 _ (q11.rf hR)) (fun r31 w32 h30 => ?_)
              obtain ⟨rfl, h30⟩ := h30
              have q33 := q11.tr h30
              show e_Pn 20 elay ecode eI nn3 d 348 (103, (0, (1, 275)) :: tl4, [], w32) _
              refine e_Pn.run (t' := (0, (0, (1, 275)) :: tl4, [], w32)) eAlk 1 rfl ?_
              exact e_Pn.ord eAlk [0] rfl rfl ((ih2 (by omega) _ w32 q33).le (by omega))
          · show e_Pn 20 elay ecode eI nn3 d 348 (83, (0, (1, 275)) :: tl4, [], w9) _
            refine e_Pn.run (t' := (84, (0, (1, 275)) :: tl4, [(1, 275)], w9)) eAlk 1 rfl ?_
            refine e_Pn.callB rfl (fun k9 hk9 d9 => ihG k9 (by omega) 350 (by decide) d9 _ (q11.rf hR)) (fun r35 w36 h34 => ?_)
            obtain ⟨rfl, h34⟩ := h34
            have q37 := q11.tr h34
            show e_Pn 20 elay ecode eI nn3 d 348 (87, (0, (1, 275)) :: tl4, [], w36) _
            refine e_Pn.run (t' := (0, (0, (1, 275)) :: tl4, [], w36)) eAlk 1 rfl ?_
            exact e_Pn.ord eAlk [0] rfl rfl ((ih2 (by omega) _ w36 q37).le (by omega))
        · show e_Pn 20 elay ecode eI nn3 d 348 (15, (0, (1, 275)) :: tl4, [], w9) _
          refine e_Pn.run (t' := (19, (0, (1, 275)) :: tl4, [(0, 0), (0, 30), (1, 275)], w9)) eAlk 3 rfl ?_
          refine e_Pn.callA rfl (fun n9 d9 => u_336 (q11.rf hR)) (fun r39 w40 h38 => ?_)
          obtain ⟨⟨z41, rfl⟩, h38⟩ := h38
          have q42 := q11.tr h38
          show e_Pn 20 elay ecode eI nn3 d 348 (22, (0, (1, 275)) :: tl4, [(0, z41)], w40) _
          refine e_Pn.run (t' := (24, (0, (1, 275)) :: tl4, [(1, 275)], w40)) eAlk 2 rfl ?_
          refine e_Pn.getf (z := w40 275 94) eAlk rfl rfl rfl (fun b43 => ?_)
          refine e_Pn.run (t' := (31, (1, (0, w40 275 94)) :: (0, (1, 275)) :: List.filter (e_flt 0 1) tl4, [(0, 0), (0, 2), (1, 275)], w40)) eAlk 4 rfl ?_
          refine e_Pn.callA rfl (fun n9 d9 => u_338 (q42.rf hR)) (fun r45 w46 h44 => ?_)
          obtain ⟨rfl, h44⟩ := h44
          have q47 := q42.tr h44
          show e_Pn 20 elay ecode eI nn3 d 348 (34, (1, (0, w40 275 94)) :: (0, (1, 275)) :: List.filter (e_flt 0 1) tl4, [], w46) _
          refine e_Pn.run (t' := (38, (1, (0, w40 275 94)) :: (0, (1, 275)) :: List.filter (e_flt 0 1) tl4, [(0, 61), (1, 275), (1, 275)], w46)) eAlk 3 rfl ?_
          refine e_Pn.callA rfl (fun n9 d9 => u_331 (q47.rf hR)) (fun r49 w50 h48 => ?_)
          obtain ⟨⟨z51, rfl⟩, h48⟩ := h48
          have q52 := q47.tr h48
          show e_Pn 20 elay ecode eI nn3 d 348 (41, (1, (0, w40 275 94)) :: (0, (1, 275)) :: List.filter (e_flt 0 1) tl4, [(0, z51), (1, 275)], w50) _
          refine e_Pn.callA rfl (fun n9 d9 => u_334 (q52.rf hR)) (fun r54 w55 h53 => ?_)
          obtain ⟨rfl, h53⟩ := h53
          have q56 := q52.tr h53
          show e_Pn 20 elay ecode eI nn3 d 348 (44, (1, (0, w40 275 94)) :: (0, (1, 275)) :: List.filter (e_flt 0 1) tl4, [], w55) _
          refine e_Pn.run (t' := (45, (1, (0, w40 275 94)) :: (0, (1, 275)) :: List.filter (e_flt 0 1) tl4, [(1, 275)], w55)) eAlk 1 rfl ?_
          refine e_Pn.callA rfl (fun n9 d9 => uE_all n9 339 (by decide) d9 _ (q56.rf hR)) (fun r58 w59 h57 => ?_)
          obtain ⟨rfl, h57⟩ := h57
          have q60 := q56.tr h57
          show e_Pn 20 elay ecode eI nn3 d 348 (48, (1, (0, w40 275 94)) :: (0, (1, 275)) :: List.filter (e_flt 0 1) tl4, [], w59) _
          refine e_Pn.run (t' := (52, (1, (0, w40 275 94)) :: (0, (1, 275)) :: List.filter (e_flt 0 1) tl4, [(0, 59), (1, 275), (1, 275)], w59)) eAlk 3 rfl ?_
          refine e_Pn.callA rfl (fun n9 d9 => u_331 (q60.rf hR)) (fun r62 w63 h61 => ?_)
          obtain ⟨⟨z64, rfl⟩, h61⟩ := h61
          have q65 := q60.tr h61
          show e_Pn 20 elay ecode eI nn3 d 348 (55, (1, (0, w40 275 94)) :: (0, (1, 275)) :: List.filter (e_flt 0 1) tl4, [(0, z64), (1, 275)], w63) _
          refine e_Pn.callA rfl (fun n9 d9 => u_334 (q65.rf hR)) (fun r67 w68 h66 => ?_)
          obtain ⟨rfl, h66⟩ := h66
          have q69 := q65.tr h66
          show e_Pn 20 elay ecode eI nn3 d 348 (58, (1, (0, w40 275 94)) :: (0, (1, 275)) :: List.filter (e_flt 0 1) tl4, [], w68) _
          refine e_Pn.run (t' := (59, (1, (0, w40 275 94)) :: (0, (1, 275)) :: List.filter (e_flt 0 1) tl4, [(1, 275)], w68)) eAlk 1 rfl ?_
          refine e_Pn.getr (z := 344) eAlk rfl rfl (q69.rf hR (93, 344) (by decide)) (by omega) ?_
          refine e_Pn.run (t' := (67, (1, (0, w40 275 94)) :: (0, (1, 275)) :: List.filter (e_flt 0 1) tl4, [(0, 0), (0, 31), (1, 275), (0, w40 275 94), (1, 344)], w68)) eAlk 4 rfl ?_
          refine e_Pn.callA rfl (fun n9 d9 => u_336 (q69.rf hR)) (fun r71 w72 h70 => ?_)
          obtain ⟨⟨z73, rfl⟩, h70⟩ := h70
          have q74 := q69.tr h70
          show e_Pn 20 elay ecode eI nn3 d 348 (70, (1, (0, w40 275 94)) :: (0, (1, 275)) :: List.filter (e_flt 0 1) tl4, [(0, z73), (0, w40 275 94), (1, 344)], w72) _
          refine e_Pn.ast eAlk rfl rfl rfl (fun b75 b76 => ?_)
          generalize hw77 : e_up w72 344 (w40 275 94) z73 = w77
          have q78 : mq w w77 := mq.upA q74 hw77 (by decide)
          refine e_Pn.run (t' := (0, (1, (0, w40 275 94)) :: (0, (1, 275)) :: List.filter (e_flt 0 1) tl4, [], w77)) eAlk 1 rfl ?_
          exact e_Pn.ord eAlk [0] rfl rfl ((ih2 (by omega) _ w77 q78).le (by omega))
  exact e_Pn.ord eAlk [0] rfl rfl (hL1 n (Nat.le_refl _) _ w mq.r)
set_option maxHeartbeats 4000000 in
theorem u_350 {n d : Nat} {w : eW} (hR : mRw w) (ihG : ∀ k, k < n → uS k) : e_Pn 20 elay ecode eI n d 350 (0, [(0, (1, 275))], [], w) (fun r w' => r = [] ∧ mq w w') := by
  refine e_Pn.run (t' := (1, [(0, (1, 275))], [(1, 275)], w)) eAlk 1 rfl ?_
  refine e_Pn.callA rfl (fun n9 d9 => u_335 (mq.r.rf hR)) (fun r2 w3 h1 => ?_)
  obtain ⟨rfl, h1⟩ := h1
  have q4 := mq.r.tr h1
  show e_Pn 20 elay ecode eI n d 350 (4, [(0, (1, 275))], [], w3) _
  refine e_Pn.run (t' := (8, [(0, (1, 275))], [(0, 0), (0, 30), (1, 275)], w3)) eAlk 3 rfl ?_
  refine e_Pn.callA rfl (fun n9 d9 => u_336 (q4.rf hR)) (fun r6 w7 h5 => ?_)
  obtain ⟨⟨z8, rfl⟩, h5⟩ := h5
  have q9 := q4.tr h5
  show e_Pn 20 elay ecode eI n d 350 (11, [(0, (1, 275))], [(0, z8)], w7) _
  refine e_Pn.run (t' := (16, [(0, (1, 275))], [(0, 18), (1, 275), (1, 275)], w7)) eAlk 4 rfl ?_
  refine e_Pn.callA rfl (fun n9 d9 => u_332 (q9.rf hR)) (fun r11 w12 h10 => ?_)
  obtain ⟨⟨z13, rfl⟩, h10⟩ := h10
  have q14 := q9.tr h10
  show e_Pn 20 elay ecode eI n d 350 (19, [(0, (1, 275))], [(0, z13), (1, 275)], w12) _
  refine e_Pn.callA rfl (fun n9 d9 => u_334 (q14.rf hR)) (fun r16 w17 h15 => ?_)
  obtain ⟨rfl, h15⟩ := h15
  have q18 := q14.tr h15
  show e_Pn 20 elay ecode eI n d 350 (22, [(0, (1, 275))], [], w17) _
  refine e_Pn.run (t' := (23, [(0, (1, 275))], [(1, 275)], w17)) eAlk 1 rfl ?_
  refine e_Pn.callA rfl (fun n9 d9 => uE_all n9 339 (by decide) d9 _ (q18.rf hR)) (fun r20 w21 h19 => ?_)
  obtain ⟨rfl, h19⟩ := h19
  have q22 := q18.tr h19
  show e_Pn 20 elay ecode eI n d 350 (26, [(0, (1, 275))], [], w21) _
  refine e_Pn.run (t' := (30, [(0, (1, 275))], [(0, 58), (1, 275), (1, 275)], w21)) eAlk 3 rfl ?_
  refine e_Pn.callA rfl (fun n9 d9 => u_331 (q22.rf hR)) (fun r24 w25 h23 => ?_)
  obtain ⟨⟨z26, rfl⟩, h23⟩ := h23
  have q27 := q22.tr h23
  show e_Pn 20 elay ecode eI n d 350 (33, [(0, (1, 275))], [(0, z26), (1, 275)], w25) _
  refine e_Pn.callA rfl (fun n9 d9 => u_334 (q27.rf hR)) (fun r29 w30 h28 => ?_)
  obtain ⟨rfl, h28⟩ := h28
  have q31 := q27.tr h28
  show e_Pn 20 elay ecode eI n d 350 (36, [(0, (1, 275))], [], w30) _
  refine e_Pn.run (t' := (40, [(0, (1, 275))], [(0, 0), (0, 47), (1, 275)], w30)) eAlk 3 rfl ?_
  refine e_Pn.callA rfl (fun n9 d9 => u_336 (q31.rf hR)) (fun r33 w34 h32 => ?_)
  obtain ⟨⟨z35, rfl⟩, h32⟩ := h32
  have q36 := q31.tr h32
  show e_Pn 20 elay ecode eI n d 350 (43, [(0, (1, 275))], [(0, z35)], w34) _
  refine e_Pn.run (t' := (45, [(1, (0, z35)), (0, (1, 275))], [(1, 275)], w34)) eAlk 2 rfl ?_
  refine e_Pn.callB rfl (fun k9 hk9 d9 => ihG k9 (by omega) 348 (by decide) d9 _ (q36.rf hR)) (fun r38 w39 h37 => ?_)
  obtain ⟨rfl, h37⟩ := h37
  have q40 := q36.tr h37
  show e_Pn 20 elay ecode eI n d 350 (48, [(1, (0, z35)), (0, (1, 275))], [], w39) _
  refine e_Pn.run (t' := (49, [(1, (0, z35)), (0, (1, 275))], [(1, 275)], w39)) eAlk 1 rfl ?_
  refine e_Pn.getf (z := w39 275 88) eAlk rfl rfl rfl (fun b41 => ?_)
  refine e_Pn.if1 eAlk rfl (fun h42 => ?_) (fun h42 => ?_)
  · show e_Pn 20 elay ecode eI n d 350 (103, [(1, (0, z35)), (0, (1, 275))], [], w39) _
    refine e_Pn.run (t' := (105, [(1, (0, z35)), (0, (1, 275))], [(0, z35), (1, 275)], w39)) eAlk 2 rfl ?_
    refine e_Pn.callA rfl (fun n9 d9 => u_337 (q40.rf hR)) (fun r44 w45 h43 => ?_)
    obtain ⟨rfl, h43⟩ := h43
    have q46 := q40.tr h43
    show e_Pn 20 elay ecode eI n d 350 (108, [(1, (0, z35)), (0, (1, 275))], [], w45) _
    refine e_Pn.run (t' := (111, [(1, (0, z35)), (0, (1, 275))], [(0, 2), (1, 275), (1, 275)], w45)) eAlk 3 rfl ?_
    refine e_Pn.callA rfl (fun n9 d9 => u_332 (q46.rf hR)) (fun r48 w49 h47 => ?_)
    obtain ⟨⟨z50, rfl⟩, h47⟩ := h47
    have q51 := q46.tr h47
    show e_Pn 20 elay ecode eI n d 350 (114, [(1, (0, z35)), (0, (1, 275))], [(0, z50), (1, 275)], w49) _
    refine e_Pn.callA rfl (fun n9 d9 => u_334 (q51.rf hR)) (fun r53 w54 h52 => ?_)
    obtain ⟨rfl, h52⟩ := h52
    have q55 := q51.tr h52
    show e_Pn 20 elay ecode eI n d 350 (117, [(1, (0, z35)), (0, (1, 275))], [], w54) _
    refine e_Pn.run (t' := (119, [(1, (0, z35)), (0, (1, 275))], [(1, 275), (1, 275)], w54)) eAlk 2 rfl ?_
    refine e_Pn.getf (z := w54 275 83) eAlk rfl rfl rfl (fun b56 => ?_)
    refine e_Pn.run (t' := (123, [(1, (0, z35)), (0, (1, 275))], [(0, 1), (0, w54 275 83), (1, 275)], w54)) eAlk 1 rfl ?_
    refine e_Pn.bin0 eAlk rfl (fun z57 hz57 => ?_)
    refine e_Pn.putf eAlk rfl rfl ?_
    generalize hw58 : e_up w54 275 83 z57 = w58
    have q59 : mq w w58 := mq.upF q55 hw58 (by decide) (by decide +kernel)
    exact e_Pn.ret0 rfl ⟨rfl, q59⟩
  · show e_Pn 20 elay ecode eI n d 350 (55, [(1, (0, z35)), (0, (1, 275))], [], w39) _
    refine e_Pn.run (t' := (58, [(1, (0, z35)), (0, (1, 275))], [(0, 19), (1, 275)], w39)) eAlk 2 rfl ?_
    refine e_Pn.callA rfl (fun n9 d9 => u_332 (q40.rf hR)) (fun r61 w62 h60 => ?_)
    obtain ⟨⟨z63, rfl⟩, h60⟩ := h60
    have q64 := q40.tr h60
    show e_Pn 20 elay ecode eI n d 350 (61, [(1, (0, z35)), (0, (1, 275))], [(0, z63)], w62) _
    refine e_Pn.if1 eAlk rfl (fun h65 => ?_) (fun h65 => ?_)
    · show e_Pn 20 elay ecode eI n d 350 (103, [(1, (0, z35)), (0, (1, 275))], [], w62) _
      refine e_Pn.run (t' := (105, [(1, (0, z35)), (0, (1, 275))], [(0, z35), (1, 275)], w62)) eAlk 2 rfl ?_
      refine e_Pn.callA rfl (fun n9 d9 => u_337 (q64.rf hR)) (fun r67 w68 h66 => ?_)
      obtain ⟨rfl, h66⟩ := h66
      have q69 := q64.tr h66
      show e_Pn 20 elay ecode eI n d 350 (108, [(1, (0, z35)), (0, (1, 275))], [], w68) _
      refine e_Pn.run (t' := (111, [(1, (0, z35)), (0, (1, 275))], [(0, 2), (1, 275), (1, 275)], w68)) eAlk 3 rfl ?_
      refine e_Pn.callA rfl (fun n9 d9 => u_332 (q69.rf hR)) (fun r71 w72 h70 => ?_)
      obtain ⟨⟨z73, rfl⟩, h70⟩ := h70
      have q74 := q69.tr h70
      show e_Pn 20 elay ecode eI n d 350 (114, [(1, (0, z35)), (0, (1, 275))], [(0, z73), (1, 275)], w72) _
      refine e_Pn.callA rfl (fun n9 d9 => u_334 (q74.rf hR)) (fun r76 w77 h75 => ?_)
      obtain ⟨rfl, h75⟩ := h75
      have q78 := q74.tr h75
      show e_Pn 20 elay ecode eI n d 350 (117, [(1, (0, z35)), (0, (1, 275))], [], w77) _
      refine e_Pn.run (t' := (119, [(1, (0, z35)), (0, (1, 275))], [(1, 275), (1, 275)], w77)) eAlk 2 rfl ?_
      refine e_Pn.getf (z := w77 275 83) eAlk rfl rfl rfl (fun b79 => ?_)
      refine e_Pn.run (t' := (123, [(1, (0, z35)), (0, (1, 275))], [(0, 1), (0, w77 275 83), (1, 275)], w77)) eAlk 1 rfl ?_
      refine e_Pn.bin0 eAlk rfl (fun z80 hz80 => ?_)
      refine e_Pn.putf eAlk rfl rfl ?_
      generalize hw81 : e_up w77 275 83 z80 = w81
      have q82 : mq w w81 := mq.upF q78 hw81 (by decide) (by decide +kernel)
      exact e_Pn.ret0 rfl ⟨rfl, q82⟩
    · show e_Pn 20 elay ecode eI n d 350 (64, [(1, (0, z35)), (0, (1, 275))], [], w62) _
      refine e_Pn.run (t' := (65, [(1, (0, z35)), (0, (1, 275))], [(1, 275)], w62)) eAlk 1 rfl ?_
      refine e_Pn.callA rfl (fun n9 d9 => u_327 (q64.rf hR)) (fun r84 w85 h83 => ?_)
      obtain ⟨rfl, h83⟩ := h83
      have q86 := q64.tr h83
      show e_Pn 20 elay ecode eI n d 350 (68, [(1, (0, z35)), (0, (1, 275))], [], w85) _
      refine e_Pn.run (t' := (72, [(1, (0, z35)), (0, (1, 275))], [(0, 58), (1, 275), (1, 275)], w85)) eAlk 3 rfl ?_
      refine e_Pn.callA rfl (fun n9 d9 => u_331 (q86.rf hR)) (fun r88 w89 h87 => ?_)
      obtain ⟨⟨z90, rfl⟩, h87⟩ := h87
      have q91 := q86.tr h87
      show e_Pn 20 elay ecode eI n d 350 (75, [(1, (0, z35)), (0, (1, 275))], [(0, z90), (1, 275)], w89) _
      refine e_Pn.callA rfl (fun n9 d9 => u_334 (q91.rf hR)) (fun r93 w94 h92 => ?_)
      obtain ⟨rfl, h92⟩ := h92
      have q95 := q91.tr h92
      show e_Pn 20 elay ecode eI n d 350 (78, [(1, (0, z35)), (0, (1, 275))], [], w94) _
      refine e_Pn.run (t' := (82, [(1, (0, z35)), (0, (1, 275))], [(0, 0), (0, 48), (1, 275)], w94)) eAlk 3 rfl ?_
      refine e_Pn.callA rfl (fun n9 d9 => u_336 (q95.rf hR)) (fun r97 w98 h96 => ?_)
      obtain ⟨⟨z99, rfl⟩, h96⟩ := h96
      have q100 := q95.tr h96
      show e_Pn 20 elay ecode eI n d 350 (85, [(1, (0, z35)), (0, (1, 275))], [(0, z99)], w98) _
      refine e_Pn.run (t' := (88, [(2, (0, z99)), (1, (0, z35)), (0, (1, 275))], [(0, z35), (1, 275)], w98)) eAlk 3 rfl ?_
      refine e_Pn.callA rfl (fun n9 d9 => u_337 (q100.rf hR)) (fun r102 w103 h101 => ?_)
      obtain ⟨rfl, h101⟩ := h101
      have q104 := q100.tr h101
      show e_Pn 20 elay ecode eI n d 350 (91, [(2, (0, z99)), (1, (0, z35)), (0, (1, 275))], [], w103) _
      refine e_Pn.run (t' := (92, [(2, (0, z99)), (1, (0, z35)), (0, (1, 275))], [(1, 275)], w103)) eAlk 1 rfl ?_
      refine e_Pn.callB rfl (fun k9 hk9 d9 => ihG k9 (by omega) 348 (by decide) d9 _ (q104.rf hR)) (fun r106 w107 h105 => ?_)
      obtain ⟨rfl, h105⟩ := h105
      have q108 := q104.tr h105
      show e_Pn 20 elay ecode eI n d 350 (95, [(2, (0, z99)), (1, (0, z35)), (0, (1, 275))], [], w107) _
      refine e_Pn.run (t' := (97, [(2, (0, z99)), (1, (0, z35)), (0, (1, 275))], [(0, z99), (1, 275)], w107)) eAlk 2 rfl ?_
      refine e_Pn.callA rfl (fun n9 d9 => u_337 (q108.rf hR)) (fun r110 w111 h109 => ?_)
      obtain ⟨rfl, h109⟩ := h109
      have q112 := q108.tr h109
      show e_Pn 20 elay ecode eI n d 350 (100, [(2, (0, z99)), (1, (0, z35)), (0, (1, 275))], [], w111) _
      refine e_Pn.run (t' := (111, [(2, (0, z99)), (1, (0, z35)), (0, (1, 275))], [(0, 2), (1, 275), (1, 275)], w111)) eAlk 4 rfl ?_
      refine e_Pn.callA rfl (fun n9 d9 => u_332 (q112.rf hR)) (fun r114 w115 h113 => ?_)
      obtain ⟨⟨z116, rfl⟩, h113⟩ := h113
      have q117 := q112.tr h113
      show e_Pn 20 elay ecode eI n d 350 (114, [(2, (0, z99)), (1, (0, z35)), (0, (1, 275))], [(0, z116), (1, 275)], w115) _
      refine e_Pn.callA rfl (fun n9 d9 => u_334 (q117.rf hR)) (fun r119 w120 h118 => ?_)
      obtain ⟨rfl, h118⟩ := h118
      have q121 := q117.tr h118
      show e_Pn 20 elay ecode eI n d 350 (117, [(2, (0, z99)), (1, (0, z35)), (0, (1, 275))], [], w120) _
      refine e_Pn.run (t' := (119, [(2, (0, z99)), (1, (0, z35)), (0, (1, 275))], [(1, 275), (1, 275)], w120)) eAlk 2 rfl ?_
      refine e_Pn.getf (z := w120 275 83) eAlk rfl rfl rfl (fun b122 => ?_)
      refine e_Pn.run (t' := (123, [(2, (0, z99)), (1, (0, z35)), (0, (1, 275))], [(0, 1), (0, w120 275 83), (1, 275)], w120)) eAlk 1 rfl ?_
      refine e_Pn.bin0 eAlk rfl (fun z123 hz123 => ?_)
      refine e_Pn.putf eAlk rfl rfl ?_
      generalize hw124 : e_up w120 275 83 z123 = w124
      have q125 : mq w w124 := mq.upF q121 hw124 (by decide) (by decide +kernel)
      exact e_Pn.ret0 rfl ⟨rfl, q125⟩
set_option maxHeartbeats 4000000 in
theorem u_351 {n d : Nat} {w : eW} (hR : mRw w) (ihG : ∀ k, k < n → uS k) : e_Pn 20 elay ecode eI n d 351 (0, [(0, (1, 275))], [], w) (fun r w' => r = [] ∧ mq w w') := by
  refine e_Pn.run (t' := (1, [(0, (1, 275))], [(1, 275)], w)) eAlk 1 rfl ?_
  refine e_Pn.callA rfl (fun n9 d9 => u_335 (mq.r.rf hR)) (fun r2 w3 h1 => ?_)
  obtain ⟨rfl, h1⟩ := h1
  have q4 := mq.r.tr h1
  show e_Pn 20 elay ecode eI n d 351 (4, [(0, (1, 275))], [], w3) _
  refine e_Pn.run (t' := (5, [(0, (1, 275))], [(1, 275)], w3)) eAlk 1 rfl ?_
  refine e_Pn.getf (z := w3 275 80) eAlk rfl rfl rfl (fun b5 => ?_)
  refine e_Pn.run (t' := (11, [(1, (0, w3 275 80)), (0, (1, 275))], [(1, 275), (1, 275)], w3)) eAlk 3 rfl ?_
  refine e_Pn.getf (z := w3 275 80) eAlk rfl rfl rfl (fun b6 => ?_)
  refine e_Pn.run (t' := (15, [(1, (0, w3 275 80)), (0, (1, 275))], [(0, 1), (0, w3 275 80), (1, 275)], w3)) eAlk 1 rfl ?_
  refine e_Pn.bin0 eAlk rfl (fun z7 hz7 => ?_)
  refine e_Pn.putf eAlk rfl rfl ?_
  generalize hw8 : e_up w3 275 80 z7 = w8
  have q9 : mq w w8 := mq.upF q4 hw8 (by decide) (by decide +kernel)
  refine e_Pn.run (t' := (20, [(1, (0, w3 275 80)), (0, (1, 275))], [(1, 275)], w8)) eAlk 1 rfl ?_
  refine e_Pn.getf (z := w8 275 82) eAlk rfl rfl rfl (fun b10 => ?_)
  refine e_Pn.run (t' := (25, [(2, (0, w8 275 82)), (1, (0, w3 275 80)), (0, (1, 275))], [(1, 275)], w8)) eAlk 2 rfl ?_
  refine e_Pn.getr (z := 335) eAlk rfl rfl (q9.rf hR (72, 335) (by decide)) (by omega) ?_
  refine e_Pn.run (t' := (32, [(2, (0, w8 275 82)), (1, (0, w3 275 80)), (0, (1, 275))], [(0, w3 275 80), (0, 3600), (1, 335)], w8)) eAlk 2 rfl ?_
  refine e_Pn.bin0 eAlk rfl (fun z11 hz11 => ?_)
  refine e_Pn.run (t' := (34, [(2, (0, w8 275 82)), (1, (0, w3 275 80)), (0, (1, 275))], [(1, 275), (0, z11), (1, 335)], w8)) eAlk 1 rfl ?_
  refine e_Pn.getf (z := w8 275 81) eAlk rfl rfl rfl (fun b12 => ?_)
  refine e_Pn.ast eAlk rfl rfl rfl (fun b13 b14 => ?_)
  generalize hw15 : e_up w8 335 z11 (w8 275 81) = w15
  have q16 : mq w w15 := mq.upA q9 hw15 (by decide)
  refine e_Pn.run (t' := (42, [(2, (0, w8 275 82)), (1, (0, w3 275 80)), (0, (1, 275))], [(0, 0), (0, 30), (1, 275)], w15)) eAlk 3 rfl ?_
  refine e_Pn.callA rfl (fun n9 d9 => u_336 (q16.rf hR)) (fun r18 w19 h17 => ?_)
  obtain ⟨⟨z20, rfl⟩, h17⟩ := h17
  have q21 := q16.tr h17
  show e_Pn 20 elay ecode eI n d 351 (45, [(2, (0, w8 275 82)), (1, (0, w3 275 80)), (0, (1, 275))], [(0, z20)], w19) _
  refine e_Pn.run (t' := (50, [(3, (0, z20)), (2, (0, w8 275 82)), (1, (0, w3 275 80)), (0, (1, 275))], [(0, 20), (1, 275), (1, 275)], w19)) eAlk 4 rfl ?_
  refine e_Pn.callA rfl (fun n9 d9 => u_332 (q21.rf hR)) (fun r23 w24 h22 => ?_)
  obtain ⟨⟨z25, rfl⟩, h22⟩ := h22
  have q26 := q21.tr h22
  show e_Pn 20 elay ecode eI n d 351 (53, [(3, (0, z20)), (2, (0, w8 275 82)), (1, (0, w3 275 80)), (0, (1, 275))], [(0, z25), (1, 275)], w24) _
  refine e_Pn.callA rfl (fun n9 d9 => u_334 (q26.rf hR)) (fun r28 w29 h27 => ?_)
  obtain ⟨rfl, h27⟩ := h27
  have q30 := q26.tr h27
  show e_Pn 20 elay ecode eI n d 351 (56, [(3, (0, z20)), (2, (0, w8 275 82)), (1, (0, w3 275 80)), (0, (1, 275))], [], w29) _
  refine e_Pn.run (t' := (57, [(3, (0, z20)), (2, (0, w8 275 82)), (1, (0, w3 275 80)), (0, (1, 275))], [(1, 275)], w29)) eAlk 1 rfl ?_
  refine e_Pn.callA rfl (fun n9 d9 => uE_all n9 339 (by decide) d9 _ (q30.rf hR)) (fun r32 w33 h31 => ?_)
  obtain ⟨rfl, h31⟩ := h31
  have q34 := q30.tr h31
  show e_Pn 20 elay ecode eI n d 351 (60, [(3, (0, z20)), (2, (0, w8 275 82)), (1, (0, w3 275 80)), (0, (1, 275))], [], w33) _
  refine e_Pn.run (t' := (64, [(3, (0, z20)), (2, (0, w8 275 82)), (1, (0, w3 275 80)), (0, (1, 275))], [(0, 58), (1, 275), (1, 275)], w33)) eAlk 3 rfl ?_
  refine e_Pn.callA rfl (fun n9 d9 => u_331 (q34.rf hR)) (fun r36 w37 h35 => ?_)
  obtain ⟨⟨z38, rfl⟩, h35⟩ := h35
  have q39 := q34.tr h35
  show e_Pn 20 elay ecode eI n d 351 (67, [(3, (0, z20)), (2, (0, w8 275 82)), (1, (0, w3 275 80)), (0, (1, 275))], [(0, z38), (1, 275)], w37) _
  refine e_Pn.callA rfl (fun n9 d9 => u_334 (q39.rf hR)) (fun r41 w42 h40 => ?_)
  obtain ⟨rfl, h40⟩ := h40
  have q43 := q39.tr h40
  show e_Pn 20 elay ecode eI n d 351 (70, [(3, (0, z20)), (2, (0, w8 275 82)), (1, (0, w3 275 80)), (0, (1, 275))], [], w42) _
  refine e_Pn.run (t' := (74, [(3, (0, z20)), (2, (0, w8 275 82)), (1, (0, w3 275 80)), (0, (1, 275))], [(0, 0), (0, 47), (1, 275)], w42)) eAlk 3 rfl ?_
  refine e_Pn.callA rfl (fun n9 d9 => u_336 (q43.rf hR)) (fun r45 w46 h44 => ?_)
  obtain ⟨⟨z47, rfl⟩, h44⟩ := h44
  have q48 := q43.tr h44
  show e_Pn 20 elay ecode eI n d 351 (77, [(3, (0, z20)), (2, (0, w8 275 82)), (1, (0, w3 275 80)), (0, (1, 275))], [(0, z47)], w46) _
  refine e_Pn.run (t' := (81, [(4, (0, z47)), (3, (0, z20)), (2, (0, w8 275 82)), (1, (0, w3 275 80)), (0, (1, 275))], [(0, w3 275 80), (1, 275)], w46)) eAlk 3 rfl ?_
  refine e_Pn.putf eAlk rfl rfl ?_
  generalize hw49 : e_up w46 275 82 (w3 275 80) = w49
  have q50 : mq w w49 := mq.upF q48 hw49 (by decide) (by decide +kernel)
  refine e_Pn.run (t' := (85, [(4, (0, z47)), (3, (0, z20)), (2, (0, w8 275 82)), (1, (0, w3 275 80)), (0, (1, 275))], [(1, 275)], w49)) eAlk 1 rfl ?_
  refine e_Pn.callB rfl (fun k9 hk9 d9 => ihG k9 (by omega) 348 (by decide) d9 _ (q50.rf hR)) (fun r52 w53 h51 => ?_)
  obtain ⟨rfl, h51⟩ := h51
  have q54 := q50.tr h51
  show e_Pn 20 elay ecode eI n d 351 (88, [(4, (0, z47)), (3, (0, z20)), (2, (0, w8 275 82)), (1, (0, w3 275 80)), (0, (1, 275))], [], w53) _
  refine e_Pn.run (t' := (90, [(4, (0, z47)), (3, (0, z20)), (2, (0, w8 275 82)), (1, (0, w3 275 80)), (0, (1, 275))], [(0, w8 275 82), (1, 275)], w53)) eAlk 2 rfl ?_
  refine e_Pn.putf eAlk rfl rfl ?_
  generalize hw55 : e_up w53 275 82 (w8 275 82) = w55
  have q56 : mq w w55 := mq.upF q54 hw55 (by decide) (by decide +kernel)
  refine e_Pn.run (t' := (97, [(4, (0, z47)), (3, (0, z20)), (2, (0, w8 275 82)), (1, (0, w3 275 80)), (0, (1, 275))], [(0, z20), (0, 48), (1, 275)], w55)) eAlk 3 rfl ?_
  refine e_Pn.callA rfl (fun n9 d9 => u_336 (q56.rf hR)) (fun r58 w59 h57 => ?_)
  obtain ⟨⟨z60, rfl⟩, h57⟩ := h57
  have q61 := q56.tr h57
  show e_Pn 20 elay ecode eI n d 351 (100, [(4, (0, z47)), (3, (0, z20)), (2, (0, w8 275 82)), (1, (0, w3 275 80)), (0, (1, 275))], [(0, z60)], w59) _
  refine e_Pn.run (t' := (104, [(4, (0, z47)), (3, (0, z20)), (2, (0, w8 275 82)), (1, (0, w3 275 80)), (0, (1, 275))], [(0, z47), (1, 275)], w59)) eAlk 3 rfl ?_
  refine e_Pn.callA rfl (fun n9 d9 => u_337 (q61.rf hR)) (fun r63 w64 h62 => ?_)
  obtain ⟨rfl, h62⟩ := h62
  have q65 := q61.tr h62
  show e_Pn 20 elay ecode eI n d 351 (107, [(4, (0, z47)), (3, (0, z20)), (2, (0, w8 275 82)), (1, (0, w3 275 80)), (0, (1, 275))], [], w64) _
  refine e_Pn.run (t' := (108, [(4, (0, z47)), (3, (0, z20)), (2, (0, w8 275 82)), (1, (0, w3 275 80)), (0, (1, 275))], [(1, 275)], w64)) eAlk 1 rfl ?_
  refine e_Pn.getr (z := 336) eAlk rfl rfl (q65.rf hR (73, 336) (by decide)) (by omega) ?_
  refine e_Pn.run (t' := (115, [(4, (0, z47)), (3, (0, z20)), (2, (0, w8 275 82)), (1, (0, w3 275 80)), (0, (1, 275))], [(0, w3 275 80), (0, 3600), (1, 336)], w64)) eAlk 2 rfl ?_
  refine e_Pn.bin0 eAlk rfl (fun z66 hz66 => ?_)
  refine e_Pn.run (t' := (117, [(4, (0, z47)), (3, (0, z20)), (2, (0, w8 275 82)), (1, (0, w3 275 80)), (0, (1, 275))], [(1, 275), (0, z66), (1, 336)], w64)) eAlk 1 rfl ?_
  refine e_Pn.getf (z := w64 275 78) eAlk rfl rfl rfl (fun b67 => ?_)
  refine e_Pn.ast eAlk rfl rfl rfl (fun b68 b69 => ?_)
  generalize hw70 : e_up w64 336 z66 (w64 275 78) = w70
  have q71 : mq w w70 := mq.upA q65 hw70 (by decide)
  refine e_Pn.run (t' := (124, [(4, (0, z47)), (3, (0, z20)), (2, (0, w8 275 82)), (1, (0, w3 275 80)), (0, (1, 275))], [(0, 2), (1, 275), (1, 275)], w70)) eAlk 3 rfl ?_
  refine e_Pn.callA rfl (fun n9 d9 => u_332 (q71.rf hR)) (fun r73 w74 h72 => ?_)
  obtain ⟨⟨z75, rfl⟩, h72⟩ := h72
  have q76 := q71.tr h72
  show e_Pn 20 elay ecode eI n d 351 (127, [(4, (0, z47)), (3, (0, z20)), (2, (0, w8 275 82)), (1, (0, w3 275 80)), (0, (1, 275))], [(0, z75), (1, 275)], w74) _
  refine e_Pn.callA rfl (fun n9 d9 => u_334 (q76.rf hR)) (fun r78 w79 h77 => ?_)
  obtain ⟨rfl, h77⟩ := h77
  have q80 := q76.tr h77
  show e_Pn 20 elay ecode eI n d 351 (130, [(4, (0, z47)), (3, (0, z20)), (2, (0, w8 275 82)), (1, (0, w3 275 80)), (0, (1, 275))], [], w79) _
  refine e_Pn.run (t' := (132, [(4, (0, z47)), (3, (0, z20)), (2, (0, w8 275 82)), (1, (0, w3 275 80)), (0, (1, 275))], [(1, 275), (1, 275)], w79)) eAlk 2 rfl ?_
  refine e_Pn.getf (z := w79 275 83) eAlk rfl rfl rfl (fun b81 => ?_)
  refine e_Pn.run (t' := (136, [(4, (0, z47)), (3, (0, z20)), (2, (0, w8 275 82)), (1, (0, w3 275 80)), (0, (1, 275))], [(0, 1), (0, w79 275 83), (1, 275)], w79)) eAlk 1 rfl ?_
  refine e_Pn.bin0 eAlk rfl (fun z82 hz82 => ?_)
  refine e_Pn.putf eAlk rfl rfl ?_
  generalize hw83 : e_up w79 275 83 z82 = w83
  have q84 : mq w w83 := mq.upF q80 hw83 (by decide) (by decide +kernel)
  exact e_Pn.ret0 rfl ⟨rfl, q84⟩
set_option maxHeartbeats 4000000 in
theorem u_352 {n d : Nat} {w : eW} (hR : mRw w) (ihG : ∀ k, k < n → uS k) : e_Pn 20 elay ecode eI n d 352 (0, [(0, (1, 275))], [], w) (fun r w' => r = [] ∧ mq w w') := by
  refine e_Pn.run (t' := (1, [(0, (1, 275))], [(1, 275)], w)) eAlk 1 rfl ?_
  refine e_Pn.callA rfl (fun n9 d9 => u_335 (mq.r.rf hR)) (fun r2 w3 h1 => ?_)
  obtain ⟨rfl, h1⟩ := h1
  have q4 := mq.r.tr h1
  show e_Pn 20 elay ecode eI n d 352 (4, [(0, (1, 275))], [], w3) _
  refine e_Pn.run (t' := (8, [(0, (1, 275))], [(0, 0), (0, 30), (1, 275)], w3)) eAlk 3 rfl ?_
  refine e_Pn.callA rfl (fun n9 d9 => u_336 (q4.rf hR)) (fun r6 w7 h5 => ?_)
  obtain ⟨⟨z8, rfl⟩, h5⟩ := h5
  have q9 := q4.tr h5
  show e_Pn 20 elay ecode eI n d 352 (11, [(0, (1, 275))], [(0, z8)], w7) _
  refine e_Pn.run (t' := (13, [(0, (1, 275))], [(1, 275)], w7)) eAlk 2 rfl ?_
  refine e_Pn.getf (z := w7 275 81) eAlk rfl rfl rfl (fun b10 => ?_)
  refine e_Pn.run (t' := (18, [(1, (0, w7 275 81)), (0, (1, 275))], [(1, 275)], w7)) eAlk 2 rfl ?_
  refine e_Pn.getf (z := w7 275 79) eAlk rfl rfl rfl (fun b11 => ?_)
  refine e_Pn.run (t' := (24, [(2, (0, w7 275 79)), (1, (0, w7 275 81)), (0, (1, 275))], [(1, 275), (1, 275)], w7)) eAlk 3 rfl ?_
  refine e_Pn.getf (z := w7 275 79) eAlk rfl rfl rfl (fun b12 => ?_)
  refine e_Pn.run (t' := (28, [(2, (0, w7 275 79)), (1, (0, w7 275 81)), (0, (1, 275))], [(0, 1), (0, w7 275 79), (1, 275)], w7)) eAlk 1 rfl ?_
  refine e_Pn.bin0 eAlk rfl (fun z13 hz13 => ?_)
  refine e_Pn.putf eAlk rfl rfl ?_
  generalize hw14 : e_up w7 275 79 z13 = w14
  have q15 : mq w w14 := mq.upF q9 hw14 (by decide) (by decide +kernel)
  refine e_Pn.run (t' := (36, [(2, (0, w7 275 79)), (1, (0, w7 275 81)), (0, (1, 275))], [(0, w7 275 79), (0, 3600)], w14)) eAlk 2 rfl ?_
  refine e_Pn.bin0 eAlk rfl (fun z16 hz16 => ?_)
  refine e_Pn.run (t' := (39, [(3, (0, z16)), (2, (0, w7 275 79)), (1, (0, w7 275 81)), (0, (1, 275))], [(1, 275)], w14)) eAlk 2 rfl ?_
  refine e_Pn.getr (z := 331) eAlk rfl rfl (q15.rf hR (68, 331) (by decide)) (by omega) ?_
  refine e_Pn.run (t' := (44, [(3, (0, z16)), (2, (0, w7 275 79)), (1, (0, w7 275 81)), (0, (1, 275))], [(0, w7 275 81), (0, z16), (1, 331)], w14)) eAlk 2 rfl ?_
  refine e_Pn.ast eAlk rfl rfl rfl (fun b17 b18 => ?_)
  generalize hw19 : e_up w14 331 z16 (w7 275 81) = w19
  have q20 : mq w w19 := mq.upA q15 hw19 (by decide)
  refine e_Pn.run (t' := (46, [(3, (0, z16)), (2, (0, w7 275 79)), (1, (0, w7 275 81)), (0, (1, 275))], [(1, 275)], w19)) eAlk 1 rfl ?_
  refine e_Pn.getr (z := 332) eAlk rfl rfl (q20.rf hR (69, 332) (by decide)) (by omega) ?_
  refine e_Pn.run (t' := (51, [(3, (0, z16)), (2, (0, w7 275 79)), (1, (0, w7 275 81)), (0, (1, 275))], [(0, (-1)), (0, z16), (1, 332)], w19)) eAlk 2 rfl ?_
  refine e_Pn.ast eAlk rfl rfl rfl (fun b21 b22 => ?_)
  generalize hw23 : e_up w19 332 z16 (-1) = w23
  have q24 : mq w w23 := mq.upA q20 hw23 (by decide)
  refine e_Pn.run (t' := (53, [(3, (0, z16)), (2, (0, w7 275 79)), (1, (0, w7 275 81)), (0, (1, 275))], [(1, 275)], w23)) eAlk 1 rfl ?_
  refine e_Pn.getr (z := 333) eAlk rfl rfl (q24.rf hR (70, 333) (by decide)) (by omega) ?_
  refine e_Pn.run (t' := (58, [(3, (0, z16)), (2, (0, w7 275 79)), (1, (0, w7 275 81)), (0, (1, 275))], [(0, (-1)), (0, z16), (1, 333)], w23)) eAlk 2 rfl ?_
  refine e_Pn.ast eAlk rfl rfl rfl (fun b25 b26 => ?_)
  generalize hw27 : e_up w23 333 z16 (-1) = w27
  have q28 : mq w w27 := mq.upA q24 hw27 (by decide)
  refine e_Pn.run (t' := (63, [(3, (0, z16)), (2, (0, w7 275 79)), (1, (0, w7 275 81)), (0, (1, 275))], [(0, 21), (1, 275), (1, 275)], w27)) eAlk 3 rfl ?_
  refine e_Pn.callA rfl (fun n9 d9 => u_332 (q28.rf hR)) (fun r30 w31 h29 => ?_)
  obtain ⟨⟨z32, rfl⟩, h29⟩ := h29
  have q33 := q28.tr h29
  show e_Pn 20 elay ecode eI n d 352 (66, [(3, (0, z16)), (2, (0, w7 275 79)), (1, (0, w7 275 81)), (0, (1, 275))], [(0, z32), (1, 275)], w31) _
  refine e_Pn.callA rfl (fun n9 d9 => u_334 (q33.rf hR)) (fun r35 w36 h34 => ?_)
  obtain ⟨rfl, h34⟩ := h34
  have q37 := q33.tr h34
  show e_Pn 20 elay ecode eI n d 352 (69, [(3, (0, z16)), (2, (0, w7 275 79)), (1, (0, w7 275 81)), (0, (1, 275))], [], w36) _
  refine e_Pn.run (t' := (73, [(3, (0, z16)), (2, (0, w7 275 79)), (1, (0, w7 275 81)), (0, (1, 275))], [(0, 58), (1, 275), (1, 275)], w36)) eAlk 3 rfl ?_
  refine e_Pn.callA rfl (fun n9 d9 => u_331 (q37.rf hR)) (fun r39 w40 h38 => ?_)
  obtain ⟨⟨z41, rfl⟩, h38⟩ := h38
  have q42 := q37.tr h38
  show e_Pn 20 elay ecode eI n d 352 (76, [(3, (0, z16)), (2, (0, w7 275 79)), (1, (0, w7 275 81)), (0, (1, 275))], [(0, z41), (1, 275)], w40) _
  refine e_Pn.callA rfl (fun n9 d9 => u_334 (q42.rf hR)) (fun r44 w45 h43 => ?_)
  obtain ⟨rfl, h43⟩ := h43
  have q46 := q42.tr h43
  show e_Pn 20 elay ecode eI n d 352 (79, [(3, (0, z16)), (2, (0, w7 275 79)), (1, (0, w7 275 81)), (0, (1, 275))], [], w45) _
  refine e_Pn.run (t' := (82, [(3, (0, z16)), (2, (0, w7 275 79)), (1, (0, w7 275 81)), (0, (1, 275))], [(0, w7 275 79), (0, 3), (1, 275)], w45)) eAlk 3 rfl ?_
  refine e_Pn.bin0 eAlk rfl (fun z47 hz47 => ?_)
  refine e_Pn.putf eAlk rfl rfl ?_
  generalize hw48 : e_up w45 275 81 z47 = w48
  have q49 : mq w w48 := mq.upF q46 hw48 (by decide) (by decide +kernel)
  refine e_Pn.run (t' := (87, [(3, (0, z16)), (2, (0, w7 275 79)), (1, (0, w7 275 81)), (0, (1, 275))], [(1, 275)], w48)) eAlk 1 rfl ?_
  refine e_Pn.callB rfl (fun k9 hk9 d9 => ihG k9 (by omega) 348 (by decide) d9 _ (q49.rf hR)) (fun r51 w52 h50 => ?_)
  obtain ⟨rfl, h50⟩ := h50
  have q53 := q49.tr h50
  show e_Pn 20 elay ecode eI n d 352 (90, [(3, (0, z16)), (2, (0, w7 275 79)), (1, (0, w7 275 81)), (0, (1, 275))], [], w52) _
  refine e_Pn.run (t' := (94, [(3, (0, z16)), (2, (0, w7 275 79)), (1, (0, w7 275 81)), (0, (1, 275))], [(0, w7 275 79), (0, 49), (1, 275)], w52)) eAlk 3 rfl ?_
  refine e_Pn.callA rfl (fun n9 d9 => u_336 (q53.rf hR)) (fun r55 w56 h54 => ?_)
  obtain ⟨⟨z57, rfl⟩, h54⟩ := h54
  have q58 := q53.tr h54
  show e_Pn 20 elay ecode eI n d 352 (97, [(3, (0, z16)), (2, (0, w7 275 79)), (1, (0, w7 275 81)), (0, (1, 275))], [(0, z57)], w56) _
  refine e_Pn.run (t' := (99, [(3, (0, z16)), (2, (0, w7 275 79)), (1, (0, w7 275 81)), (0, (1, 275))], [(1, 275)], w56)) eAlk 2 rfl ?_
  refine e_Pn.getf (z := w56 275 88) eAlk rfl rfl rfl (fun b59 => ?_)
  refine e_Pn.if1 eAlk rfl (fun h60 => ?_) (fun h60 => ?_)
  · show e_Pn 20 elay ecode eI n d 352 (159, [(3, (0, z16)), (2, (0, w7 275 79)), (1, (0, w7 275 81)), (0, (1, 275))], [], w56) _
    refine e_Pn.run (t' := (160, [(3, (0, z16)), (2, (0, w7 275 79)), (1, (0, w7 275 81)), (0, (1, 275))], [(1, 275)], w56)) eAlk 1 rfl ?_
    refine e_Pn.getf (z := w56 275 88) eAlk rfl rfl rfl (fun b61 => ?_)
    refine e_Pn.if1 eAlk rfl (fun h62 => ?_) (fun h62 => ?_)
    · show e_Pn 20 elay ecode eI n d 352 (220, [(3, (0, z16)), (2, (0, w7 275 79)), (1, (0, w7 275 81)), (0, (1, 275))], [], w56) _
      refine e_Pn.run (t' := (222, [(3, (0, z16)), (2, (0, w7 275 79)), (1, (0, w7 275 81)), (0, (1, 275))], [(0, w7 275 81), (1, 275)], w56)) eAlk 2 rfl ?_
      refine e_Pn.putf eAlk rfl rfl ?_
      generalize hw63 : e_up w56 275 81 (w7 275 81) = w63
      have q64 : mq w w63 := mq.upF q58 hw63 (by decide) (by decide +kernel)
      refine e_Pn.run (t' := (226, [(3, (0, z16)), (2, (0, w7 275 79)), (1, (0, w7 275 81)), (0, (1, 275))], [(1, 275)], w63)) eAlk 1 rfl ?_
      refine e_Pn.getr (z := 334) eAlk rfl rfl (q64.rf hR (71, 334) (by decide)) (by omega) ?_
      refine e_Pn.run (t' := (231, [(3, (0, z16)), (2, (0, w7 275 79)), (1, (0, w7 275 81)), (0, (1, 275))], [(1, 275), (0, z16), (1, 334)], w63)) eAlk 2 rfl ?_
      refine e_Pn.getf (z := w63 275 78) eAlk rfl rfl rfl (fun b65 => ?_)
      refine e_Pn.ast eAlk rfl rfl rfl (fun b66 b67 => ?_)
      generalize hw68 : e_up w63 334 z16 (w63 275 78) = w68
      have q69 : mq w w68 := mq.upA q64 hw68 (by decide)
      refine e_Pn.run (t' := (238, [(3, (0, z16)), (2, (0, w7 275 79)), (1, (0, w7 275 81)), (0, (1, 275))], [(0, 2), (1, 275), (1, 275)], w68)) eAlk 3 rfl ?_
      refine e_Pn.callA rfl (fun n9 d9 => u_332 (q69.rf hR)) (fun r71 w72 h70 => ?_)
      obtain ⟨⟨z73, rfl⟩, h70⟩ := h70
      have q74 := q69.tr h70
      show e_Pn 20 elay ecode eI n d 352 (241, [(3, (0, z16)), (2, (0, w7 275 79)), (1, (0, w7 275 81)), (0, (1, 275))], [(0, z73), (1, 275)], w72) _
      refine e_Pn.callA rfl (fun n9 d9 => u_334 (q74.rf hR)) (fun r76 w77 h75 => ?_)
      obtain ⟨rfl, h75⟩ := h75
      have q78 := q74.tr h75
      show e_Pn 20 elay ecode eI n d 352 (244, [(3, (0, z16)), (2, (0, w7 275 79)), (1, (0, w7 275 81)), (0, (1, 275))], [], w77) _
      refine e_Pn.run (t' := (246, [(3, (0, z16)), (2, (0, w7 275 79)), (1, (0, w7 275 81)), (0, (1, 275))], [(1, 275), (1, 275)], w77)) eAlk 2 rfl ?_
      refine e_Pn.getf (z := w77 275 83) eAlk rfl rfl rfl (fun b79 => ?_)
      refine e_Pn.run (t' := (250, [(3, (0, z16)), (2, (0, w7 275 79)), (1, (0, w7 275 81)), (0, (1, 275))], [(0, 1), (0, w77 275 83), (1, 275)], w77)) eAlk 1 rfl ?_
      refine e_Pn.bin0 eAlk rfl (fun z80 hz80 => ?_)
      refine e_Pn.putf eAlk rfl rfl ?_
      generalize hw81 : e_up w77 275 83 z80 = w81
      have q82 : mq w w81 := mq.upF q78 hw81 (by decide) (by decide +kernel)
      exact e_Pn.ret0 rfl ⟨rfl, q82⟩
    · show e_Pn 20 elay ecode eI n d 352 (166, [(3, (0, z16)), (2, (0, w7 275 79)), (1, (0, w7 275 81)), (0, (1, 275))], [], w56) _
      refine e_Pn.run (t' := (169, [(3, (0, z16)), (2, (0, w7 275 79)), (1, (0, w7 275 81)), (0, (1, 275))], [(0, 23), (1, 275)], w56)) eAlk 2 rfl ?_
      refine e_Pn.callA rfl (fun n9 d9 => u_332 (q58.rf hR)) (fun r84 w85 h83 => ?_)
      obtain ⟨⟨z86, rfl⟩, h83⟩ := h83
      have q87 := q58.tr h83
      show e_Pn 20 elay ecode eI n d 352 (172, [(3, (0, z16)), (2, (0, w7 275 79)), (1, (0, w7 275 81)), (0, (1, 275))], [(0, z86)], w85) _
      refine e_Pn.if1 eAlk rfl (fun h88 => ?_) (fun h88 => ?_)
      · show e_Pn 20 elay ecode eI n d 352 (220, [(3, (0, z16)), (2, (0, w7 275 79)), (1, (0, w7 275 81)), (0, (1, 275))], [], w85) _
        refine e_Pn.run (t' := (222, [(3, (0, z16)), (2, (0, w7 275 79)), (1, (0, w7 275 81)), (0, (1, 275))], [(0, w7 275 81), (1, 275)], w85)) eAlk 2 rfl ?_
        refine e_Pn.putf eAlk rfl rfl ?_
        generalize hw89 : e_up w85 275 81 (w7 275 81) = w89
        have q90 : mq w w89 := mq.upF q87 hw89 (by decide) (by decide +kernel)
        refine e_Pn.run (t' := (226, [(3, (0, z16)), (2, (0, w7 275 79)), (1, (0, w7 275 81)), (0, (1, 275))], [(1, 275)], w89)) eAlk 1 rfl ?_
        refine e_Pn.getr (z := 334) eAlk rfl rfl (q90.rf hR (71, 334) (by decide)) (by omega) ?_
        refine e_Pn.run (t' := (231, [(3, (0, z16)), (2, (0, w7 275 79)), (1, (0, w7 275 81)), (0, (1, 275))], [(1, 275), (0, z16), (1, 334)], w89)) eAlk 2 rfl ?_
        refine e_Pn.getf (z := w89 275 78) eAlk rfl rfl rfl (fun b91 => ?_)
        refine e_Pn.ast eAlk rfl rfl rfl (fun b92 b93 => ?_)
        generalize hw94 : e_up w89 334 z16 (w89 275 78) = w94
        have q95 : mq w w94 := mq.upA q90 hw94 (by decide)
        refine e_Pn.run (t' := (238, [(3, (0, z16)), (2, (0, w7 275 79)), (1, (0, w7 275 81)), (0, (1, 275))], [(0, 2), (1, 275), (1, 275)], w94)) eAlk 3 rfl ?_
        refine e_Pn.callA rfl (fun n9 d9 => u_332 (q95.rf hR)) (fun r97 w98 h96 => ?_)
        obtain ⟨⟨z99, rfl⟩, h96⟩ := h96
        have q100 := q95.tr h96
        show e_Pn 20 elay ecode eI n d 352 (241, [(3, (0, z16)), (2, (0, w7 275 79)), (1, (0, w7 275 81)), (0, (1, 275))], [(0, z99), (1, 275)], w98) _
        refine e_Pn.callA rfl (fun n9 d9 => u_334 (q100.rf hR)) (fun r102 w103 h101 => ?_)
        obtain ⟨rfl, h101⟩ := h101
        have q104 := q100.tr h101
        show e_Pn 20 elay ecode eI n d 352 (244, [(3, (0, z16)), (2, (0, w7 275 79)), (1, (0, w7 275 81)), (0, (1, 275))], [], w103) _
        refine e_Pn.run (t' := (246, [(3, (0, z16)), (2, (0, w7 275 79)), (1, (0, w7 275 81)), (0, (1, 275))], [(1, 275), (1, 275)], w103)) eAlk 2 rfl ?_
        refine e_Pn.getf (z := w103 275 83) eAlk rfl rfl rfl (fun b105 => ?_)
        refine e_Pn.run (t' := (250, [(3, (0, z16)), (2, (0, w7 275 79)), (1, (0, w7 275 81)), (0, (1, 275))], [(0, 1), (0, w103 275 83), (1, 275)], w103)) eAlk 1 rfl ?_
        refine e_Pn.bin0 eAlk rfl (fun z106 hz106 => ?_)
        refine e_Pn.putf eAlk rfl rfl ?_
        generalize hw107 : e_up w103 275 83 z106 = w107
        have q108 : mq w w107 := mq.upF q104 hw107 (by decide) (by decide +kernel)
        exact e_Pn.ret0 rfl ⟨rfl, q108⟩
      · show e_Pn 20 elay ecode eI n d 352 (175, [(3, (0, z16)), (2, (0, w7 275 79)), (1, (0, w7 275 81)), (0, (1, 275))], [], w85) _
        refine e_Pn.run (t' := (176, [(3, (0, z16)), (2, (0, w7 275 79)), (1, (0, w7 275 81)), (0, (1, 275))], [(1, 275)], w85)) eAlk 1 rfl ?_
        refine e_Pn.callA rfl (fun n9 d9 => u_327 (q87.rf hR)) (fun r110 w111 h109 => ?_)
        obtain ⟨rfl, h109⟩ := h109
        have q112 := q87.tr h109
        show e_Pn 20 elay ecode eI n d 352 (179, [(3, (0, z16)), (2, (0, w7 275 79)), (1, (0, w7 275 81)), (0, (1, 275))], [], w111) _
        refine e_Pn.run (t' := (183, [(3, (0, z16)), (2, (0, w7 275 79)), (1, (0, w7 275 81)), (0, (1, 275))], [(0, 58), (1, 275), (1, 275)], w111)) eAlk 3 rfl ?_
        refine e_Pn.callA rfl (fun n9 d9 => u_331 (q112.rf hR)) (fun r114 w115 h113 => ?_)
        obtain ⟨⟨z116, rfl⟩, h113⟩ := h113
        have q117 := q112.tr h113
        show e_Pn 20 elay ecode eI n d 352 (186, [(3, (0, z16)), (2, (0, w7 275 79)), (1, (0, w7 275 81)), (0, (1, 275))], [(0, z116), (1, 275)], w115) _
        refine e_Pn.callA rfl (fun n9 d9 => u_334 (q117.rf hR)) (fun r119 w120 h118 => ?_)
        obtain ⟨rfl, h118⟩ := h118
        have q121 := q117.tr h118
        show e_Pn 20 elay ecode eI n d 352 (189, [(3, (0, z16)), (2, (0, w7 275 79)), (1, (0, w7 275 81)), (0, (1, 275))], [], w120) _
        refine e_Pn.run (t' := (192, [(3, (0, z16)), (2, (0, w7 275 79)), (1, (0, w7 275 81)), (0, (1, 275))], [(0, w7 275 79), (0, 3), (1, 275)], w120)) eAlk 3 rfl ?_
        refine e_Pn.bin0 eAlk rfl (fun z122 hz122 => ?_)
        refine e_Pn.run (t' := (194, [(3, (0, z16)), (2, (0, w7 275 79)), (1, (0, w7 275 81)), (0, (1, 275))], [(0, 2), (0, z122), (1, 275)], w120)) eAlk 1 rfl ?_
        refine e_Pn.bin0 eAlk rfl (fun z123 hz123 => ?_)
        refine e_Pn.putf eAlk rfl rfl ?_
        generalize hw124 : e_up w120 275 81 z123 = w124
        have q125 : mq w w124 := mq.upF q121 hw124 (by decide) (by decide +kernel)
        refine e_Pn.run (t' := (199, [(3, (0, z16)), (2, (0, w7 275 79)), (1, (0, w7 275 81)), (0, (1, 275))], [(1, 275)], w124)) eAlk 1 rfl ?_
        refine e_Pn.getr (z := 333) eAlk rfl rfl (q125.rf hR (70, 333) (by decide)) (by omega) ?_
        refine e_Pn.run (t' := (204, [(3, (0, z16)), (2, (0, w7 275 79)), (1, (0, w7 275 81)), (0, (1, 275))], [(1, 275), (0, z16), (1, 333)], w124)) eAlk 2 rfl ?_
        refine e_Pn.getf (z := w124 275 78) eAlk rfl rfl rfl (fun b126 => ?_)
        refine e_Pn.ast eAlk rfl rfl rfl (fun b127 b128 => ?_)
        generalize hw129 : e_up w124 333 z16 (w124 275 78) = w129
        have q130 : mq w w129 := mq.upA q125 hw129 (by decide)
        refine e_Pn.run (t' := (209, [(3, (0, z16)), (2, (0, w7 275 79)), (1, (0, w7 275 81)), (0, (1, 275))], [(1, 275)], w129)) eAlk 1 rfl ?_
        refine e_Pn.callB rfl (fun k9 hk9 d9 => ihG k9 (by omega) 348 (by decide) d9 _ (q130.rf hR)) (fun r132 w133 h131 => ?_)
        obtain ⟨rfl, h131⟩ := h131
        have q134 := q130.tr h131
        show e_Pn 20 elay ecode eI n d 352 (212, [(3, (0, z16)), (2, (0, w7 275 79)), (1, (0, w7 275 81)), (0, (1, 275))], [], w133) _
        refine e_Pn.run (t' := (216, [(3, (0, z16)), (2, (0, w7 275 79)), (1, (0, w7 275 81)), (0, (1, 275))], [(0, w7 275 79), (0, 51), (1, 275)], w133)) eAlk 3 rfl ?_
        refine e_Pn.callA rfl (fun n9 d9 => u_336 (q134.rf hR)) (fun r136 w137 h135 => ?_)
        obtain ⟨⟨z138, rfl⟩, h135⟩ := h135
        have q139 := q134.tr h135
        show e_Pn 20 elay ecode eI n d 352 (219, [(3, (0, z16)), (2, (0, w7 275 79)), (1, (0, w7 275 81)), (0, (1, 275))], [(0, z138)], w137) _
        refine e_Pn.run (t' := (222, [(3, (0, z16)), (2, (0, w7 275 79)), (1, (0, w7 275 81)), (0, (1, 275))], [(0, w7 275 81), (1, 275)], w137)) eAlk 3 rfl ?_
        refine e_Pn.putf eAlk rfl rfl ?_
        generalize hw140 : e_up w137 275 81 (w7 275 81) = w140
        have q141 : mq w w140 := mq.upF q139 hw140 (by decide) (by decide +kernel)
        refine e_Pn.run (t' := (226, [(3, (0, z16)), (2, (0, w7 275 79)), (1, (0, w7 275 81)), (0, (1, 275))], [(1, 275)], w140)) eAlk 1 rfl ?_
        refine e_Pn.getr (z := 334) eAlk rfl rfl (q141.rf hR (71, 334) (by decide)) (by omega) ?_
        refine e_Pn.run (t' := (231, [(3, (0, z16)), (2, (0, w7 275 79)), (1, (0, w7 275 81)), (0, (1, 275))], [(1, 275), (0, z16), (1, 334)], w140)) eAlk 2 rfl ?_
        refine e_Pn.getf (z := w140 275 78) eAlk rfl rfl rfl (fun b142 => ?_)
        refine e_Pn.ast eAlk rfl rfl rfl (fun b143 b144 => ?_)
        generalize hw145 : e_up w140 334 z16 (w140 275 78) = w145
        have q146 : mq w w145 := mq.upA q141 hw145 (by decide)
        refine e_Pn.run (t' := (238, [(3, (0, z16)), (2, (0, w7 275 79)), (1, (0, w7 275 81)), (0, (1, 275))], [(0, 2), (1, 275), (1, 275)], w145)) eAlk 3 rfl ?_
        refine e_Pn.callA rfl (fun n9 d9 => u_332 (q146.rf hR)) (fun r148 w149 h147 => ?_)
        obtain ⟨⟨z150, rfl⟩, h147⟩ := h147
        have q151 := q146.tr h147
        show e_Pn 20 elay ecode eI n d 352 (241, [(3, (0, z16)), (2, (0, w7 275 79)), (1, (0, w7 275 81)), (0, (1, 275))], [(0, z150), (1, 275)], w149) _
        refine e_Pn.callA rfl (fun n9 d9 => u_334 (q151.rf hR)) (fun r153 w154 h152 => ?_)
        obtain ⟨rfl, h152⟩ := h152
        have q155 := q151.tr h152
        show e_Pn 20 elay ecode eI n d 352 (244, [(3, (0, z16)), (2, (0, w7 275 79)), (1, (0, w7 275 81)), (0, (1, 275))], [], w154) _
        refine e_Pn.run (t' := (246, [(3, (0, z16)), (2, (0, w7 275 79)), (1, (0, w7 275 81)), (0, (1, 275))], [(1, 275), (1, 275)], w154)) eAlk 2 rfl ?_
        refine e_Pn.getf (z := w154 275 83) eAlk rfl rfl rfl (fun b156 => ?_)
        refine e_Pn.run (t' := (250, [(3, (0, z16)), (2, (0, w7 275 79)), (1, (0, w7 275 81)), (0, (1, 275))], [(0, 1), (0, w154 275 83), (1, 275)], w154)) eAlk 1 rfl ?_
        refine e_Pn.bin0 eAlk rfl (fun z157 hz157 => ?_)
        refine e_Pn.putf eAlk rfl rfl ?_
        generalize hw158 : e_up w154 275 83 z157 = w158
        have q159 : mq w w158 := mq.upF q155 hw158 (by decide) (by decide +kernel)
        exact e_Pn.ret0 rfl ⟨rfl, q159⟩
  · show e_Pn 20 elay ecode eI n d 352 (105, [(3, (0, z16)), (2, (0, w7 275 79)), (1, (0, w7 275 81)), (0, (1, 275))], [], w56) _
    refine e_Pn.run (t' := (108, [(3, (0, z16)), (2, (0, w7 275 79)), (1, (0, w7 275 81)), (0, (1, 275))], [(0, 22), (1, 275)], w56)) eAlk 2 rfl ?_
    refine e_Pn.callA rfl (fun n9 d9 => u_332 (q58.rf hR)) (fun r161 w162 h160 => ?_)
    obtain ⟨⟨z163, rfl⟩, h160⟩ := h160
    have q164 := q58.tr h160
    show e_Pn 20 elay ecode eI n d 352 (111, [(3, (0, z16)), (2, (0, w7 275 79)), (1, (0, w7 275 81)), (0, (1, 275))], [(0, z163)], w162) _
    refine e_Pn.if1 eAlk rfl (fun h165 => ?_) (fun h165 => ?_)
    · show e_Pn 20 elay ecode eI n d 352 (159, [(3, (0, z16)), (2, (0, w7 275 79)), (1, (0, w7 275 81)), (0, (1, 275))], [], w162) _
      refine e_Pn.run (t' := (160, [(3, (0, z16)), (2, (0, w7 275 79)), (1, (0, w7 275 81)), (0, (1, 275))], [(1, 275)], w162)) eAlk 1 rfl ?_
      refine e_Pn.getf (z := w162 275 88) eAlk rfl rfl rfl (fun b166 => ?_)
      refine e_Pn.if1 eAlk rfl (fun h167 => ?_) (fun h167 => ?_)
      · show e_Pn 20 elay ecode eI n d 352 (220, [(3, (0, z16)), (2, (0, w7 275 79)), (1, (0, w7 275 81)), (0, (1, 275))], [], w162) _
        refine e_Pn.run (t' := (222, [(3, (0, z16)), (2, (0, w7 275 79)), (1, (0, w7 275 81)), (0, (1, 275))], [(0, w7 275 81), (1, 275)], w162)) eAlk 2 rfl ?_
        refine e_Pn.putf eAlk rfl rfl ?_
        generalize hw168 : e_up w162 275 81 (w7 275 81) = w168
        have q169 : mq w w168 := mq.upF q164 hw168 (by decide) (by decide +kernel)
        refine e_Pn.run (t' := (226, [(3, (0, z16)), (2, (0, w7 275 79)), (1, (0, w7 275 81)), (0, (1, 275))], [(1, 275)], w168)) eAlk 1 rfl ?_
        refine e_Pn.getr (z := 334) eAlk rfl rfl (q169.rf hR (71, 334) (by decide)) (by omega) ?_
        refine e_Pn.run (t' := (231, [(3, (0, z16)), (2, (0, w7 275 79)), (1, (0, w7 275 81)), (0, (1, 275))], [(1, 275), (0, z16), (1, 334)], w168)) eAlk 2 rfl ?_
        refine e_Pn.getf (z := w168 275 78) eAlk rfl rfl rfl (fun b170 => ?_)
        refine e_Pn.ast eAlk rfl rfl rfl (fun b171 b172 => ?_)
        generalize hw173 : e_up w168 334 z16 (w168 275 78) = w173
        have q174 : mq w w173 := mq.upA q169 hw173 (by decide)
        refine e_Pn.run (t' := (238, [(3, (0, z16)), (2, (0, w7 275 79)), (1, (0, w7 275 81)), (0, (1, 275))], [(0, 2), (1, 275), (1, 275)], w173)) eAlk 3 rfl ?_
        refine e_Pn.callA rfl (fun n9 d9 => u_332 (q174.rf hR)) (fun r176 w177 h175 => ?_)
        obtain ⟨⟨z178, rfl⟩, h175⟩ := h175
        have q179 := q174.tr h175
        show e_Pn 20 elay ecode eI n d 352 (241, [(3, (0, z16)), (2, (0, w7 275 79)), (1, (0, w7 275 81)), (0, (1, 275))], [(0, z178), (1, 275)], w177) _
        refine e_Pn.callA rfl (fun n9 d9 => u_334 (q179.rf hR)) (fun r181 w182 h180 => ?_)
        obtain ⟨rfl, h180⟩ := h180
        have q183 := q179.tr h180
        show e_Pn 20 elay ecode eI n d 352 (244, [(3, (0, z16)), (2, (0, w7 275 79)), (1, (0, w7 275 81)), (0, (1, 275))], [], w182) _
        refine e_Pn.run (t' := (246, [(3, (0, z16)), (2, (0, w7 275 79)), (1, (0, w7 275 81)), (0, (1, 275))], [(1, 275), (1, 275)], w182)) eAlk 2 rfl ?_
        refine e_Pn.getf (z := w182 275 83) eAlk rfl rfl rfl (fun b184 => ?_)
        refine e_Pn.run (t' := (250, [(3, (0, z16)), (2, (0, w7 275 79)), (1, (0, w7 275 81)), (0, (1, 275))], [(0, 1), (0, w182 275 83), (1, 275)], w182)) eAlk 1 rfl ?_
        refine e_Pn.bin0 eAlk rfl (fun z185 hz185 => ?_)
        refine e_Pn.putf eAlk rfl rfl ?_
        generalize hw186 : e_up w182 275 83 z185 = w186
        have q187 : mq w w186 := mq.upF q183 hw186 (by decide) (by decide +kernel)
        exact e_Pn.ret0 rfl ⟨rfl, q187⟩
      · show e_Pn 20 elay ecode eI n d 352 (166, [(3, (0, z16)), (2, (0, w7 275 79)), (1, (0, w7 275 81)), (0, (1, 275))], [], w162) _
        refine e_Pn.run (t' := (169, [(3, (0, z16)), (2, (0, w7 275 79)), (1, (0, w7 275 81)), (0, (1, 275))], [(0, 23), (1, 275)], w162)) eAlk 2 rfl ?_
        refine e_Pn.callA rfl (fun n9 d9 => u_332 (q164.rf hR)) (fun r189 w190 h188 => ?_)
        obtain ⟨⟨z191, rfl⟩, h188⟩ := h188
        have q192 := q164.tr h188
        show e_Pn 20 elay ecode eI n d 352 (172, [(3, (0, z16)), (2, (0, w7 275 79)), (1, (0, w7 275 81)), (0, (1, 275))], [(0, z191)], w190) _
        refine e_Pn.if1 eAlk rfl (fun h193 => ?_) (fun h193 => ?_)
        · show e_Pn 20 elay ecode eI n d 352 (220, [(3, (0, z16)), (2, (0, w7 275 79)), (1, (0, w7 275 81)), (0, (1, 275))], [], w190) _
          refine e_Pn.run (t' := (222, [(3, (0, z16)), (2, (0, w7 275 79)), (1, (0, w7 275 81)), (0, (1, 275))], [(0, w7 275 81), (1, 275)], w190)) eAlk 2 rfl ?_
          refine e_Pn.putf eAlk rfl rfl ?_
          generalize hw194 : e_up w190 275 81 (w7 275 81) = w194
          have q195 : mq w w194 := mq.upF q192 hw194 (by decide) (by decide +kernel)
          refine e_Pn.run (t' := (226, [(3, (0, z16)), (2, (0, w7 275 79)), (1, (0, w7 275 81)), (0, (1, 275))], [(1, 275)], w194)) eAlk 1 rfl ?_
          refine e_Pn.getr (z := 334) eAlk rfl rfl (q195.rf hR (71, 334) (by decide)) (by omega) ?_
          refine e_Pn.run (t' := (231, [(3, (0, z16)), (2, (0, w7 275 79)), (1, (0, w7 275 81)), (0, (1, 275))], [(1, 275), (0, z16), (1, 334)], w194)) eAlk 2 rfl ?_
          refine e_Pn.getf (z := w194 275 78) eAlk rfl rfl rfl (fun b196 => ?_)
          refine e_Pn.ast eAlk rfl rfl rfl (fun b197 b198 => ?_)
          generalize hw199 : e_up w194 334 z16 (w194 275 78) = w199
          have q200 : mq w w199 := mq.upA q195 hw199 (by decide)
          refine e_Pn.run (t' := (238, [(3, (0, z16)), (2, (0, w7 275 79)), (1, (0, w7 275 81)), (0, (1, 275))], [(0, 2), (1, 275), (1, 275)], w199)) eAlk 3 rfl ?_
          refine e_Pn.callA rfl (fun n9 d9 => u_332 (q200.rf hR)) (fun r202 w203 h201 => ?_)
          obtain ⟨⟨z204, rfl⟩, h201⟩ := h201
          have q205 := q200.tr h201
          show e_Pn 20 elay ecode eI n d 352 (241, [(3, (0, z16)), (2, (0, w7 275 79)), (1, (0, w7 275 81)), (0, (1, 275))], [(0, z204), (1, 275)], w203) _
          refine e_Pn.callA rfl (fun n9 d9 => u_334 (q205.rf hR)) (fun r207 w208 h206 => ?_)
          obtain ⟨rfl, h206⟩ := h206
          have q209 := q205.tr h206
          show e_Pn 20 elay ecode eI n d 352 (244, [(3, (0, z16)), (2, (0, w7 275 79)), (1, (0, w7 275 81)), (0, (1, 275))], [], w208) _
          refine e_Pn.run (t' := (246, [(3, (0, z16)), (2, (0, w7 275 79)), (1, (0, w7 275 81)), (0, (1, 275))], [(1, 275), (1, 275)], w208)) eAlk 2 rfl ?_
          refine e_Pn.getf (z := w208 275 83) eAlk rfl rfl rfl (fun b210 => ?_)
          refine e_Pn.run (t' := (250, [(3, (0, z16)), (2, (0, w7 275 79)), (1, (0, w7 275 81)), (0, (1, 275))], [(0, 1), (0, w208 275 83), (1, 275)], w208)) eAlk 1 rfl ?_
          refine e_Pn.bin0 eAlk rfl (fun z211 hz211 => ?_)
          refine e_Pn.putf eAlk rfl rfl ?_
          generalize hw212 : e_up w208 275 83 z211 = w212
          have q213 : mq w w212 := mq.upF q209 hw212 (by decide) (by decide +kernel)
          exact e_Pn.ret0 rfl ⟨rfl, q213⟩
        · show e_Pn 20 elay ecode eI n d 352 (175, [(3, (0, z16)), (2, (0, w7 275 79)), (1, (0, w7 275 81)), (0, (1, 275))], [], w190) _
          refine e_Pn.run (t' := (176, [(3, (0, z16)), (2, (0, w7 275 79)), (1, (0, w7 275 81)), (0, (1, 275))], [(1, 275)], w190)) eAlk 1 rfl ?_
          refine e_Pn.callA rfl (fun n9 d9 => u_327 (q192.rf hR)) (fun r215 w216 h214 => ?_)
          obtain ⟨rfl, h214⟩ := h214
          have q217 := q192.tr h214
          show e_Pn 20 elay ecode eI n d 352 (179, [(3, (0, z16)), (2, (0, w7 275 79)), (1, (0, w7 275 81)), (0, (1, 275))], [], w216) _
          refine e_Pn.run (t' := (183, [(3, (0, z16)), (2, (0, w7 275 79)), (1, (0, w7 275 81)), (0, (1, 275))], [(0, 58), (1, 275), (1, 275)], w216)) eAlk 3 rfl ?_
          refine e_Pn.callA rfl (fun n9 d9 => u_331 (q217.rf hR)) (fun r219 w220 h218 => ?_)
          obtain ⟨⟨z221, rfl⟩, h218⟩ := h218
          have q222 := q217.tr h218
          show e_Pn 20 elay ecode eI n d 352 (186, [(3, (0, z16)), (2, (0, w7 275 79)), (1, (0, w7 275 81)), (0, (1, 275))], [(0, z221), (1, 275)], w220) _
          refine e_Pn.callA rfl (fun n9 d9 => u_334 (q222.rf hR)) (fun r224 w225 h223 => ?_)
          obtain ⟨rfl, h223⟩ := h223
          have q226 := q222.tr h223
          show e_Pn 20 elay ecode eI n d 352 (189, [(3, (0, z16)), (2, (0, w7 275 79)), (1, (0, w7 275 81)), (0, (1, 275))], [], w225) _
          refine e_Pn.run (t' := (192, [(3, (0, z16)), (2, (0, w7 275 79)), (1, (0, w7 275 81)), (0, (1, 275))], [(0, w7 275 79), (0, 3), (1, 275)], w225)) eAlk 3 rfl ?_
          refine e_Pn.bin0 eAlk rfl (fun z227 hz227 => ?_)
          refine e_Pn.run (t' := (194, [(3, (0, z16)), (2, (0, w7 275 79)), (1, (0, w7 275 81)), (0, (1, 275))], [(0, 2), (0, z227), (1, 275)], w225)) eAlk 1 rfl ?_
          refine e_Pn.bin0 eAlk rfl (fun z228 hz228 => ?_)
          refine e_Pn.putf eAlk rfl rfl ?_
          generalize hw229 : e_up w225 275 81 z228 = w229
          have q230 : mq w w229 := mq.upF q226 hw229 (by decide) (by decide +kernel)
          refine e_Pn.run (t' := (199, [(3, (0, z16)), (2, (0, w7 275 79)), (1, (0, w7 275 81)), (0, (1, 275))], [(1, 275)], w229)) eAlk 1 rfl ?_
          refine e_Pn.getr (z := 333) eAlk rfl rfl (q230.rf hR (70, 333) (by decide)) (by omega) ?_
          refine e_Pn.run (t' := (204, [(3, (0, z16)), (2, (0, w7 275 79)), (1, (0, w7 275 81)), (0, (1, 275))], [(1, 275), (0, z16), (1, 333)], w229)) eAlk 2 rfl ?_
          refine e_Pn.getf (z := w229 275 78) eAlk rfl rfl rfl (fun b231 => ?_)
          refine e_Pn.ast eAlk rfl rfl rfl (fun b232 b233 => ?_)
          generalize hw234 : e_up w229 333 z16 (w229 275 78) = w234
          have q235 : mq w w234 := mq.upA q230 hw234 (by decide)
          refine e_Pn.run (t' := (209, [(3, (0, z16)), (2, (0, w7 275 79)), (1, (0, w7 275 81)), (0, (1, 275))], [(1, 275)], w234)) eAlk 1 rfl ?_
          refine e_Pn.callB rfl (fun k9 hk9 d9 => ihG k9 (by omega) 348 (by decide) d9 _ (q235.rf hR)) (fun r237 w238 h236 => ?_)
          obtain ⟨rfl, h236⟩ := h236
          have q239 := q235.tr h236
          show e_Pn 20 elay ecode eI n d 352 (212, [(3, (0, z16)), (2, (0, w7 275 79)), (1, (0, w7 275 81)), (0, (1, 275))], [], w238) _
          refine e_Pn.run (t' := (216, [(3, (0, z16)), (2, (0, w7 275 79)), (1, (0, w7 275 81)), (0, (1, 275))], [(0, w7 275 79), (0, 51), (1, 275)], w238)) eAlk 3 rfl ?_
          refine e_Pn.callA rfl (fun n9 d9 => u_336 (q239.rf hR)) (fun r241 w242 h240 => ?_)
          obtain ⟨⟨z243, rfl⟩, h240⟩ := h240
          have q244 := q239.tr h240
          show e_Pn 20 elay ecode eI n d 352 (219, [(3, (0, z16)), (2, (0, w7 275 79)), (1, (0, w7 275 81)), (0, (1, 275))], [(0, z243)], w242) _
          refine e_Pn.run (t' := (222, [(3, (0, z16)), (2, (0, w7 275 79)), (1, (0, w7 275 81)), (0, (1, 275))], [(0, w7 275 81), (1, 275)], w242)) eAlk 3 rfl ?_
          refine e_Pn.putf eAlk rfl rfl ?_
          generalize hw245 : e_up w242 275 81 (w7 275 81) = w245
          have q246 : mq w w245 := mq.upF q244 hw245 (by decide) (by decide +kernel)
          refine e_Pn.run (t' := (226, [(3, (0, z16)), (2, (0, w7 275 79)), (1, (0, w7 275 81)), (0, (1, 275))], [(1, 275)], w245)) eAlk 1 rfl ?_
          refine e_Pn.getr (z := 334) eAlk rfl rfl (q246.rf hR (71, 334) (by decide)) (by omega) ?_
          refine e_Pn.run (t' := (231, [(3, (0, z16)), (2, (0, w7 275 79)), (1, (0, w7 275 81)), (0, (1, 275))], [(1, 275), (0, z16), (1, 334)], w245)) eAlk 2 rfl ?_
          refine e_Pn.getf (z := w245 275 78) eAlk rfl rfl rfl (fun b247 => ?_)
          refine e_Pn.ast eAlk rfl rfl rfl (fun b248 b249 => ?_)
          generalize hw250 : e_up w245 334 z16 (w245 275 78) = w250
          have q251 : mq w w250 := mq.upA q246 hw250 (by decide)
          refine e_Pn.run (t' := (238, [(3, (0, z16)), (2, (0, w7 275 79)), (1, (0, w7 275 81)), (0, (1, 275))], [(0, 2), (1, 275), (1, 275)], w250)) eAlk 3 rfl ?_
          refine e_Pn.callA rfl (fun n9 d9 => u_332 (q251.rf hR)) (fun r253 w254 h252 => ?_)
          obtain ⟨⟨z255, rfl⟩, h252⟩ := h252
          have q256 := q251.tr h252
          show e_Pn 20 elay ecode eI n d 352 (241, [(3, (0, z16)), (2, (0, w7 275 79)), (1, (0, w7 275 81)), (0, (1, 275))], [(0, z255), (1, 275)], w254) _
          refine e_Pn.callA rfl (fun n9 d9 => u_334 (q256.rf hR)) (fun r258 w259 h257 => ?_)
          obtain ⟨rfl, h257⟩ := h257
          have q260 := q256.tr h257
          show e_Pn 20 elay ecode eI n d 352 (244, [(3, (0, z16)), (2, (0, w7 275 79)), (1, (0, w7 275 81)), (0, (1, 275))], [], w259) _
          refine e_Pn.run (t' := (246, [(3, (0, z16)), (2, (0, w7 275 79)), (1, (0, w7 275 81)), (0, (1, 275))], [(1, 275), (1, 275)], w259)) eAlk 2 rfl ?_
          refine e_Pn.getf (z := w259 275 83) eAlk rfl rfl rfl (fun b261 => ?_)
          refine e_Pn.run (t' := (250, [(3, (0, z16)), (2, (0, w7 275 79)), (1, (0, w7 275 81)), (0, (1, 275))], [(0, 1), (0, w259 275 83), (1, 275)], w259)) eAlk 1 rfl ?_
          refine e_Pn.bin0 eAlk rfl (fun z262 hz262 => ?_)
          refine e_Pn.putf eAlk rfl rfl ?_
          generalize hw263 : e_up w259 275 83 z262 = w263
          have q264 : mq w w263 := mq.upF q260 hw263 (by decide) (by decide +kernel)
          exact e_Pn.ret0 rfl ⟨rfl, q264⟩
    · show e_Pn 20 elay ecode eI n d 352 (114, [(3, (0, z16)), (2, (0, w7 275 79)), (1, (0, w7 275 81)), (0, (1, 275))], [], w162) _
      refine e_Pn.run (t' := (115, [(3, (0, z16)), (2, (0, w7 275 79)), (1, (0, w7 275 81)), (0, (1, 275))], [(1, 275)], w162)) eAlk 1 rfl ?_
      refine e_Pn.callA rfl (fun n9 d9 => u_327 (q164.rf hR)) (fun r266 w267 h265 => ?_)
      obtain ⟨rfl, h265⟩ := h265
      have q268 := q164.tr h265
      show e_Pn 20 elay ecode eI n d 352 (118, [(3, (0, z16)), (2, (0, w7 275 79)), (1, (0, w7 275 81)), (0, (1, 275))], [], w267) _
      refine e_Pn.run (t' := (122, [(3, (0, z16)), (2, (0, w7 275 79)), (1, (0, w7 275 81)), (0, (1, 275))], [(0, 58), (1, 275), (1, 275)], w267)) eAlk 3 rfl ?_
      refine e_Pn.callA rfl (fun n9 d9 => u_331 (q268.rf hR)) (fun r270 w271 h269 => ?_)
      obtain ⟨⟨z272, rfl⟩, h269⟩ := h269
      have q273 := q268.tr h269
      show e_Pn 20 elay ecode eI n d 352 (125, [(3, (0, z16)), (2, (0, w7 275 79)), (1, (0, w7 275 81)), (0, (1, 275))], [(0, z272), (1, 275)], w271) _
      refine e_Pn.callA rfl (fun n9 d9 => u_334 (q273.rf hR)) (fun r275 w276 h274 => ?_)
      obtain ⟨rfl, h274⟩ := h274
      have q277 := q273.tr h274
      show e_Pn 20 elay ecode eI n d 352 (128, [(3, (0, z16)), (2, (0, w7 275 79)), (1, (0, w7 275 81)), (0, (1, 275))], [], w276) _
      refine e_Pn.run (t' := (131, [(3, (0, z16)), (2, (0, w7 275 79)), (1, (0, w7 275 81)), (0, (1, 275))], [(0, w7 275 79), (0, 3), (1, 275)], w276)) eAlk 3 rfl ?_
      refine e_Pn.bin0 eAlk rfl (fun z278 hz278 => ?_)
      refine e_Pn.run (t' := (133, [(3, (0, z16)), (2, (0, w7 275 79)), (1, (0, w7 275 81)), (0, (1, 275))], [(0, 1), (0, z278), (1, 275)], w276)) eAlk 1 rfl ?_
      refine e_Pn.bin0 eAlk rfl (fun z279 hz279 => ?_)
      refine e_Pn.putf eAlk rfl rfl ?_
      generalize hw280 : e_up w276 275 81 z279 = w280
      have q281 : mq w w280 := mq.upF q277 hw280 (by decide) (by decide +kernel)
      refine e_Pn.run (t' := (138, [(3, (0, z16)), (2, (0, w7 275 79)), (1, (0, w7 275 81)), (0, (1, 275))], [(1, 275)], w280)) eAlk 1 rfl ?_
      refine e_Pn.getr (z := 332) eAlk rfl rfl (q281.rf hR (69, 332) (by decide)) (by omega) ?_
      refine e_Pn.run (t' := (143, [(3, (0, z16)), (2, (0, w7 275 79)), (1, (0, w7 275 81)), (0, (1, 275))], [(1, 275), (0, z16), (1, 332)], w280)) eAlk 2 rfl ?_
      refine e_Pn.getf (z := w280 275 78) eAlk rfl rfl rfl (fun b282 => ?_)
      refine e_Pn.ast eAlk rfl rfl rfl (fun b283 b284 => ?_)
      generalize hw285 : e_up w280 332 z16 (w280 275 78) = w285
      have q286 : mq w w285 := mq.upA q281 hw285 (by decide)
      refine e_Pn.run (t' := (148, [(3, (0, z16)), (2, (0, w7 275 79)), (1, (0, w7 275 81)), (0, (1, 275))], [(1, 275)], w285)) eAlk 1 rfl ?_
      refine e_Pn.callB rfl (fun k9 hk9 d9 => ihG k9 (by omega) 348 (by decide) d9 _ (q286.rf hR)) (fun r288 w289 h287 => ?_)
      obtain ⟨rfl, h287⟩ := h287
      have q290 := q286.tr h287
      show e_Pn 20 elay ecode eI n d 352 (151, [(3, (0, z16)), (2, (0, w7 275 79)), (1, (0, w7 275 81)), (0, (1, 275))], [], w289) _
      refine e_Pn.run (t' := (155, [(3, (0, z16)), (2, (0, w7 275 79)), (1, (0, w7 275 81)), (0, (1, 275))], [(0, w7 275 79), (0, 50), (1, 275)], w289)) eAlk 3 rfl ?_
      refine e_Pn.callA rfl (fun n9 d9 => u_336 (q290.rf hR)) (fun r292 w293 h291 => ?_)
      obtain ⟨⟨z294, rfl⟩, h291⟩ := h291
      have q295 := q290.tr h291
      show e_Pn 20 elay ecode eI n d 352 (158, [(3, (0, z16)), (2, (0, w7 275 79)), (1, (0, w7 275 81)), (0, (1, 275))], [(0, z294)], w293) _
      refine e_Pn.run (t' := (160, [(3, (0, z16)), (2, (0, w7 275 79)), (1, (0, w7 275 81)), (0, (1, 275))], [(1, 275)], w293)) eAlk 2 rfl ?_
      refine e_Pn.getf (z := w293 275 88) eAlk rfl rfl rfl (fun b296 => ?_)
      refine e_Pn.if1 eAlk rfl (fun h297 => ?_) (fun h297 => ?_)
      · show e_Pn 20 elay ecode eI n d 352 (220, [(3, (0, z16)), (2, (0, w7 275 79)), (1, (0, w7 275 81)), (0, (1, 275))], [], w293) _
        refine e_Pn.run (t' := (222, [(3, (0, z16)), (2, (0, w7 275 79)), (1, (0, w7 275 81)), (0, (1, 275))], [(0, w7 275 81), (1, 275)], w293)) eAlk 2 rfl ?_
        refine e_Pn.putf eAlk rfl rfl ?_
        generalize hw298 : e_up w293 275 81 (w7 275 81) = w298
        have q299 : mq w w298 := mq.upF q295 hw298 (by decide) (by decide +kernel)
        refine e_Pn.run (t' := (226, [(3, (0, z16)), (2, (0, w7 275 79)), (1, (0, w7 275 81)), (0, (1, 275))], [(1, 275)], w298)) eAlk 1 rfl ?_
        refine e_Pn.getr (z := 334) eAlk rfl rfl (q299.rf hR (71, 334) (by decide)) (by omega) ?_
        refine e_Pn.run (t' := (231, [(3, (0, z16)), (2, (0, w7 275 79)), (1, (0, w7 275 81)), (0, (1, 275))], [(1, 275), (0, z16), (1, 334)], w298)) eAlk 2 rfl ?_
        refine e_Pn.getf (z := w298 275 78) eAlk rfl rfl rfl (fun b300 => ?_)
        refine e_Pn.ast eAlk rfl rfl rfl (fun b301 b302 => ?_)
        generalize hw303 : e_up w298 334 z16 (w298 275 78) = w303
        have q304 : mq w w303 := mq.upA q299 hw303 (by decide)
        refine e_Pn.run (t' := (238, [(3, (0, z16)), (2, (0, w7 275 79)), (1, (0, w7 275 81)), (0, (1, 275))], [(0, 2), (1, 275), (1, 275)], w303)) eAlk 3 rfl ?_
        refine e_Pn.callA rfl (fun n9 d9 => u_332 (q304.rf hR)) (fun r306 w307 h305 => ?_)
        obtain ⟨⟨z308, rfl⟩, h305⟩ := h305
        have q309 := q304.tr h305
        show e_Pn 20 elay ecode eI n d 352 (241, [(3, (0, z16)), (2, (0, w7 275 79)), (1, (0, w7 275 81)), (0, (1, 275))], [(0, z308), (1, 275)], w307) _
        refine e_Pn.callA rfl (fun n9 d9 => u_334 (q309.rf hR)) (fun r311 w312 h310 => ?_)
        obtain ⟨rfl, h310⟩ := h310
        have q313 := q309.tr h310
        show e_Pn 20 elay ecode eI n d 352 (244, [(3, (0, z16)), (2, (0, w7 275 79)), (1, (0, w7 275 81)), (0, (1, 275))], [], w312) _
        refine e_Pn.run (t' := (246, [(3, (0, z16)), (2, (0, w7 275 79)), (1, (0, w7 275 81)), (0, (1, 275))], [(1, 275), (1, 275)], w312)) eAlk 2 rfl ?_
        refine e_Pn.getf (z := w312 275 83) eAlk rfl rfl rfl (fun b314 => ?_)
        refine e_Pn.run (t' := (250, [(3, (0, z16)), (2, (0, w7 275 79)), (1, (0, w7 275 81)), (0, (1, 275))], [(0, 1), (0, w312 275 83), (1, 275)], w312)) eAlk 1 rfl ?_
        refine e_Pn.bin0 eAlk rfl (fun z315 hz315 => ?_)
        refine e_Pn.putf eAlk rfl rfl ?_
        generalize hw316 : e_up w312 275 83 z315 = w316
        have q317 : mq w w316 := mq.upF q313 hw316 (by decide) (by decide +kernel)
        exact e_Pn.ret0 rfl ⟨rfl, q317⟩
      · show e_Pn 20 elay ecode eI n d 352 (166, [(3, (0, z16)), (2, (0, w7 275 79)), (1, (0, w7 275 81)), (0, (1, 275))], [], w293) _
        refine e_Pn.run (t' := (169, [(3, (0, z16)), (2, (0, w7 275 79)), (1, (0, w7 275 81)), (0, (1, 275))], [(0, 23), (1, 275)], w293)) eAlk 2 rfl ?_
        refine e_Pn.callA rfl (fun n9 d9 => u_332 (q295.rf hR)) (fun r319 w320 h318 => ?_)
        obtain ⟨⟨z321, rfl⟩, h318⟩ := h318
        have q322 := q295.tr h318
        show e_Pn 20 elay ecode eI n d 352 (172, [(3, (0, z16)), (2, (0, w7 275 79)), (1, (0, w7 275 81)), (0, (1, 275))], [(0, z321)], w320) _
        refine e_Pn.if1 eAlk rfl (fun h323 => ?_) (fun h323 => ?_)
        · show e_Pn 20 elay ecode eI n d 352 (220, [(3, (0, z16)), (2, (0, w7 275 79)), (1, (0, w7 275 81)), (0, (1, 275))], [], w320) _
          refine e_Pn.run (t' := (222, [(3, (0, z16)), (2, (0, w7 275 79)), (1, (0, w7 275 81)), (0, (1, 275))], [(0, w7 275 81), (1, 275)], w320)) eAlk 2 rfl ?_
          refine e_Pn.putf eAlk rfl rfl ?_
          generalize hw324 : e_up w320 275 81 (w7 275 81) = w324
          have q325 : mq w w324 := mq.upF q322 hw324 (by decide) (by decide +kernel)
          refine e_Pn.run (t' := (226, [(3, (0, z16)), (2, (0, w7 275 79)), (1, (0, w7 275 81)), (0, (1, 275))], [(1, 275)], w324)) eAlk 1 rfl ?_
          refine e_Pn.getr (z := 334) eAlk rfl rfl (q325.rf hR (71, 334) (by decide)) (by omega) ?_
          refine e_Pn.run (t' := (231, [(3, (0, z16)), (2, (0, w7 275 79)), (1, (0, w7 275 81)), (0, (1, 275))], [(1, 275), (0, z16), (1, 334)], w324)) eAlk 2 rfl ?_
          refine e_Pn.getf (z := w324 275 78) eAlk rfl rfl rfl (fun b326 => ?_)
          refine e_Pn.ast eAlk rfl rfl rfl (fun b327 b328 => ?_)
          generalize hw329 : e_up w324 334 z16 (w324 275 78) = w329
          have q330 : mq w w329 := mq.upA q325 hw329 (by decide)
          refine e_Pn.run (t' := (238, [(3, (0, z16)), (2, (0, w7 275 79)), (1, (0, w7 275 81)), (0, (1, 275))], [(0, 2), (1, 275), (1, 275)], w329)) eAlk 3 rfl ?_
          refine e_Pn.callA rfl (fun n9 d9 => u_332 (q330.rf hR)) (fun r332 w333 h331 => ?_)
          obtain ⟨⟨z334, rfl⟩, h331⟩ := h331
          have q335 := q330.tr h331
          show e_Pn 20 elay ecode eI n d 352 (241, [(3, (0, z16)), (2, (0, w7 275 79)), (1, (0, w7 275 81)), (0, (1, 275))], [(0, z334), (1, 275)], w333) _
          refine e_Pn.callA rfl (fun n9 d9 => u_334 (q335.rf hR)) (fun r337 w338 h336 => ?_)
          obtain ⟨rfl, h336⟩ := h336
          have q339 := q335.tr h336
          show e_Pn 20 elay ecode eI n d 352 (244, [(3, (0, z16)), (2, (0, w7 275 79)), (1, (0, w7 275 81)), (0, (1, 275))], [], w338) _
          refine e_Pn.run (t' := (246, [(3, (0, z16)), (2, (0, w7 275 79)), (1, (0, w7 275 81)), (0, (1, 275))], [(1, 275), (1, 275)], w338)) eAlk 2 rfl ?_
          refine e_Pn.getf (z := w338 275 83) eAlk rfl rfl rfl (fun b340 => ?_)
          refine e_Pn.run (t' := (250, [(3, (0, z16)), (2, (0, w7 275 79)), (1, (0, w7 275 81)), (0, (1, 275))], [(0, 1), (0, w338 275 83), (1, 275)], w338)) eAlk 1 rfl ?_
          refine e_Pn.bin0 eAlk rfl (fun z341 hz341 => ?_)
          refine e_Pn.putf eAlk rfl rfl ?_
          generalize hw342 : e_up w338 275 83 z341 = w342
          have q343 : mq w w342 := mq.upF q339 hw342 (by decide) (by decide +kernel)
          exact e_Pn.ret0 rfl ⟨rfl, q343⟩
        · show e_Pn 20 elay ecode eI n d 352 (175, [(3, (0, z16)), (2, (0, w7 275 79)), (1, (0, w7 275 81)), (0, (1, 275))], [], w320) _
          refine e_Pn.run (t' := (176, [(3, (0, z16)), (2, (0, w7 275 79)), (1, (0, w7 275 81)), (0, (1, 275))], [(1, 275)], w320)) eAlk 1 rfl ?_
          refine e_Pn.callA rfl (fun n9 d9 => u_327 (q322.rf hR)) (fun r345 w346 h344 => ?_)
          obtain ⟨rfl, h344⟩ := h344
          have q347 := q322.tr h344
          show e_Pn 20 elay ecode eI n d 352 (179, [(3, (0, z16)), (2, (0, w7 275 79)), (1, (0, w7 275 81)), (0, (1, 275))], [], w346) _
          refine e_Pn.run (t' := (183, [(3, (0, z16)), (2, (0, w7 275 79)), (1, (0, w7 275 81)), (0, (1, 275))], [(0, 58), (1, 275), (1, 275)], w346)) eAlk 3 rfl ?_
          refine e_Pn.callA rfl (fun n9 d9 => u_331 (q347.rf hR)) (fun r349 w350 h348 => ?_)
          obtain ⟨⟨z351, rfl⟩, h348⟩ := h348
          have q352 := q347.tr h348
          show e_Pn 20 elay ecode eI n d 352 (186, [(3, (0, z16)), (2, (0, w7 275 79)), (1, (0, w7 275 81)), (0, (1, 275))], [(0, z351), (1, 275)], w350) _
          refine e_Pn.callA rfl (fun n9 d9 => u_334 (q352.rf hR)) (fun r354 w355 h353 => ?_)
          obtain ⟨rfl, h353⟩ := h353
          have q356 := q352.tr h353
          show e_Pn 20 elay ecode eI n d 352 (189, [(3, (0, z16)), (2, (0, w7 275 79)), (1, (0, w7 275 81)), (0, (1, 275))], [], w355) _
          refine e_Pn.run (t' := (192, [(3, (0, z16)), (2, (0, w7 275 79)), (1, (0, w7 275 81)), (0, (1, 275))], [(0, w7 275 79), (0, 3), (1, 275)], w355)) eAlk 3 rfl ?_
          refine e_Pn.bin0 eAlk rfl (fun z357 hz357 => ?_)
          refine e_Pn.run (t' := (194, [(3, (0, z16)), (2, (0, w7 275 79)), (1, (0, w7 275 81)), (0, (1, 275))], [(0, 2), (0, z357), (1, 275)], w355)) eAlk 1 rfl ?_
          refine e_Pn.bin0 eAlk rfl (fun z358 hz358 => ?_)
          refine e_Pn.putf eAlk rfl rfl ?_
          generalize hw359 : e_up w355 275 81 z358 = w359
          have q360 : mq w w359 := mq.upF q356 hw359 (by decide) (by decide +kernel)
          refine e_Pn.run (t' := (199, [(3, (0, z16)), (2, (0, w7 275 79)), (1, (0, w7 275 81)), (0, (1, 275))], [(1, 275)], w359)) eAlk 1 rfl ?_
          refine e_Pn.getr (z := 333) eAlk rfl rfl (q360.rf hR (70, 333) (by decide)) (by omega) ?_
          refine e_Pn.run (t' := (204, [(3, (0, z16)), (2, (0, w7 275 79)), (1, (0, w7 275 81)), (0, (1, 275))], [(1, 275), (0, z16), (1, 333)], w359)) eAlk 2 rfl ?_
          refine e_Pn.getf (z := w359 275 78) eAlk rfl rfl rfl (fun b361 => ?_)
          refine e_Pn.ast eAlk rfl rfl rfl (fun b362 b363 => ?_)
          generalize hw364 : e_up w359 333 z16 (w359 275 78) = w364
          have q365 : mq w w364 := mq.upA q360 hw364 (by decide)
          refine e_Pn.run (t' := (209, [(3, (0, z16)), (2, (0, w7 275 79)), (1, (0, w7 275 81)), (0, (1, 275))], [(1, 275)], w364)) eAlk 1 rfl ?_
          refine e_Pn.callB rfl (fun k9 hk9 d9 => ihG k9 (by omega) 348 (by decide) d9 _ (q365.rf hR)) (fun r367 w368 h366 => ?_)
          obtain ⟨rfl, h366⟩ := h366
          have q369 := q365.tr h366
          show e_Pn 20 elay ecode eI n d 352 (212, [(3, (0, z16)), (2, (0, w7 275 79)), (1, (0, w7 275 81)), (0, (1, 275))], [], w368) _
          refine e_Pn.run (t' := (216, [(3, (0, z16)), (2, (0, w7 275 79)), (1, (0, w7 275 81)), (0, (1, 275))], [(0, w7 275 79), (0, 51), (1, 275)], w368)) eAlk 3 rfl ?_
          refine e_Pn.callA rfl (fun n9 d9 => u_336 (q369.rf hR)) (fun r371 w372 h370 => ?_)
          obtain ⟨⟨z373, rfl⟩, h370⟩ := h370
          have q374 := q369.tr h370
          show e_Pn 20 elay ecode eI n d 352 (219, [(3, (0, z16)), (2, (0, w7 275 79)), (1, (0, w7 275 81)), (0, (1, 275))], [(0, z373)], w372) _
          refine e_Pn.run (t' := (222, [(3, (0, z16)), (2, (0, w7 275 79)), (1, (0, w7 275 81)), (0, (1, 275))], [(0, w7 275 81), (1, 275)], w372)) eAlk 3 rfl ?_
          refine e_Pn.putf eAlk rfl rfl ?_
          generalize hw375 : e_up w372 275 81 (w7 275 81) = w375
          have q376 : mq w w375 := mq.upF q374 hw375 (by decide) (by decide +kernel)
          refine e_Pn.run (t' := (226, [(3, (0, z16)), (2, (0, w7 275 79)), (1, (0, w7 275 81)), (0, (1, 275))], [(1, 275)], w375)) eAlk 1 rfl ?_
          refine e_Pn.getr (z := 334) eAlk rfl rfl (q376.rf hR (71, 334) (by decide)) (by omega) ?_
          refine e_Pn.run (t' := (231, [(3, (0, z16)), (2, (0, w7 275 79)), (1, (0, w7 275 81)), (0, (1, 275))], [(1, 275), (0, z16), (1, 334)], w375)) eAlk 2 rfl ?_
          refine e_Pn.getf (z := w375 275 78) eAlk rfl rfl rfl (fun b377 => ?_)
          refine e_Pn.ast eAlk rfl rfl rfl (fun b378 b379 => ?_)
          generalize hw380 : e_up w375 334 z16 (w375 275 78) = w380
          have q381 : mq w w380 := mq.upA q376 hw380 (by decide)
          refine e_Pn.run (t' := (238, [(3, (0, z16)), (2, (0, w7 275 79)), (1, (0, w7 275 81)), (0, (1, 275))], [(0, 2), (1, 275), (1, 275)], w380)) eAlk 3 rfl ?_
          refine e_Pn.callA rfl (fun n9 d9 => u_332 (q381.rf hR)) (fun r383 w384 h382 => ?_)
          obtain ⟨⟨z385, rfl⟩, h382⟩ := h382
          have q386 := q381.tr h382
          show e_Pn 20 elay ecode eI n d 352 (241, [(3, (0, z16)), (2, (0, w7 275 79)), (1, (0, w7 275 81)), (0, (1, 275))], [(0, z385), (1, 275)], w384) _
          refine e_Pn.callA rfl (fun n9 d9 => u_334 (q386.rf hR)) (fun r388 w389 h387 => ?_)
          obtain ⟨rfl, h387⟩ := h387
          have q390 := q386.tr h387
          show e_Pn 20 elay ecode eI n d 352 (244, [(3, (0, z16)), (2, (0, w7 275 79)), (1, (0, w7 275 81)), (0, (1, 275))], [], w389) _
          refine e_Pn.run (t' := (246, [(3, (0, z16)), (2, (0, w7 275 79)), (1, (0, w7 275 81)), (0, (1, 275))], [(1, 275), (1, 275)], w389)) eAlk 2 rfl ?_
          refine e_Pn.getf (z := w389 275 83) eAlk rfl rfl rfl (fun b391 => ?_)
          refine e_Pn.run (t' := (250, [(3, (0, z16)), (2, (0, w7 275 79)), (1, (0, w7 275 81)), (0, (1, 275))], [(0, 1), (0, w389 275 83), (1, 275)], w389)) eAlk 1 rfl ?_
          refine e_Pn.bin0 eAlk rfl (fun z392 hz392 => ?_)
          refine e_Pn.putf eAlk rfl rfl ?_
          generalize hw393 : e_up w389 275 83 z392 = w393
          have q394 : mq w w393 := mq.upF q390 hw393 (by decide) (by decide +kernel)
          exact e_Pn.ret0 rfl ⟨rfl, q394⟩
theorem uS_all : ∀ n, uS n := fun n => Nat.strongRecOn n (fun n ih M hM => by
  simp only [List.mem_cons, List.not_mem_nil, or_false] at hM
  rcases hM with rfl | rfl | rfl | rfl
  · exact fun d w hR => u_348 hR (fun k hk => ih k hk)
  · exact fun d w hR => u_350 hR (fun k hk => ih k hk)
  · exact fun d w hR => u_351 hR (fun k hk => ih k hk)
  · exact fun d w hR => u_352 hR (fun k hk => ih k hk))
set_option maxHeartbeats 4000000 in
theorem u_353 {n d : Nat} {w : eW} (hR : mRw w) : e_Pn 20 elay ecode eI n d 353 (0, [(0, (1, 275))], [], w) (fun r w' => r = [] ∧ mq w w') := by
  have hL1 : ∀ nn3 : Nat, nn3 ≤ n → ∀ (tl4 : eL) (w5 : eW), mq w w5 → e_Pn 20 elay ecode eI nn3 d 353 (0, (0, (1, 275)) :: tl4, [], w5) (fun r w' => r = [] ∧ mq w w') := by
    intro nn3
    induction nn3 with
    | zero => intro _ tl4 w5 _; exact e_Pn.zero
    | succ nn3 ih2 =>
      intro hnnn3 tl4 w5 q6
      refine e_Pn.runS (t' := (1, (0, (1, 275)) :: tl4, [(1, 275)], w5)) eAlk 0 rfl ?_
      refine e_Pn.getf (z := w5 275 88) eAlk rfl rfl rfl (fun b7 => ?_)
      refine e_Pn.if1 eAlk rfl (fun h8 => ?_) (fun h8 => ?_)
      · show e_Pn 20 elay ecode eI nn3 d 353 (67, (0, (1, 275)) :: tl4, [], w5) _
        have hL9 : ∀ nn11 : Nat, nn11 ≤ nn3 → ∀ (tl12 : eL) (w13 : eW), mq w w13 → e_Pn 20 elay ecode eI nn11 d 353 (67, (0, (1, 275)) :: tl12, [], w13) (fun r w' => r = [] ∧ mq w w') := by
          intro nn11
          induction nn11 with
          | zero => intro _ tl12 w13 _; exact e_Pn.zero
          | succ nn11 ih10 =>
            intro hnnn11 tl12 w13 q14
            refine e_Pn.runS (t' := (68, (0, (1, 275)) :: tl12, [(1, 275)], w13)) eAlk 0 rfl ?_
            refine e_Pn.getf (z := w13 275 88) eAlk rfl rfl rfl (fun b15 => ?_)
            refine e_Pn.if1 eAlk rfl (fun h16 => ?_) (fun h16 => ?_)
            · show e_Pn 20 elay ecode eI nn11 d 353 (129, (0, (1, 275)) :: tl12, [], w13) _
              refine e_Pn.run (t' := (131, (0, (1, 275)) :: tl12, [(1, 275), (1, 275)], w13)) eAlk 2 rfl ?_
              refine e_Pn.getf (z := w13 275 84) eAlk rfl rfl rfl (fun b17 => ?_)
              refine e_Pn.if1 eAlk rfl (fun h18 => ?_) (fun h18 => ?_)
              · show e_Pn 20 elay ecode eI nn11 d 353 (141, (0, (1, 275)) :: tl12, [(1, 275)], w13) _
                refine e_Pn.run (t' := (142, (0, (1, 275)) :: tl12, [(0, 0), (1, 275)], w13)) eAlk 1 rfl ?_
                refine e_Pn.callA rfl (fun n9 d9 => u_334 (q14.rf hR)) (fun r20 w21 h19 => ?_)
                obtain ⟨rfl, h19⟩ := h19
                have q22 := q14.tr h19
                show e_Pn 20 elay ecode eI nn11 d 353 (145, (0, (1, 275)) :: tl12, [], w21) _
                exact e_Pn.ret0 rfl ⟨rfl, q22⟩
              · show e_Pn 20 elay ecode eI nn11 d 353 (137, (0, (1, 275)) :: tl12, [(1, 275)], w13) _
                refine e_Pn.run (t' := (142, (0, (1, 275)) :: tl12, [(0, 1), (1, 275)], w13)) eAlk 2 rfl ?_
                refine e_Pn.callA rfl (fun n9 d9 => u_334 (q14.rf hR)) (fun r24 w25 h23 => ?_)
                obtain ⟨rfl, h23⟩ := h23
                have q26 := q14.tr h23
                show e_Pn 20 elay ecode eI nn11 d 353 (145, (0, (1, 275)) :: tl12, [], w25) _
                exact e_Pn.ret0 rfl ⟨rfl, q26⟩
            · show e_Pn 20 elay ecode eI nn11 d 353 (74, (0, (1, 275)) :: tl12, [], w13) _
              refine e_Pn.run (t' := (76, (0, (1, 275)) :: tl12, [(0, 1), (1, 275)], w13)) eAlk 2 rfl ?_
              refine e_Pn.callA rfl (fun n9 d9 => u_332 (q14.rf hR)) (fun r28 w29 h27 => ?_)
              obtain ⟨⟨z30, rfl⟩, h27⟩ := h27
              have q31 := q14.tr h27
              show e_Pn 20 elay ecode eI nn11 d 353 (79, (0, (1, 275)) :: tl12, [(0, z30)], w29) _
              refine e_Pn.if1 eAlk rfl (fun h32 => ?_) (fun h32 => ?_)
              · show e_Pn 20 elay ecode eI nn11 d 353 (129, (0, (1, 275)) :: tl12, [], w29) _
                refine e_Pn.run (t' := (131, (0, (1, 275)) :: tl12, [(1, 275), (1, 275)], w29)) eAlk 2 rfl ?_
                refine e_Pn.getf (z := w29 275 84) eAlk rfl rfl rfl (fun b33 => ?_)
                refine e_Pn.if1 eAlk rfl (fun h34 => ?_) (fun h34 => ?_)
                · show e_Pn 20 elay ecode eI nn11 d 353 (141, (0, (1, 275)) :: tl12, [(1, 275)], w29) _
                  refine e_Pn.run (t' := (142, (0, (1, 275)) :: tl12, [(0, 0), (1, 275)], w29)) eAlk 1 rfl ?_
                  refine e_Pn.callA rfl (fun n9 d9 => u_334 (q31.rf hR)) (fun r36 w37 h35 => ?_)
                  obtain ⟨rfl, h35⟩ := h35
                  have q38 := q31.tr h35
                  show e_Pn 20 elay ecode eI nn11 d 353 (145, (0, (1, 275)) :: tl12, [], w37) _
                  exact e_Pn.ret0 rfl ⟨rfl, q38⟩
                · show e_Pn 20 elay ecode eI nn11 d 353 (137, (0, (1, 275)) :: tl12, [(1, 275)], w29) _
                  refine e_Pn.run (t' := (142, (0, (1, 275)) :: tl12, [(0, 1), (1, 275)], w29)) eAlk 2 rfl ?_
                  refine e_Pn.callA rfl (fun n9 d9 => u_334 (q31.rf hR)) (fun r40 w41 h39 => ?_)
                  obtain ⟨rfl, h39⟩ := h39
                  have q42 := q31.tr h39
                  show e_Pn 20 elay ecode eI nn11 d 353 (145, (0, (1, 275)) :: tl12, [], w41) _
                  exact e_Pn.ret0 rfl ⟨rfl, q42⟩
              · show e_Pn 20 elay ecode eI nn11 d 353 (82, (0, (1, 275)) :: tl12, [], w29) _
                refine e_Pn.run (t' := (83, (0, (1, 275)) :: tl12, [(1, 275)], w29)) eAlk 1 rfl ?_
                refine e_Pn.callA rfl (fun n9 d9 => u_327 (q31.rf hR)) (fun r44 w45 h43 => ?_)
                obtain ⟨rfl, h43⟩ := h43
                have q46 := q31.tr h43
                show e_Pn 20 elay ecode eI nn11 d 353 (86, (0, (1, 275)) :: tl12, [], w45) _
                refine e_Pn.run (t' := (89, (0, (1, 275)) :: tl12, [(1, 275), (0, 1), (1, 275)], w45)) eAlk 3 rfl ?_
                refine e_Pn.getf (z := w45 275 78) eAlk rfl rfl rfl (fun b47 => ?_)
                refine e_Pn.callA rfl (fun n9 d9 => u_338 (q46.rf hR)) (fun r49 w50 h48 => ?_)
                obtain ⟨rfl, h48⟩ := h48
                have q51 := q46.tr h48
                show e_Pn 20 elay ecode eI nn11 d 353 (95, (0, (1, 275)) :: tl12, [], w50) _
                refine e_Pn.run (t' := (99, (0, (1, 275)) :: tl12, [(0, 58), (1, 275), (1, 275)], w50)) eAlk 3 rfl ?_
                refine e_Pn.callA rfl (fun n9 d9 => u_331 (q51.rf hR)) (fun r53 w54 h52 => ?_)
                obtain ⟨⟨z55, rfl⟩, h52⟩ := h52
                have q56 := q51.tr h52
                show e_Pn 20 elay ecode eI nn11 d 353 (102, (0, (1, 275)) :: tl12, [(0, z55), (1, 275)], w54) _
                refine e_Pn.callA rfl (fun n9 d9 => u_334 (q56.rf hR)) (fun r58 w59 h57 => ?_)
                obtain ⟨rfl, h57⟩ := h57
                have q60 := q56.tr h57
                show e_Pn 20 elay ecode eI nn11 d 353 (105, (0, (1, 275)) :: tl12, [], w59) _
                refine e_Pn.run (t' := (106, (0, (1, 275)) :: tl12, [(1, 275)], w59)) eAlk 1 rfl ?_
                refine e_Pn.callA rfl (fun n9 d9 => uS_all n9 348 (by decide) d9 _ (q60.rf hR)) (fun r62 w63 h61 => ?_)
                obtain ⟨rfl, h61⟩ := h61
                have q64 := q60.tr h61
                show e_Pn 20 elay ecode eI nn11 d 353 (109, (0, (1, 275)) :: tl12, [], w63) _
                refine e_Pn.run (t' := (112, (0, (1, 275)) :: tl12, [(0, 2), (1, 275), (1, 275)], w63)) eAlk 3 rfl ?_
                refine e_Pn.callA rfl (fun n9 d9 => u_332 (q64.rf hR)) (fun r66 w67 h65 => ?_)
                obtain ⟨⟨z68, rfl⟩, h65⟩ := h65
                have q69 := q64.tr h65
                show e_Pn 20 elay ecode eI nn11 d 353 (115, (0, (1, 275)) :: tl12, [(0, z68), (1, 275)], w67) _
                refine e_Pn.callA rfl (fun n9 d9 => u_334 (q69.rf hR)) (fun r71 w72 h70 => ?_)
                obtain ⟨rfl, h70⟩ := h70
                have q73 := q69.tr h70
                show e_Pn 20 elay ecode eI nn11 d 353 (118, (0, (1, 275)) :: tl12, [], w72) _
                refine e_Pn.run (t' := (122, (0, (1, 275)) :: tl12, [(0, 0), (0, 45), (1, 275)], w72)) eAlk 3 rfl ?_
                refine e_Pn.callA rfl (fun n9 d9 => u_336 (q73.rf hR)) (fun r75 w76 h74 => ?_)
                obtain ⟨⟨z77, rfl⟩, h74⟩ := h74
                have q78 := q73.tr h74
                show e_Pn 20 elay ecode eI nn11 d 353 (125, (0, (1, 275)) :: tl12, [(0, z77)], w76) _
                refine e_Pn.run (t' := (67, (0, (1, 275)) :: tl12, [], w76)) eAlk 2 rfl ?_
                exact e_Pn.ord eAlk [0] rfl rfl ((ih10 (by omega) _ w76 q78).le (by omega))
        exact e_Pn.ord eAlk [0] rfl rfl (hL9 nn3 (Nat.le_refl _) _ w5 q6)
      · show e_Pn 20 elay ecode eI nn3 d 353 (7, (0, (1, 275)) :: tl4, [], w5) _
        refine e_Pn.run (t' := (9, (0, (1, 275)) :: tl4, [(0, 0), (1, 275)], w5)) eAlk 2 rfl ?_
        refine e_Pn.callA rfl (fun n9 d9 => u_332 (q6.rf hR)) (fun r80 w81 h79 => ?_)
        obtain ⟨⟨z82, rfl⟩, h79⟩ := h79
        have q83 := q6.tr h79
        show e_Pn 20 elay ecode eI nn3 d 353 (12, (0, (1, 275)) :: tl4, [(0, z82)], w81) _
        refine e_Pn.if1 eAlk rfl (fun h84 => ?_) (fun h84 => ?_)
        · show e_Pn 20 elay ecode eI nn3 d 353 (67, (0, (1, 275)) :: tl4, [], w81) _
          have hL85 : ∀ nn87 : Nat, nn87 ≤ nn3 → ∀ (tl88 : eL) (w89 : eW), mq w w89 → e_Pn 20 elay ecode eI nn87 d 353 (67, (0, (1, 275)) :: tl88, [], w89) (fun r w' => r = [] ∧ mq w w') := by
            intro nn87
            induction nn87 with
            | zero => intro _ tl88 w89 _; exact e_Pn.zero
            | succ nn87 ih86 =>
              intro hnnn87 tl88 w89 q90
              refine e_Pn.runS (t' := (68, (0, (1, 275)) :: tl88, [(1, 275)], w89)) eAlk 0 rfl ?_
              refine e_Pn.getf (z := w89 275 88) eAlk rfl rfl rfl (fun b91 => ?_)
              refine e_Pn.if1 eAlk rfl (fun h92 => ?_) (fun h92 => ?_)
              · show e_Pn 20 elay ecode eI nn87 d 353 (129, (0, (1, 275)) :: tl88, [], w89) _
                refine e_Pn.run (t' := (131, (0, (1, 275)) :: tl88, [(1, 275), (1, 275)], w89)) eAlk 2 rfl ?_
                refine e_Pn.getf (z := w89 275 84) eAlk rfl rfl rfl (fun b93 => ?_)
                refine e_Pn.if1 eAlk rfl (fun h94 => ?_) (fun h94 => ?_)
                · show e_Pn 20 elay ecode eI nn87 d 353 (141, (0, (1, 275)) :: tl88, [(1, 275)], w89) _
                  refine e_Pn.run (t' := (142, (0, (1, 275)) :: tl88, [(0, 0), (1, 275)], w89)) eAlk 1 rfl ?_
                  refine e_Pn.callA rfl (fun n9 d9 => u_334 (q90.rf hR)) (fun r96 w97 h95 => ?_)
                  obtain ⟨rfl, h95⟩ := h95
                  have q98 := q90.tr h95
                  show e_Pn 20 elay ecode eI nn87 d 353 (145, (0, (1, 275)) :: tl88, [], w97) _
                  exact e_Pn.ret0 rfl ⟨rfl, q98⟩
                · show e_Pn 20 elay ecode eI nn87 d 353 (137, (0, (1, 275)) :: tl88, [(1, 275)], w89) _
                  refine e_Pn.run (t' := (142, (0, (1, 275)) :: tl88, [(0, 1), (1, 275)], w89)) eAlk 2 rfl ?_
                  refine e_Pn.callA rfl (fun n9 d9 => u_334 (q90.rf hR)) (fun r100 w101 h99 => ?_)
                  obtain ⟨rfl, h99⟩ := h99
                  have q102 := q90.tr h99
                  show e_Pn 20 elay ecode eI nn87 d 353 (145, (0, (1, 275)) :: tl88, [], w101) _
                  exact e_Pn.ret0 rfl ⟨rfl, q102⟩
              · show e_Pn 20 elay ecode eI nn87 d 353 (74, (0, (1, 275)) :: tl88, [], w89) _
                refine e_Pn.run (t' := (76, (0, (1, 275)) :: tl88, [(0, 1), (1, 275)], w89)) eAlk 2 rfl ?_
                refine e_Pn.callA rfl (fun n9 d9 => u_332 (q90.rf hR)) (fun r104 w105 h103 => ?_)
                obtain ⟨⟨z106, rfl⟩, h103⟩ := h103
                have q107 := q90.tr h103
                show e_Pn 20 elay ecode eI nn87 d 353 (79, (0, (1, 275)) :: tl88, [(0, z106)], w105) _
                refine e_Pn.if1 eAlk rfl (fun h108 => ?_) (fun h108 => ?_)
                · show e_Pn 20 elay ecode eI nn87 d 353 (129, (0, (1, 275)) :: tl88, [], w105) _
                  refine e_Pn.run (t' := (131, (0, (1, 275)) :: tl88, [(1, 275), (1, 275)], w105)) eAlk 2 rfl ?_
                  refine e_Pn.getf (z := w105 275 84) eAlk rfl rfl rfl (fun b109 => ?_)
                  refine e_Pn.if1 eAlk rfl (fun h110 => ?_) (fun h110 => ?_)
                  · show e_Pn 20 elay ecode eI nn87 d 353 (141, (0, (1, 275)) :: tl88, [(1, 275)], w105) _
                    refine e_Pn.run (t' := (142, (0, (1, 275)) :: tl88, [(0, 0), (1, 275)], w105)) eAlk 1 rfl ?_
                    refine e_Pn.callA rfl (fun n9 d9 => u_334 (q107.rf hR)) (fun r112 w113 h111 => ?_)
                    obtain ⟨rfl, h111⟩ := h111
                    have q114 := q107.tr h111
                    show e_Pn 20 elay ecode eI nn87 d 353 (145, (0, (1, 275)) :: tl88, [], w113) _
                    exact e_Pn.ret0 rfl ⟨rfl, q114⟩
                  · show e_Pn 20 elay ecode eI nn87 d 353 (137, (0, (1, 275)) :: tl88, [(1, 275)], w105) _
                    refine e_Pn.run (t' := (142, (0, (1, 275)) :: tl88, [(0, 1), (1, 275)], w105)) eAlk 2 rfl ?_
                    refine e_Pn.callA rfl (fun n9 d9 => u_334 (q107.rf hR)) (fun r116 w117 h115 => ?_)
                    obtain ⟨rfl, h115⟩ := h115
                    have q118 := q107.tr h115
                    show e_Pn 20 elay ecode eI nn87 d 353 (145, (0, (1, 275)) :: tl88, [], w117) _
                    exact e_Pn.ret0 rfl ⟨rfl, q118⟩
                · show e_Pn 20 elay ecode eI nn87 d 353 (82, (0, (1, 275)) :: tl88, [], w105) _
                  refine e_Pn.run (t' := (83, (0, (1, 275)) :: tl88, [(1, 275)], w105)) eAlk 1 rfl ?_
                  refine e_Pn.callA rfl (fun n9 d9 => u_327 (q107.rf hR)) (fun r120 w121 h119 => ?_)
                  obtain ⟨rfl, h119⟩ := h119
                  have q122 := q107.tr h119
                  show e_Pn 20 elay ecode eI nn87 d 353 (86, (0, (1, 275)) :: tl88, [], w121) _
                  refine e_Pn.run (t' := (89, (0, (1, 275)) :: tl88, [(1, 275), (0, 1), (1, 275)], w121)) eAlk 3 rfl ?_
                  refine e_Pn.getf (z := w121 275 78) eAlk rfl rfl rfl (fun b123 => ?_)
                  refine e_Pn.callA rfl (fun n9 d9 => u_338 (q122.rf hR)) (fun r125 w126 h124 => ?_)
                  obtain ⟨rfl, h124⟩ := h124
                  have q127 := q122.tr h124
                  show e_Pn 20 elay ecode eI nn87 d 353 (95, (0, (1, 275)) :: tl88, [], w126) _
                  refine e_Pn.run (t' := (99, (0, (1, 275)) :: tl88, [(0, 58), (1, 275), (1, 275)], w126)) eAlk 3 rfl ?_
                  refine e_Pn.callA rfl (fun n9 d9 => u_331 (q127.rf hR)) (fun r129 w130 h128 => ?_)
                  obtain ⟨⟨z131, rfl⟩, h128⟩ := h128
                  have q132 := q127.tr h128
                  show e_Pn 20 elay ecode eI nn87 d 353 (102, (0, (1, 275)) :: tl88, [(0, z131), (1, 275)], w130) _
                  refine e_Pn.callA rfl (fun n9 d9 => u_334 (q132.rf hR)) (fun r134 w135 h133 => ?_)
                  obtain ⟨rfl, h133⟩ := h133
                  have q136 := q132.tr h133
                  show e_Pn 20 elay ecode eI nn87 d 353 (105, (0, (1, 275)) :: tl88, [], w135) _
                  refine e_Pn.run (t' := (106, (0, (1, 275)) :: tl88, [(1, 275)], w135)) eAlk 1 rfl ?_
                  refine e_Pn.callA rfl (fun n9 d9 => uS_all n9 348 (by decide) d9 _ (q136.rf hR)) (fun r138 w139 h137 => ?_)
                  obtain ⟨rfl, h137⟩ := h137
                  have q140 := q136.tr h137
                  show e_Pn 20 elay ecode eI nn87 d 353 (109, (0, (1, 275)) :: tl88, [], w139) _
                  refine e_Pn.run (t' := (112, (0, (1, 275)) :: tl88, [(0, 2), (1, 275), (1, 275)], w139)) eAlk 3 rfl ?_
                  refine e_Pn.callA rfl (fun n9 d9 => u_332 (q140.rf hR)) (fun r142 w143 h141 => ?_)
                  obtain ⟨⟨z144, rfl⟩, h141⟩ := h141
                  have q145 := q140.tr h141
                  show e_Pn 20 elay ecode eI nn87 d 353 (115, (0, (1, 275)) :: tl88, [(0, z144), (1, 275)], w143) _
                  refine e_Pn.callA rfl (fun n9 d9 => u_334 (q145.rf hR)) (fun r147 w148 h146 => ?_)
                  obtain ⟨rfl, h146⟩ := h146
                  have q149 := q145.tr h146
                  show e_Pn 20 elay ecode eI nn87 d 353 (118, (0, (1, 275)) :: tl88, [], w148) _
                  refine e_Pn.run (t' := (122, (0, (1, 275)) :: tl88, [(0, 0), (0, 45), (1, 275)], w148)) eAlk 3 rfl ?_
                  refine e_Pn.callA rfl (fun n9 d9 => u_336 (q149.rf hR)) (fun r151 w152 h150 => ?_)
                  obtain ⟨⟨z153, rfl⟩, h150⟩ := h150
                  have q154 := q149.tr h150
                  show e_Pn 20 elay ecode eI nn87 d 353 (125, (0, (1, 275)) :: tl88, [(0, z153)], w152) _
                  refine e_Pn.run (t' := (67, (0, (1, 275)) :: tl88, [], w152)) eAlk 2 rfl ?_
                  exact e_Pn.ord eAlk [0] rfl rfl ((ih86 (by omega) _ w152 q154).le (by omega))
          exact e_Pn.ord eAlk [0] rfl rfl (hL85 nn3 (Nat.le_refl _) _ w81 q83)
        · show e_Pn 20 elay ecode eI nn3 d 353 (15, (0, (1, 275)) :: tl4, [], w81) _
          refine e_Pn.run (t' := (16, (0, (1, 275)) :: tl4, [(1, 275)], w81)) eAlk 1 rfl ?_
          refine e_Pn.callA rfl (fun n9 d9 => u_327 (q83.rf hR)) (fun r156 w157 h155 => ?_)
          obtain ⟨rfl, h155⟩ := h155
          have q158 := q83.tr h155
          show e_Pn 20 elay ecode eI nn3 d 353 (19, (0, (1, 275)) :: tl4, [], w157) _
          refine e_Pn.run (t' := (22, (0, (1, 275)) :: tl4, [(0, 0), (0, 0), (1, 275)], w157)) eAlk 3 rfl ?_
          refine e_Pn.callA rfl (fun n9 d9 => u_338 (q158.rf hR)) (fun r160 w161 h159 => ?_)
          obtain ⟨rfl, h159⟩ := h159
          have q162 := q158.tr h159
          show e_Pn 20 elay ecode eI nn3 d 353 (25, (0, (1, 275)) :: tl4, [], w161) _
          have hL163 : ∀ nn165 : Nat, nn165 ≤ nn3 → ∀ (tl166 : eL) (w167 : eW), mq w w167 → e_Pn 20 elay ecode eI nn165 d 353 (25, (0, (1, 275)) :: tl166, [], w167) (fun r w' => r = [] ∧ mq w w') := by
            intro nn165
            induction nn165 with
            | zero => intro _ tl166 w167 _; exact e_Pn.zero
            | succ nn165 ih164 =>
              intro hnnn165 tl166 w167 q168
              refine e_Pn.runS (t' := (26, (0, (1, 275)) :: tl166, [(1, 275)], w167)) eAlk 0 rfl ?_
              refine e_Pn.getf (z := w167 275 88) eAlk rfl rfl rfl (fun b169 => ?_)
              refine e_Pn.if1 eAlk rfl (fun h170 => ?_) (fun h170 => ?_)
              · show e_Pn 20 elay ecode eI nn165 d 353 (54, (0, (1, 275)) :: tl166, [], w167) _
                refine e_Pn.run (t' := (58, (0, (1, 275)) :: tl166, [(0, 59), (1, 275), (1, 275)], w167)) eAlk 3 rfl ?_
                refine e_Pn.callA rfl (fun n9 d9 => u_331 (q168.rf hR)) (fun r172 w173 h171 => ?_)
                obtain ⟨⟨z174, rfl⟩, h171⟩ := h171
                have q175 := q168.tr h171
                show e_Pn 20 elay ecode eI nn165 d 353 (61, (0, (1, 275)) :: tl166, [(0, z174), (1, 275)], w173) _
                refine e_Pn.callA rfl (fun n9 d9 => u_334 (q175.rf hR)) (fun r177 w178 h176 => ?_)
                obtain ⟨rfl, h176⟩ := h176
                have q179 := q175.tr h176
                show e_Pn 20 elay ecode eI nn165 d 353 (64, (0, (1, 275)) :: tl166, [], w178) _
                refine e_Pn.run (t' := (0, (0, (1, 275)) :: tl166, [], w178)) eAlk 1 rfl ?_
                exact e_Pn.ord eAlk [0] rfl rfl ((ih2 (by omega) _ w178 q179).le (by omega))
              · show e_Pn 20 elay ecode eI nn165 d 353 (32, (0, (1, 275)) :: tl166, [], w167) _
                refine e_Pn.run (t' := (35, (0, (1, 275)) :: tl166, [(0, 44), (1, 275)], w167)) eAlk 2 rfl ?_
                refine e_Pn.callA rfl (fun n9 d9 => u_331 (q168.rf hR)) (fun r181 w182 h180 => ?_)
                obtain ⟨⟨z183, rfl⟩, h180⟩ := h180
                have q184 := q168.tr h180
                show e_Pn 20 elay ecode eI nn165 d 353 (38, (0, (1, 275)) :: tl166, [(0, z183)], w182) _
                refine e_Pn.if1 eAlk rfl (fun h185 => ?_) (fun h185 => ?_)
                · show e_Pn 20 elay ecode eI nn165 d 353 (54, (0, (1, 275)) :: tl166, [], w182) _
                  refine e_Pn.run (t' := (58, (0, (1, 275)) :: tl166, [(0, 59), (1, 275), (1, 275)], w182)) eAlk 3 rfl ?_
                  refine e_Pn.callA rfl (fun n9 d9 => u_331 (q184.rf hR)) (fun r187 w188 h186 => ?_)
                  obtain ⟨⟨z189, rfl⟩, h186⟩ := h186
                  have q190 := q184.tr h186
                  show e_Pn 20 elay ecode eI nn165 d 353 (61, (0, (1, 275)) :: tl166, [(0, z189), (1, 275)], w188) _
                  refine e_Pn.callA rfl (fun n9 d9 => u_334 (q190.rf hR)) (fun r192 w193 h191 => ?_)
                  obtain ⟨rfl, h191⟩ := h191
                  have q194 := q190.tr h191
                  show e_Pn 20 elay ecode eI nn165 d 353 (64, (0, (1, 275)) :: tl166, [], w193) _
                  refine e_Pn.run (t' := (0, (0, (1, 275)) :: tl166, [], w193)) eAlk 1 rfl ?_
                  exact e_Pn.ord eAlk [0] rfl rfl ((ih2 (by omega) _ w193 q194).le (by omega))
                · show e_Pn 20 elay ecode eI nn165 d 353 (41, (0, (1, 275)) :: tl166, [], w182) _
                  refine e_Pn.run (t' := (42, (0, (1, 275)) :: tl166, [(1, 275)], w182)) eAlk 1 rfl ?_
                  refine e_Pn.callA rfl (fun n9 d9 => u_327 (q184.rf hR)) (fun r196 w197 h195 => ?_)
                  obtain ⟨rfl, h195⟩ := h195
                  have q198 := q184.tr h195
                  show e_Pn 20 elay ecode eI nn165 d 353 (45, (0, (1, 275)) :: tl166, [], w197) _
                  refine e_Pn.run (t' := (48, (0, (1, 275)) :: tl166, [(0, 0), (0, 0), (1, 275)], w197)) eAlk 3 rfl ?_
                  refine e_Pn.callA rfl (fun n9 d9 => u_338 (q198.rf hR)) (fun r200 w201 h199 => ?_)
                  obtain ⟨rfl, h199⟩ := h199
                  have q202 := q198.tr h199
                  show e_Pn 20 elay ecode eI nn165 d 353 (51, (0, (1, 275)) :: tl166, [], w201) _
                  refine e_Pn.run (t' := (25, (0, (1, 275)) :: tl166, [], w201)) eAlk 1 rfl ?_
                  exact e_Pn.ord eAlk [0] rfl rfl ((ih164 (by omega) _ w201 q202).le (by omega))
          exact e_Pn.ord eAlk [0] rfl rfl (hL163 nn3 (Nat.le_refl _) _ w161 q162)
  exact e_Pn.ord eAlk [0] rfl rfl (hL1 n (Nat.le_refl _) _ w mq.r)
end
