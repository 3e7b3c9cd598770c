noncomputable section
/-! an instruction stays on its side: references lead on into the same set of cells, no other cell is written -/
def e_BB (B : Int → Prop) : Prop := (∀ c, B c ↔ (0 ≤ c ∧ c ≤ 274)) ∨ (∀ c, B c ↔ (275 ≤ c ∧ c ≤ 356))
def e_vB (B : Int → Prop) (x : eV) : Prop := x.1 = 1 → B x.2 ∨ (357 ≤ x.2 ∧ x.2 ≤ 400)
/-- a slot that holds a reference -/
def e_rfs (ft : Nat → Nat → Nat) (lay : List eY) (c k : Int) : Prop := ∃ kd ci n : Nat, lay[c.toNat]? = some (kd, ci, n) ∧ (0 ≤ k ∧ k < n) ∧ ((kd = 0 ∧ ft ci k.toNat ≠ 0) ∨ kd = 5 ∨ kd = 6)
def e_wB (ft : Nat → Nat → Nat) (lay : List eY) (B : Int → Prop) (w : eW) : Prop := (∀ c k, B c → e_rfs ft lay c k → w c k = -1 ∨ B (w c k) ∨ (357 ≤ w c k ∧ w c k ≤ 400)) ∧ ∀ (c k : Int) (ci n : Nat), B c → lay[c.toNat]? = some (2, ci, n) → 0 ≤ k → k < n → -128 ≤ w c k ∧ w c k ≤ 127
def e_tB (ft : Nat → Nat → Nat) (lay : List eY) (B : Int → Prop) (t : eS) : Prop := (∀ q ∈ t.2.1, e_vB B q.2) ∧ (∀ x ∈ t.2.2.1, e_vB B x) ∧ e_wB ft lay B t.2.2.2
def e_IN (ft : Nat → Nat → Nat) (lay : List eY) (f : eS → Option eS) : Prop := lay.length ≤ 357 → ∀ B, e_BB B → ∀ t t' : eS, f t = some t' → e_tB ft lay B t → e_tB ft lay B t' ∧ ∀ c k, ¬ B c → t'.2.2.2 c k = t.2.2.2 c k
section E31c
variable {ft : Nat → Nat → Nat} {lay : List eY}
theorem e_tB.same {B : Int → Prop} {p p' : Nat} {l : eL} {st st' : List eV} {w : eW} (hI : e_tB ft lay B (p, l, st, w)) (h : ∀ x ∈ st', x ∈ st ∨ x.1 ≠ 1 ∨ (357 ≤ x.2 ∧ x.2 ≤ 400)) : e_tB ft lay B (p', l, st', w) ∧ ∀ c k, ¬ B c → w c k = w c k := by
  refine ⟨⟨hI.1, fun x hx => ?_, hI.2.2⟩, fun _ _ _ => rfl⟩
  rcases h x hx with h1 | h1 | h1
  · exact hI.2.1 x h1
  · exact fun e => absurd e h1
  · exact fun _ => Or.inr h1
theorem e_IN.stk {f : eS → Option eS} (g : List eV → Option (Nat × List eV)) (h : ∀ t : eS, f t = (g t.2.2.1).map (fun q => (q.1, t.2.1, q.2, t.2.2.2))) (hg : ∀ st q, g st = some q → ∀ x ∈ q.2, x ∈ st ∨ x.1 ≠ 1 ∨ (357 ≤ x.2 ∧ x.2 ≤ 400)) : e_IN ft lay f := fun _ B _ t t' ht hI => by
  rw [h] at ht
  simp only [Option.map_eq_some_iff] at ht
  obtain ⟨q, hq, rfl⟩ := ht
  exact hI.same (hg _ _ hq)
theorem nx_push {x : eV} {nx : Nat} (hx : Nat.beq x.1 1 = false ∨ (357 ≤ x.2 ∧ x.2 ≤ 400)) : e_NI lay (ei_push x nx) ∧ e_IN ft lay (ei_push x nx) := ⟨ni_push, e_IN.stk (fun st => some (nx, x :: st)) (fun _ => rfl) (fun st q hq y hy => by
  cases hq
  rcases List.mem_cons.mp hy with rfl | hy
  · refine Or.inr (hx.imp (fun h e => ?_) id)
    rw [e] at h
    cases h
  · exact Or.inl hy)⟩
theorem nx_goto {nx : Nat} : e_NI lay (ei_goto nx) ∧ e_IN ft lay (ei_goto nx) := ⟨ni_goto, e_IN.stk (fun st => some (nx, st)) (fun _ => rfl) (fun st q hq y hy => by cases hq; exact Or.inl hy)⟩
theorem nx_bin {F : Int → Int → Option Int} {nx : Nat} : e_NI lay (ei_bin F nx) ∧ e_IN ft lay (ei_bin F nx) := ⟨ni_bin, fun _ B _ t t' ht hI => by
  obtain ⟨p, l, st, w⟩ := t
  unfold ei_bin at ht
  simp only at ht
  split at ht
  · rename_i y x r
    split at ht
    · rename_i z hz
      cases ht
      refine hI.same (fun v hv => ?_)
      rcases List.mem_cons.mp hv with rfl | hv
      · exact Or.inr (Or.inl (show (0 : Nat) ≠ 1 by decide))
      · exact Or.inl (List.mem_cons_of_mem _ (List.mem_cons_of_mem _ (hv)))
    · cases ht
  · cases ht⟩
theorem nx_binL {F : Int → Int → Option eV} {nx : Nat} (hF : ∀ x y z, F x y = some z → z.1 ≠ 1) : e_NI lay (ei_binL F nx) ∧ e_IN ft lay (ei_binL F nx) := ⟨ni_binL, fun _ B _ t t' ht hI => by
  obtain ⟨p, l, st, w⟩ := t
  unfold ei_binL at ht
  simp only at ht
  split at ht
  · rename_i y x r
    split at ht
    · rename_i z hz
      cases ht
      refine hI.same (fun v hv => ?_)
      rcases List.mem_cons.mp hv with rfl | hv
      · exact Or.inr (Or.inl (hF _ _ _ hz))
      · exact Or.inl (List.mem_cons_of_mem _ (List.mem_cons_of_mem _ (hv)))
    · cases ht
  · cases ht⟩
theorem nx_shL {F : Int → Int → Option Int} {nx : Nat} : e_NI lay (ei_shL F nx) ∧ e_IN ft lay (ei_shL F nx) := ⟨ni_shL, fun _ B _ t t' ht hI => by
  obtain ⟨p, l, st, w⟩ := t
  unfold ei_shL at ht
  simp only at ht
  split at ht
  · rename_i y x r
    split at ht
    · rename_i z hz
      cases ht
      refine hI.same (fun v hv => ?_)
      rcases List.mem_cons.mp hv with rfl | hv
      · exact Or.inr (Or.inl (show (4 : Nat) ≠ 1 by decide))
      · exact Or.inl (List.mem_cons_of_mem _ (List.mem_cons_of_mem _ (hv)))
    · cases ht
  · cases ht⟩
theorem nx_un {F : Int → eV} {nx : Nat} (hF : ∀ x, Nat.beq (F x).1 1 = false) : e_NI lay (ei_un F nx) ∧ e_IN ft lay (ei_un F nx) := ⟨ni_un, fun _ B _ t t' ht hI => by
  obtain ⟨p, l, st, w⟩ := t
  unfold ei_un at ht
  simp only at ht
  split at ht
  · rename_i x r
    cases ht
    refine hI.same (fun v hv => ?_)
    rcases List.mem_cons.mp hv with rfl | hv
    · exact Or.inr (Or.inl (fun e => by have := hF x; rw [e] at this; cases this))
    · exact Or.inl (List.mem_cons_of_mem _ (hv))
  · cases ht⟩
theorem nx_unL {F : Int → eV} {nx : Nat} (hF : ∀ x, Nat.beq (F x).1 1 = false) : e_NI lay (ei_unL F nx) ∧ e_IN ft lay (ei_unL F nx) := ⟨ni_unL, fun _ B _ t t' ht hI => by
  obtain ⟨p, l, st, w⟩ := t
  unfold ei_unL at ht
  simp only at ht
  split at ht
  · rename_i x r
    cases ht
    refine hI.same (fun v hv => ?_)
    rcases List.mem_cons.mp hv with rfl | hv
    · exact Or.inr (Or.inl (fun e => by have := hF x; rw [e] at this; cases this))
    · exact Or.inl (List.mem_cons_of_mem _ (hv))
  · cases ht⟩
theorem nx_if2 {k tg nx : Nat} : e_NI lay (ei_if2 k tg nx) ∧ e_IN ft lay (ei_if2 k tg nx) := ⟨ni_if2, fun _ B _ t t' ht hI => by
  obtain ⟨p, l, st, w⟩ := t
  unfold ei_if2 at ht
  simp only at ht
  split at ht
  · rename_i y x r
    cases ht
    exact hI.same (fun v hv => Or.inl (List.mem_cons_of_mem _ (List.mem_cons_of_mem _ (hv))))
  · cases ht⟩
theorem nx_if1 {k tg nx : Nat} : e_NI lay (ei_if1 k tg nx) ∧ e_IN ft lay (ei_if1 k tg nx) := ⟨ni_if1, fun _ B _ t t' ht hI => by
  obtain ⟨p, l, st, w⟩ := t
  unfold ei_if1 at ht
  simp only at ht
  split at ht
  · rename_i x r
    cases ht
    exact hI.same (fun v hv => Or.inl (List.mem_cons_of_mem _ (hv)))
  · cases ht⟩
theorem nx_sw {l0 : List (Int × Int × Nat)} : e_NI lay (ei_sw l0) ∧ e_IN ft lay (ei_sw l0) := ⟨ni_sw, fun _ B _ t t' ht hI => by
  obtain ⟨p, l, st, w⟩ := t
  unfold ei_sw at ht
  simp only at ht
  split at ht
  · rename_i x r
    split at ht
    · rename_i tg htg
      cases ht
      exact hI.same (fun v hv => Or.inl (List.mem_cons_of_mem _ (hv)))
    · cases ht
  · cases ht⟩
theorem nx_stk {g : List eV → Option (List eV)} {nx : Nat} (hg : ∀ st s, g st = some s → ∀ x ∈ s, x ∈ st) : e_NI lay (ei_stk g nx) ∧ e_IN ft lay (ei_stk g nx) := ⟨ni_stk, fun _ B _ t t' ht hI => by
  obtain ⟨p, l, st, w⟩ := t
  unfold ei_stk at ht
  simp only at ht
  split at ht
  · rename_i s hs
    cases ht
    exact hI.same (fun v hv => Or.inl (hg _ _ hs v hv))
  · cases ht⟩
theorem nx_alen {nx : Nat} : e_NI lay (ei_alen lay nx) ∧ e_IN ft lay (ei_alen lay nx) := ⟨ni_alen, fun _ B _ t t' ht hI => by
  obtain ⟨p, l, st, w⟩ := t
  unfold ei_alen at ht
  simp only at ht
  split at ht
  · rename_i j r
    split at ht
    · rename_i kd c0 n hy
      cases hb : Nat.beq kd 0 with
      | true => rw [hb] at ht; cases ht
      | false =>
        rw [hb] at ht
        cases ht
        refine hI.same (fun v hv => ?_)
        rcases List.mem_cons.mp hv with rfl | hv
        · exact Or.inr (Or.inl (show (0 : Nat) ≠ 1 by decide))
        · exact Or.inl (List.mem_cons_of_mem _ (hv))
    · cases ht
  · cases ht⟩
theorem nx_load {i ty nx : Nat} : e_NI lay (ei_load i ty nx) ∧ e_IN ft lay (ei_load i ty nx) := ⟨ni_load, fun _ B _ t t' ht hI => by
  obtain ⟨p, l, st, w⟩ := t
  unfold ei_load at ht
  simp only at ht
  split at ht
  · rename_i x hx
    cases hb : Nat.beq (e_ty x) ty with
    | false => rw [hb] at ht; cases ht
    | true =>
      rw [hb] at ht
      cases ht
      refine ⟨⟨hI.1, fun v hv => ?_, hI.2.2⟩, fun _ _ _ => rfl⟩
      rcases List.mem_cons.mp hv with rfl | hv
      · exact hI.1 _ (e_find_mem hx)
      · exact hI.2.1 v hv
  · cases ht⟩
theorem nx_stor {i ty nx : Nat} : e_NI lay (ei_stor i ty nx) ∧ e_IN ft lay (ei_stor i ty nx) := ⟨ni_stor, fun _ B _ t t' ht hI => by
  obtain ⟨p, l, st, w⟩ := t
  unfold ei_stor at ht
  simp only at ht
  split at ht
  · rename_i x r
    cases hb : Nat.beq (e_ty x) ty with
    | false => rw [hb] at ht; cases ht
    | true =>
      rw [hb] at ht
      cases ht
      refine ⟨⟨fun v hv => ?_, fun v hv => hI.2.1 v (List.mem_cons_of_mem _ hv), hI.2.2⟩, fun _ _ _ => rfl⟩
      rcases List.mem_cons.mp hv with rfl | hv
      · exact hI.2.1 x List.mem_cons_self
      · exact hI.1 v (List.mem_filter.mp hv).1
  · cases ht⟩
theorem nx_inc {i nx : Nat} {n : Int} : e_NI lay (ei_inc i n nx) ∧ e_IN ft lay (ei_inc i n nx) := ⟨ni_inc, fun _ B _ t t' ht hI => by
  obtain ⟨p, l, st, w⟩ := t
  unfold ei_inc at ht
  simp only at ht
  split at ht
  · rename_i x hx
    cases ht
    refine ⟨⟨fun v hv => ?_, hI.2.1, hI.2.2⟩, fun _ _ _ => rfl⟩
    rcases List.mem_cons.mp hv with rfl | hv
    · exact fun e => absurd e (show (0 : Nat) ≠ 1 by decide)
    · exact hI.1 v (List.mem_filter.mp hv).1
  · cases ht⟩
/-- a cell that is looked up lies on the side -/
theorem e_vB.cell {B : Int → Prop} {j : Int} {y : eY} (hl : lay.length ≤ 357) (h : e_vB B (1, j)) (hy : lay[j.toNat]? = some y) : B j := by
  rcases h rfl with h | h
  · exact h
  · have h1 : (357 : Int) ≤ j := h.1
    have := (List.getElem?_eq_some_iff.mp hy).1
    omega
theorem e_rd_B {B : Int → Prop} {fk : Nat} {z : Int} (h : fk ≠ 0 → z = -1 ∨ B z ∨ (357 ≤ z ∧ z ≤ 400)) : e_vB B (e_rd fk z) := by
  intro e
  unfold e_rd at e ⊢
  split at e
  · exact absurd e (show (0 : Nat) ≠ 1 by decide)
  · rename_i n0
    by_cases hz : z = -1
    · rw [decide_eq_true hz] at e
      exact absurd e (show (2 : Nat) ≠ 1 by decide)
    · rw [decide_eq_false hz]
      rcases h (fun q => n0 q) with h | h
      · exact absurd h hz
      · exact h
theorem nx_getf {ci k0 nx : Nat} : e_NI lay (ei_getf ft lay ci k0 nx) ∧ e_IN ft lay (ei_getf ft lay ci k0 nx) := ⟨ni_getf, fun hl B _ t t' ht hI => by
  obtain ⟨p, l, st, w⟩ := t
  unfold ei_getf at ht
  simp only at ht
  split at ht
  · rename_i j r
    split at ht
    · rename_i c' n hy
      cases hb : (Nat.beq c' ci && (Nat.ble (k0 + 1) n && e_okz (w j k0))) with
      | false => rw [hb] at ht; cases ht
      | true =>
        rw [hb] at ht
        cases ht
        simp only [Bool.and_eq_true] at hb
        have e := Nat.eq_of_beq_eq_true hb.1
        subst e
        refine ⟨⟨hI.1, fun v hv => ?_, hI.2.2⟩, fun _ _ _ => rfl⟩
        rcases List.mem_cons.mp hv with rfl | hv
        · exact e_rd_B (fun q => hI.2.2.1 j k0 (e_vB.cell hl (hI.2.1 _ List.mem_cons_self) hy) ⟨0, c', n, hy, ⟨by omega, by have := Nat.ble_eq.mp hb.2.1; omega⟩, Or.inl ⟨rfl, q⟩⟩)
        · exact hI.2.1 v (List.mem_cons_of_mem _ hv)
    · cases ht
  · cases ht⟩
theorem e_wB.up {B : Int → Prop} {w : eW} {j k z : Int} (h : e_wB ft lay B w) (hz : e_rfs ft lay j k → z = -1 ∨ B z ∨ (357 ≤ z ∧ z ≤ 400)) (hb : ∀ ci n : Nat, lay[j.toNat]? = some (2, ci, n) → -128 ≤ z ∧ z ≤ 127) : e_wB ft lay B (e_up w j k z) := by
  have key : ∀ c i : Int, (c = j ∧ i = k) ∨ e_up w j k z c i = w c i := fun c i => by
    by_cases e : c = j ∧ i = k
    · exact Or.inl e
    · have n : c ≠ j ∨ i ≠ k := by
        by_cases e1 : c = j
        · exact Or.inr (fun e2 => e ⟨e1, e2⟩)
        · exact Or.inl e1
      exact Or.inr (e_up_ne _ _ n)
  refine ⟨fun c i hc hr => ?_, fun c i ci n hc hy h0 h1 => ?_⟩
  · rcases key c i with ⟨rfl, rfl⟩ | e
    · rw [e_up_eq]
      exact hz hr
    · rw [e]
      exact h.1 c i hc hr
  · rcases key c i with ⟨rfl, rfl⟩ | e
    · rw [e_up_eq]
      exact hb ci n hy
    · rw [e]
      exact h.2 c i ci n hc hy h0 h1
theorem nx_putf {ci k0 fk nx : Nat} : e_NI lay (ei_putf ft lay ci k0 fk nx) ∧ e_IN ft lay (ei_putf ft lay ci k0 fk nx) := ⟨ni_putf, fun hl B _ t t' ht hI => by
  obtain ⟨p, l, st, w⟩ := t
  unfold ei_putf at ht
  simp only at ht
  split at ht
  · rename_i x j r
    split at ht
    · rename_i c' n z hy hz
      cases hb : (Nat.beq c' ci && (Nat.ble (k0 + 1) n && e_pk fk x)) with
      | false => rw [hb] at ht; cases ht
      | true =>
        rw [hb] at ht
        cases ht
        simp only [Bool.and_eq_true] at hb
        have e := Nat.eq_of_beq_eq_true hb.1
        subst e
        have hj : B j := e_vB.cell hl (hI.2.1 _ (List.mem_cons_of_mem _ List.mem_cons_self)) hy
        refine ⟨⟨hI.1, fun v hv => hI.2.1 v (List.mem_cons_of_mem _ (List.mem_cons_of_mem _ hv)), hI.2.2.up (fun hr => ?_) (fun c2 n2 h1 => by rw [hy] at h1; cases h1)⟩, fun c k hc => ?_⟩
        · obtain ⟨kd, c2, n2, h1, -, h2⟩ := hr
          rw [hy] at h1
          cases h1
          have hft : ft c' k0 ≠ 0 := by
            rcases h2 with h2 | h2 | h2
            · exact h2.2
            · cases h2
            · cases h2
          have hx := hI.2.1 x List.mem_cons_self
          unfold e_wr at hz
          split at hz
          · rename_i h0
            exact absurd h0 hft
          · cases hz
            exact Or.inl rfl
          · rename_i j2 h1
            cases hd : decide (0 ≤ j2) with
            | false => rw [hd] at hz; cases hz
            | true =>
              rw [hd] at hz
              cases hz
              exact Or.inr (hx rfl)
          · cases hz
        · exact e_up_ne _ _ (Or.inl (fun q => hc (by rw [q]; exact hj)))
    · cases ht
  · cases ht⟩
theorem nx_ald {b : Bool} {nx : Nat} : e_NI lay (ei_ald lay b nx) ∧ e_IN ft lay (ei_ald lay b nx) := ⟨ni_ald, fun _ B _ t t' ht hI => by
  obtain ⟨p, l, st, w⟩ := t
  unfold ei_ald at ht
  simp only at ht
  split at ht
  · rename_i i j r
    split at ht
    · rename_i kd c' n hy
      cases hb : (x_akd b kd && (decide (0 ≤ i) && (decide (i < n) && e_okz (w j i)))) with
      | false => rw [hb] at ht; cases ht
      | true =>
        rw [hb] at ht
        cases ht
        refine hI.same (fun v hv => ?_)
        rcases List.mem_cons.mp hv with rfl | hv
        · exact Or.inr (Or.inl (show (0 : Nat) ≠ 1 by decide))
        · exact Or.inl (List.mem_cons_of_mem _ (List.mem_cons_of_mem _ hv))
    · cases ht
  · cases ht⟩
theorem nx_aald {nx : Nat} : e_NI lay (ei_aald lay nx) ∧ e_IN ft lay (ei_aald lay nx) := ⟨ni_aald, fun hl B _ t t' ht hI => by
  obtain ⟨p, l, st, w⟩ := t
  unfold ei_aald at ht
  simp only at ht
  split at ht
  · rename_i i j r
    split at ht
    · rename_i kd c' n hy
      cases hb : ((Nat.beq kd 5 || Nat.beq kd 6) && (decide (0 ≤ i) && (decide (i < n) && e_okz (w j i)))) with
      | false => rw [hb] at ht; cases ht
      | true =>
        rw [hb] at ht
        cases ht
        simp only [Bool.and_eq_true, Bool.or_eq_true] at hb
        refine ⟨⟨hI.1, fun v hv => ?_, hI.2.2⟩, fun _ _ _ => rfl⟩
        rcases List.mem_cons.mp hv with rfl | hv
        · exact e_rd_B (fun _ => hI.2.2.1 j i (e_vB.cell hl (hI.2.1 _ (List.mem_cons_of_mem _ List.mem_cons_self)) hy) ⟨kd, c', n, hy, ⟨of_decide_eq_true hb.2.1, of_decide_eq_true hb.2.2.1⟩, Or.inr (hb.1.imp Nat.eq_of_beq_eq_true Nat.eq_of_beq_eq_true)⟩)
        · exact hI.2.1 v (List.mem_cons_of_mem _ (List.mem_cons_of_mem _ hv))
    · cases ht
  · cases ht⟩
theorem x_akd_no {b : Bool} {kd : Nat} (h : x_akd b kd = true) : kd ≠ 0 ∧ kd ≠ 5 ∧ kd ≠ 6 := by
  refine ⟨fun e => ?_, fun e => ?_, fun e => ?_⟩ <;> (subst e; cases b <;> cases h)
theorem nx_ast {b : Bool} {nx : Nat} : e_NI lay (ei_ast lay b nx) ∧ e_IN ft lay (ei_ast lay b nx) := ⟨ni_ast, fun hl B _ t t' ht hI => by
  obtain ⟨p, l, st, w⟩ := t
  unfold ei_ast at ht
  simp only at ht
  split at ht
  · rename_i x i j r
    split at ht
    · rename_i kd c' n hy
      split at ht
      · rename_i z hz
        cases hb : (x_akd b kd && (decide (0 ≤ i) && decide (i < n))) with
        | false => rw [hb] at ht; cases ht
        | true =>
          rw [hb] at ht
          cases ht
          simp only [Bool.and_eq_true] at hb
          have hk := x_akd_no hb.1
          have hj : B j := e_vB.cell hl (hI.2.1 _ (List.mem_cons_of_mem _ (List.mem_cons_of_mem _ List.mem_cons_self))) hy
          refine ⟨⟨hI.1, fun v hv => hI.2.1 v (List.mem_cons_of_mem _ (List.mem_cons_of_mem _ (List.mem_cons_of_mem _ hv))), hI.2.2.up (fun hr => ?_) (fun c2 n2 h1 => ?_)⟩, fun c k hc => ?_⟩
          · obtain ⟨kd2, c2, n2, h1, -, h2⟩ := hr
            rw [hy] at h1
            cases h1
            rcases h2 with h2 | h2 | h2
            · exact absurd h2.1 hk.1
            · exact absurd h2 hk.2.1
            · exact absurd h2 hk.2.2
          · rw [hy] at h1
            cases h1
            cases hz
            have q1 := Int.le_bmod (x := x) (m := 256) (by decide)
            have q2 := Int.bmod_lt (x := x) (m := 256) (by decide)
            omega
          · exact e_up_ne _ _ (Or.inl (fun q => hc (by rw [q]; exact hj)))
      · cases ht
    · cases ht
  · cases ht⟩
end E31c
end
