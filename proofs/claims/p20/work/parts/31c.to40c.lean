-- part 31c
section
noncomputable section
/-! an instruction stays on its side: references lead on into the same set of cells, no other cell is written -/
def e_BB (B : Int → Prop) : Prop := (∀ c, B c ↔ (0 ≤ c ∧ c ≤ 274)) ∨ (∀ c, B c ↔ (275 ≤ c ∧ c ≤ 356))
def e_vB (B : Int → Prop) (x : eV) : Prop := x.1 = 1 → B x.2 ∨ (357 ≤ x.2 ∧ x.2 ≤ 400)
/-- a slot that holds a reference -/
def e_rfs (ft : Nat → Nat → Nat) (lay : List eY) (c k : Int) : Prop := ∃ kd ci n : Nat, lay[c.toNat]? = some (kd, ci, n) ∧ (0 ≤ k ∧ k < n) ∧ ((kd = 0 ∧ ft ci k.toNat ≠ 0) ∨ kd = 5 ∨ kd = 6)
def e_wB (ft : Nat → Nat → Nat) (lay : List eY) (B : Int → Prop) (w : eW) : Prop := (∀ c k, B c → e_rfs ft lay c k → w c k = -1 ∨ B (w c k) ∨ (357 ≤ w c k ∧ w c k ≤ 400)) ∧ ∀ (c k : Int) (ci n : Nat), B c → lay[c.toNat]? = some (2, ci, n) → 0 ≤ k → k < n → -128 ≤ w c k ∧ w c k ≤ 127
def e_tB (ft : Nat → Nat → Nat) (lay : List eY) (B : Int → Prop) (t : eS) : Prop := (∀ q ∈ t.2.1, e_vB B q.2) ∧ (∀ x ∈ t.2.2.1, e_vB B x) ∧ e_wB ft lay B t.2.2.2
def e_IN (ft : Nat → Nat → Nat) (lay : List eY) (f : eS → Option eS) : Prop := lay.length ≤ 357 → ∀ B, e_BB B → ∀ t t' : eS, f t = some t' → e_tB ft lay B t → e_tB ft lay B t' ∧ ∀ c k, ¬ B c → t'.2.2.2 c k = t.2.2.2 c k
section E31c
variable {ft : Nat → Nat → Nat} {lay : List eY}
theorem e_tB.same {B : Int → Prop} {p p' : Nat} {l : eL} {st st' : List eV} {w : eW} (hI : e_tB ft lay B (p, l, st, w)) (h : ∀ x ∈ st', x ∈ st ∨ x.1 ≠ 1 ∨ (357 ≤ x.2 ∧ x.2 ≤ 400)) : e_tB ft lay B (p', l, st', w) ∧ ∀ c k, ¬ B c → w c k = w c k := by
  refine ⟨⟨hI.1, fun x hx => ?_, hI.2.2⟩, fun _ _ _ => rfl⟩
  rcases h x hx with h1 | h1 | h1
  · exact hI.2.1 x h1
  · exact fun e => absurd e h1
  · exact fun _ => Or.inr h1
theorem e_IN.stk {f : eS → Option eS} (g : List eV → Option (Nat × List eV)) (h : ∀ t : eS, f t = (g t.2.2.1).map (fun q => (q.1, t.2.1, q.2, t.2.2.2))) (hg : ∀ st q, g st = some q → ∀ x ∈ q.2, x ∈ st ∨ x.1 ≠ 1 ∨ (357 ≤ x.2 ∧ x.2 ≤ 400)) : e_IN ft lay f := fun _ B _ t t' ht hI => by
  rw [h] at ht
  simp only [Option.map_eq_some_iff] at ht
  obtain ⟨q, hq, rfl⟩ := ht
  exact hI.same (hg _ _ hq)
theorem nx_push {x : eV} {nx : Nat} (hx : Nat.beq x.1 1 = false ∨ (357 ≤ x.2 ∧ x.2 ≤ 400)) : e_NI lay (ei_push x nx) ∧ e_IN ft lay (ei_push x nx) := ⟨ni_push, e_IN.stk (fun st => some (nx, x :: st)) (fun _ => rfl) (fun st q hq y hy => by
  cases hq
  rcases List.mem_cons.mp hy with rfl | hy
  · refine Or.inr (hx.imp (fun h e => ?_) id)
    rw [e] at h
    cases h
  · exact Or.inl hy)⟩
theorem nx_goto {nx : Nat} : e_NI lay (ei_goto nx) ∧ e_IN ft lay (ei_goto nx) := ⟨ni_goto, e_IN.stk (fun st => some (nx, st)) (fun _ => rfl) (fun st q hq y hy => by cases hq; exact Or.inl hy)⟩
theorem nx_bin {F : Int → Int → Option Int} {nx : Nat} : e_NI lay (ei_bin F nx) ∧ e_IN ft lay (ei_bin F nx) := ⟨ni_bin, fun _ B _ t t' ht hI => by
  obtain ⟨p, l, st, w⟩ := t
  unfold ei_bin at ht
  simp only at ht
  split at ht
  · rename_i y x r
    split at ht
    · rename_i z hz
      cases ht
      refine hI.same (fun v hv => ?_)
      rcases List.mem_cons.mp hv with rfl | hv
      · exact Or.inr (Or.inl (show (0 : Nat) ≠ 1 by decide))
      · exact Or.inl (List.mem_cons_of_mem _ (List.mem_cons_of_mem _ (hv)))
    · cases ht
  · cases ht⟩
theorem nx_binL {F : Int → Int → Option eV} {nx : Nat} (hF : ∀ x y z, F x y = some z → z.1 ≠ 1) : e_NI lay (ei_binL F nx) ∧ e_IN ft lay (ei_binL F nx) := ⟨ni_binL, fun _ B _ t t' ht hI => by
  obtain ⟨p, l, st, w⟩ := t
  unfold ei_binL at ht
  simp only at ht
  split at ht
  · rename_i y x r
    split at ht
    · rename_i z hz
      cases ht
      refine hI.same (fun v hv => ?_)
      rcases List.mem_cons.mp hv with rfl | hv
      · exact Or.inr (Or.inl (hF _ _ _ hz))
      · exact Or.inl (List.mem_cons_of_mem _ (List.mem_cons_of_mem _ (hv)))
    · cases ht
  · cases ht⟩
theorem nx_shL {F : Int → Int → Option Int} {nx : Nat} : e_NI lay (ei_shL F nx) ∧ e_IN ft lay (ei_shL F nx) := ⟨ni_shL, fun _ B _ t t' ht hI => by
  obtain ⟨p, l, st, w⟩ := t
  unfold ei_shL at ht
  simp only at ht
  split at ht
  · rename_i y x r
    split at ht
    · rename_i z hz
      cases ht
      refine hI.same (fun v hv => ?_)
      rcases List.mem_cons.mp hv with rfl | hv
      · exact Or.inr (Or.inl (show (4 : Nat) ≠ 1 by decide))
      · exact Or.inl (List.mem_cons_of_mem _ (List.mem_cons_of_mem _ (hv)))
    · cases ht
  · cases ht⟩
theorem nx_un {F : Int → eV} {nx : Nat} (hF : ∀ x, Nat.beq (F x).1 1 = false) : e_NI lay (ei_un F nx) ∧ e_IN ft lay (ei_un F nx) := ⟨ni_un, fun _ B _ t t' ht hI => by
  obtain ⟨p, l, st, w⟩ := t
  unfold ei_un at ht
  simp only at ht
  split at ht
  · rename_i x r
    cases ht
    refine hI.same (fun v hv => ?_)
    rcases List.mem_cons.mp hv with rfl | hv
    · exact Or.inr (Or.inl (fun e => by have := hF x; rw [e] at this; cases this))
    · exact Or.inl (List.mem_cons_of_mem _ (hv))
  · cases ht⟩
theorem nx_unL {F : Int → eV} {nx : Nat} (hF : ∀ x, Nat.beq (F x).1 1 = false) : e_NI lay (ei_unL F nx) ∧ e_IN ft lay (ei_unL F nx) := ⟨ni_unL, fun _ B _ t t' ht hI => by
  obtain ⟨p, l, st, w⟩ := t
  unfold ei_unL at ht
  simp only at ht
  split at ht
  · rename_i x r
    cases ht
    refine hI.same (fun v hv => ?_)
    rcases List.mem_cons.mp hv with rfl | hv
    · exact Or.inr (Or.inl (fun e => by have := hF x; rw [e] at this; cases this))
    · exact Or.inl (List.mem_cons_of_mem _ (hv))
  · cases ht⟩
theorem nx_if2 {k tg nx : Nat} : e_NI lay (ei_if2 k tg nx) ∧ e_IN ft lay (ei_if2 k tg nx) := ⟨ni_if2, fun _ B _ t t' ht hI => by
  obtain ⟨p, l, st, w⟩ := t
  unfold ei_if2 at ht
  simp only at ht
  split at ht
  · rename_i y x r
    cases ht
    exact hI.same (fun v hv => Or.inl (List.mem_cons_of_mem _ (List.mem_cons_of_mem _ (hv))))
  · cases ht⟩
theorem nx_if1 {k tg nx : Nat} : e_NI lay (ei_if1 k tg nx) ∧ e_IN ft lay (ei_if1 k tg nx) := ⟨ni_if1, fun _ B _ t t' ht hI => by
  obtain ⟨p, l, st, w⟩ := t
  unfold ei_if1 at ht
  simp only at ht
  split at ht
  · rename_i x r
    cases ht
    exact hI.same (fun v hv => Or.inl (List.mem_cons_of_mem _ (hv)))
  · cases ht⟩
theorem nx_sw {l0 : List (Int × Int × Nat)} : e_NI lay (ei_sw l0) ∧ e_IN ft lay (ei_sw l0) := ⟨ni_sw, fun _ B _ t t' ht hI => by
  obtain ⟨p, l, st, w⟩ := t
  unfold ei_sw at ht
  simp only at ht
  split at ht
  · rename_i x r
    split at ht
    · rename_i tg htg
      cases ht
      exact hI.same (fun v hv => Or.inl (List.mem_cons_of_mem _ (hv)))
    · cases ht
  · cases ht⟩
theorem nx_stk {g : List eV → Option (List eV)} {nx : Nat} (hg : ∀ st s, g st = some s → ∀ x ∈ s, x ∈ st) : e_NI lay (ei_stk g nx) ∧ e_IN ft lay (ei_stk g nx) := ⟨ni_stk, fun _ B _ t t' ht hI => by
  obtain ⟨p, l, st, w⟩ := t
  unfold ei_stk at ht
  simp only at ht
  split at ht
  · rename_i s hs
    cases ht
    exact hI.same (fun v hv => Or.inl (hg _ _ hs v hv))
  · cases ht⟩
theorem nx_alen {nx : Nat} : e_NI lay (ei_alen lay nx) ∧ e_IN ft lay (ei_alen lay nx) := ⟨ni_alen, fun _ B _ t t' ht hI => by
  obtain ⟨p, l, st, w⟩ := t
  unfold ei_alen at ht
  simp only at ht
  split at ht
  · rename_i j r
    split at ht
    · rename_i kd c0 n hy
      cases hb : Nat.beq kd 0 with
      | true => rw [hb] at ht; cases ht
      | false =>
        rw [hb] at ht
        cases ht
        refine hI.same (fun v hv => ?_)
        rcases List.mem_cons.mp hv with rfl | hv
        · exact Or.inr (Or.inl (show (0 : Nat) ≠ 1 by decide))
        · exact Or.inl (List.mem_cons_of_mem _ (hv))
    · cases ht
  · cases ht⟩
theorem nx_load {i ty nx : Nat} : e_NI lay (ei_load i ty nx) ∧ e_IN ft lay (ei_load i ty nx) := ⟨ni_load, fun _ B _ t t' ht hI => by
  obtain ⟨p, l, st, w⟩ := t
  unfold ei_load at ht
  simp only at ht
  split at ht
  · rename_i x hx
    cases hb : Nat.beq (e_ty x) ty with
    | false => rw [hb] at ht; cases ht
    | true =>
      rw [hb] at ht
      cases ht
      refine ⟨⟨hI.1, fun v hv => ?_, hI.2.2⟩, fun _ _ _ => rfl⟩
      rcases List.mem_cons.mp hv with rfl | hv
      · exact hI.1 _ (e_find_mem hx)
      · exact hI.2.1 v hv
  · cases ht⟩
theorem nx_stor {i ty nx : Nat} : e_NI lay (ei_stor i ty nx) ∧ e_IN ft lay (ei_stor i ty nx) := ⟨ni_stor, fun _ B _ t t' ht hI => by
  obtain ⟨p, l, st, w⟩ := t
  unfold ei_stor at ht
  simp only at ht
  split at ht
  · rename_i x r
    cases hb : Nat.beq (e_ty x) ty with
    | false => rw [hb] at ht; cases ht
    | true =>
      rw [hb] at ht
      cases ht
      refine ⟨⟨fun v hv => ?_, fun v hv => hI.2.1 v (List.mem_cons_of_mem _ hv), hI.2.2⟩, fun _ _ _ => rfl⟩
      rcases List.mem_cons.mp hv with rfl | hv
      · exact hI.2.1 x List.mem_cons_self
      · exact hI.1 v (List.mem_filter.mp hv).1
  · cases ht⟩
theorem nx_inc {i nx : Nat} {n : Int} : e_NI lay (ei_inc i n nx) ∧ e_IN ft lay (ei_inc i n nx) := ⟨ni_inc, fun _ B _ t t' ht hI => by
  obtain ⟨p, l, st, w⟩ := t
  unfold ei_inc at ht
  simp only at ht
  split at ht
  · rename_i x hx
    cases ht
    refine ⟨⟨fun v hv => ?_, hI.2.1, hI.2.2⟩, fun _ _ _ => rfl⟩
    rcases List.mem_cons.mp hv with rfl | hv
    · exact fun e => absurd e (show (0 : Nat) ≠ 1 by decide)
    · exact hI.1 v (List.mem_filter.mp hv).1
  · cases ht⟩
/-- a cell that is looked up lies on the side -/
theorem e_vB.cell {B : Int → Prop} {j : Int} {y : eY} (hl : lay.length ≤ 357) (h : e_vB B (1, j)) (hy : lay[j.toNat]? = some y) : B j := by
  rcases h rfl with h | h
  · exact h
  · have h1 : (357 : Int) ≤ j := h.1
    have := (List.getElem?_eq_some_iff.mp hy).1
    omega
theorem e_rd_B {B : Int → Prop} {fk : Nat} {z : Int} (h : fk ≠ 0 → z = -1 ∨ B z ∨ (357 ≤ z ∧ z ≤ 400)) : e_vB B (e_rd fk z) := by
  intro e
  unfold e_rd at e ⊢
  split at e
  · exact absurd e (show (0 : Nat) ≠ 1 by decide)
  · rename_i n0
    by_cases hz : z = -1
    · rw [decide_eq_true hz] at e
      exact absurd e (show (2 : Nat) ≠ 1 by decide)
    · rw [decide_eq_false hz]
      rcases h (fun q => n0 q) with h | h
      · exact absurd h hz
      · exact h
theorem nx_getf {ci k0 nx : Nat} : e_NI lay (ei_getf ft lay ci k0 nx) ∧ e_IN ft lay (ei_getf ft lay ci k0 nx) := ⟨ni_getf, fun hl B _ t t' ht hI => by
  obtain ⟨p, l, st, w⟩ := t
  unfold ei_getf at ht
  simp only at ht
  split at ht
  · rename_i j r
    split at ht
    · rename_i c' n hy
      cases hb : (Nat.beq c' ci && (Nat.ble (k0 + 1) n && e_okz (w j k0))) with
      | false => rw [hb] at ht; cases ht
      | true =>
        rw [hb] at ht
        cases ht
        simp only [Bool.and_eq_true] at hb
        have e := Nat.eq_of_beq_eq_true hb.1
        subst e
        refine ⟨⟨hI.1, fun v hv => ?_, hI.2.2⟩, fun _ _ _ => rfl⟩
        rcases List.mem_cons.mp hv with rfl | hv
        · exact e_rd_B (fun q => hI.2.2.1 j k0 (e_vB.cell hl (hI.2.1 _ List.mem_cons_self) hy) ⟨0, c', n, hy, ⟨by omega, by have := Nat.ble_eq.mp hb.2.1; omega⟩, Or.inl ⟨rfl, q⟩⟩)
        · exact hI.2.1 v (List.mem_cons_of_mem _ hv)
    · cases ht
  · cases ht⟩
theorem e_wB.up {B : Int → Prop} {w : eW} {j k z : Int} (h : e_wB ft lay B w) (hz : e_rfs ft lay j k → z = -1 ∨ B z ∨ (357 ≤ z ∧ z ≤ 400)) (hb : ∀ ci n : Nat, lay[j.toNat]? = some (2, ci, n) → -128 ≤ z ∧ z ≤ 127) : e_wB ft lay B (e_up w j k z) := by
  have key : ∀ c i : Int, (c = j ∧ i = k) ∨ e_up w j k z c i = w c i := fun c i => by
    by_cases e : c = j ∧ i = k
    · exact Or.inl e
    · have n : c ≠ j ∨ i ≠ k := by
        by_cases e1 : c = j
        · exact Or.inr (fun e2 => e ⟨e1, e2⟩)
        · exact Or.inl e1
      exact Or.inr (e_up_ne _ _ n)
  refine ⟨fun c i hc hr => ?_, fun c i ci n hc hy h0 h1 => ?_⟩
  · rcases key c i with ⟨rfl, rfl⟩ | e
    · rw [e_up_eq]
      exact hz hr
    · rw [e]
      exact h.1 c i hc hr
  · rcases key c i with ⟨rfl, rfl⟩ | e
    · rw [e_up_eq]
      exact hb ci n hy
    · rw [e]
      exact h.2 c i ci n hc hy h0 h1
theorem nx_putf {ci k0 fk nx : Nat} : e_NI lay (ei_putf ft lay ci k0 fk nx) ∧ e_IN ft lay (ei_putf ft lay ci k0 fk nx) := ⟨ni_putf, fun hl B _ t t' ht hI => by
  obtain ⟨p, l, st, w⟩ := t
  unfold ei_putf at ht
  simp only at ht
  split at ht
  · rename_i x j r
    split at ht
    · rename_i c' n z hy hz
      cases hb : (Nat.beq c' ci && (Nat.ble (k0 + 1) n && e_pk fk x)) with
      | false => rw [hb] at ht; cases ht
      | true =>
        rw [hb] at ht
        cases ht
        simp only [Bool.and_eq_true] at hb
        have e := Nat.eq_of_beq_eq_true hb.1
        subst e
        have hj : B j := e_vB.cell hl (hI.2.1 _ (List.mem_cons_of_mem _ List.mem_cons_self)) hy
        refine ⟨⟨hI.1, fun v hv => hI.2.1 v (List.mem_cons_of_mem _ (List.mem_cons_of_mem _ hv)), hI.2.2.up (fun hr => ?_) (fun c2 n2 h1 => by rw [hy] at h1; cases h1)⟩, fun c k hc => ?_⟩
        · obtain ⟨kd, c2, n2, h1, -, h2⟩ := hr
          rw [hy] at h1
          cases h1
          have hft : ft c' k0 ≠ 0 := by
            rcases h2 with h2 | h2 | h2
            · exact h2.2
            · cases h2
            · cases h2
          have hx := hI.2.1 x List.mem_cons_self
          unfold e_wr at hz
          split at hz
          · rename_i h0
            exact absurd h0 hft
          · cases hz
            exact Or.inl rfl
          · rename_i j2 h1
            cases hd : decide (0 ≤ j2) with
            | false => rw [hd] at hz; cases hz
            | true =>
              rw [hd] at hz
              cases hz
              exact Or.inr (hx rfl)
          · cases hz
        · exact e_up_ne _ _ (Or.inl (fun q => hc (by rw [q]; exact hj)))
    · cases ht
  · cases ht⟩
theorem nx_ald {b : Bool} {nx : Nat} : e_NI lay (ei_ald lay b nx) ∧ e_IN ft lay (ei_ald lay b nx) := ⟨ni_ald, fun _ B _ t t' ht hI => by
  obtain ⟨p, l, st, w⟩ := t
  unfold ei_ald at ht
  simp only at ht
  split at ht
  · rename_i i j r
    split at ht
    · rename_i kd c' n hy
      cases hb : (x_akd b kd && (decide (0 ≤ i) && (decide (i < n) && e_okz (w j i)))) with
      | false => rw [hb] at ht; cases ht
      | true =>
        rw [hb] at ht
        cases ht
        refine hI.same (fun v hv => ?_)
        rcases List.mem_cons.mp hv with rfl | hv
        · exact Or.inr (Or.inl (show (0 : Nat) ≠ 1 by decide))
        · exact Or.inl (List.mem_cons_of_mem _ (List.mem_cons_of_mem _ hv))
    · cases ht
  · cases ht⟩
theorem nx_aald {nx : Nat} : e_NI lay (ei_aald lay nx) ∧ e_IN ft lay (ei_aald lay nx) := ⟨ni_aald, fun hl B _ t t' ht hI => by
  obtain ⟨p, l, st, w⟩ := t
  unfold ei_aald at ht
  simp only at ht
  split at ht
  · rename_i i j r
    split at ht
    · rename_i kd c' n hy
      cases hb : ((Nat.beq kd 5 || Nat.beq kd 6) && (decide (0 ≤ i) && (decide (i < n) && e_okz (w j i)))) with
      | false => rw [hb] at ht; cases ht
      | true =>
        rw [hb] at ht
        cases ht
        simp only [Bool.and_eq_true, Bool.or_eq_true] at hb
        refine ⟨⟨hI.1, fun v hv => ?_, hI.2.2⟩, fun _ _ _ => rfl⟩
        rcases List.mem_cons.mp hv with rfl | hv
        · exact e_rd_B (fun _ => hI.2.2.1 j i (e_vB.cell hl (hI.2.1 _ (List.mem_cons_of_mem _ List.mem_cons_self)) hy) ⟨kd, c', n, hy, ⟨of_decide_eq_true hb.2.1, of_decide_eq_true hb.2.2.1⟩, Or.inr (hb.1.imp Nat.eq_of_beq_eq_true Nat.eq_of_beq_eq_true)⟩)
        · exact hI.2.1 v (List.mem_cons_of_mem _ (List.mem_cons_of_mem _ hv))
    · cases ht
  · cases ht⟩
theorem x_akd_no {b : Bool} {kd : Nat} (h : x_akd b kd = true) : kd ≠ 0 ∧ kd ≠ 5 ∧ kd ≠ 6 := by
  refine ⟨fun e => ?_, fun e => ?_, fun e => ?_⟩ <;> (subst e; cases b <;> cases h)
theorem nx_ast {b : Bool} {nx : Nat} : e_NI lay (ei_ast lay b nx) ∧ e_IN ft lay (ei_ast lay b nx) := ⟨ni_ast, fun hl B _ t t' ht hI => by
  obtain ⟨p, l, st, w⟩ := t
  unfold ei_ast at ht
  simp only at ht
  split at ht
  · rename_i x i j r
    split at ht
    · rename_i kd c' n hy
      split at ht
      · rename_i z hz
        cases hb : (x_akd b kd && (decide (0 ≤ i) && decide (i < n))) with
        | false => rw [hb] at ht; cases ht
        | true =>
          rw [hb] at ht
          cases ht
          simp only [Bool.and_eq_true] at hb
          have hk := x_akd_no hb.1
          have hj : B j := e_vB.cell hl (hI.2.1 _ (List.mem_cons_of_mem _ (List.mem_cons_of_mem _ List.mem_cons_self))) hy
          refine ⟨⟨hI.1, fun v hv => hI.2.1 v (List.mem_cons_of_mem _ (List.mem_cons_of_mem _ (List.mem_cons_of_mem _ hv))), hI.2.2.up (fun hr => ?_) (fun c2 n2 h1 => ?_)⟩, fun c k hc => ?_⟩
          · obtain ⟨kd2, c2, n2, h1, -, h2⟩ := hr
            rw [hy] at h1
            cases h1
            rcases h2 with h2 | h2 | h2
            · exact absurd h2.1 hk.1
            · exact absurd h2 hk.2.1
            · exact absurd h2 hk.2.2
          · rw [hy] at h1
            cases h1
            cases hz
            have q1 := Int.le_bmod (x := x) (m := 256) (by decide)
            have q2 := Int.bmod_lt (x := x) (m := 256) (by decide)
            omega
          · exact e_up_ne _ _ (Or.inl (fun q => hc (by rw [q]; exact hj)))
      · cases ht
    · cases ht
  · cases ht⟩
end E31c
end
end
-- part 32
section
noncomputable section
/-! exact: methods and calls; what it says of a method is a contract -/
abbrev eE : Type := Nat × (eS → Option eS) × Nat × Nat
def e_ent : Nat → List eV → eL
  | _, [] => []
  | i, x :: r => (i, x) :: e_ent (bif Nat.beq (e_ty x) 1 then i + 2 else i + 1) r
def e_cats : List eV → Nat
  | [] => 0
  | x :: r => (bif Nat.beq (e_ty x) 1 then 2 else 1) + e_cats r
/-- a small number: the same as a byte, a char -/
def e_pc (x : eV) : Bool := Nat.beq x.1 0 && (decide (0 ≤ x.2) && decide (x.2 ≤ 127))
theorem e_nr5 {z : Int32} (h0 : 0 ≤ z.toInt) (h1 : z.toInt ≤ 127) : narrow .byte (.int z) = .int z ∧ narrow .char (.int z) = .int z := by
  have key : ∀ n : Nat, n < 128 → narrow .byte (.int (Int32.ofInt (n : Int))) = .int (Int32.ofInt (n : Int)) ∧ narrow .char (.int (Int32.ofInt (n : Int))) = .int (Int32.ofInt (n : Int)) := by decide +kernel
  have e : Int32.ofInt ((z.toInt.toNat : Nat) : Int) = z := by rw [Int.toNat_of_nonneg h0, Int32.ofInt_toInt]
  have k := key z.toInt.toNat (by omega)
  rw [e] at k
  exact k
theorem e_pc_ok {ad : List Nat} {x : eV} {v : Value} (hr : e_rel ad x v) (h : e_pc x = true) : ∃ z : Int32, v = .int z ∧ narrow .byte (.int z) = .int z ∧ narrow .char (.int z) = .int z := by
  unfold e_pc at h
  simp only [Bool.and_eq_true, decide_eq_true_eq] at h
  obtain ⟨t, a⟩ := x
  obtain ⟨q1, q2, q3⟩ := h
  have e := Nat.eq_of_beq_eq_true q1
  simp only at e q2 q3
  subst e
  obtain ⟨z, rfl, hz⟩ := e_int hr
  subst hz
  exact ⟨z, rfl, e_nr5 q2 q3⟩
def e_retv (k : Nat) (st : List eV) : Option (List eV) := match k, st with
  | 0, [] => some []
  | 1, [x] => bif Nat.beq (e_ty x) 0 then some [x] else none
  | 2, [x] => bif Nat.beq (e_ty x) 1 then some [x] else none
  | 3, [x] => bif Nat.beq (e_ty x) 2 then some [x] else none
  | 4, [x] => bif e_pk 1 x then some [x] else none
  | 5, [x] => bif e_pc x then some [x] else none
  | _, _ => none
def e_rcv (lay : List eY) (o : Nat) (as : List eV) : Bool := bif Nat.beq o 999 then true else match as with
  | (1, j) :: _ => match lay[j.toNat]? with
    | some (0, c, _) => Nat.beq c o
    | none => Nat.beq o 998 && (decide (j = 357) || decide (j = 358))
    | _ => false
  | _ => false
def e_may (fd : Nat) (lay : List eY) (d M' na : Nat) (q' : xM) (st as rest : List eV) : Bool :=
  Nat.ble fd d && (Nat.ble 1 M' && (Nat.ble na st.length && (Nat.ble (e_cats rest) 8 && (Nat.ble (e_cats as) (xm_l q') && (Nat.beq (xm_c q') 0 && (Nat.beq (xm_s q') 0 && e_rcv lay (xm_o q') as))))))
def e_go (fd : Nat) (lay : List eY) (code : Nat → Nat → eE) (I : Nat → xM) : Nat → Nat → Nat → eS → Option (List eV × eW)
  | 0, _, _, _ => none
  | n + 1, d, M, t => match code M t.1 with
    | (0, f, _, _) => match f t with
      | some t' => e_go fd lay code I n d M t'
      | none => none
    | (1, _, k, _) => match e_retv k t.2.2.1 with
      | some r => some (r, t.2.2.2)
      | none => none
    | (2, _, M', na) => match d with
      | 0 => none
      | d' + 1 => bif e_may fd lay d' M' na (I M') t.2.2.1 (t.2.2.1.take na).reverse (t.2.2.1.drop na) then
          match e_go fd lay code I n d' M' (0, e_ent 0 (t.2.2.1.take na).reverse, [], t.2.2.2) with
          | some rw => e_go fd lay code I n (d' + 1) M (t.1 + 3, t.2.1, rw.1 ++ t.2.2.1.drop na, rw.2)
          | none => none
          else none
    | _ => none
/-- a place of a method's table may be trusted -/
def e_EOq (ft : Nat → Nat → Nat) (cl : List vw_C) (lay : List eY) (I : Nat → xM) (q : xM) (pc : Nat) (en : eE) : Prop := match en with
  | (0, f, _, _) => e_Snd ft cl lay (xm_b q) (xm_y q).cls (xm_l q) (xm_y q).name (xm_c q) (xm_s q) pc f ∧ (e_NI lay f ∧ e_IN ft lay f)
  | (1, _, k, _) => x_Rt (xm_b q) (xm_r q) pc k
  | (2, _, M', na) => x_Cl (xm_b q) (xm_y q).cls (xm_l q) (xm_y q).name (xm_c q) (xm_s q) pc (I M') na
  | _ => True
def e_Tab (fd : Nat) (ft : Nat → Nat → Nat) (cl : List vw_C) (lay : List eY) (I : Nat → xM) (code : Nat → Nat → eE) : Prop :=
  1 ≤ fd ∧ (∀ M pc, e_EOq ft cl lay I (I M) pc (code M pc)) ∧ (∀ M, plainName (xm_y (I M)).cls = true) ∧ (∀ M, xm_o (I M) ≠ 999 → (xm_o (I M) = 998 ∧ (xm_y (I M)).cls = "java/lang/String" ∧ ∀ (k n : Nat), lay[k]? ≠ some (0, 998, n)) ∨ (xm_o (I M) ≠ 998 ∧ ∃ r, cl[xm_o (I M)]? = some r ∧ r.1 = (xm_y (I M)).cls))
def e_Q (ft : Nat → Nat → Nat) (cl : List vw_C) (lay : List eY) (ad : List Nat) (D : va_G) (ws0 : va_W) (sz : Nat) (r : List eV) (w : eW) : Array Value → State → Outcome → State → Prop := fun _ st oc t =>
  (∃ (v : Option Value) (ws : va_W) (tys : List (ClassId × FieldType)), oc = .returned v ∧ x_all2 (e_rel ad) r v.toList ∧ e_world ft cl lay ad tys w ws ∧ va_K D cl tys t ∧ va_P D cl ws t.heap ∧ va_D (va_A ws0 sz) ws) ∧ va_F (va_A ws0 sz) st t
def e_Met (ft : Nat → Nat → Nat) (cl : List vw_C) (lay : List eY) (I : Nat → xM) (l : Launch) (d M : Nat) (as : List eV) (w : eW) (r : List eV) (w' : eW) : Prop :=
  ∀ (ad : List Nat) (D : va_G) (ws : va_W) (tys : List (ClassId × FieldType)) (vs : List Value) (sz : Nat), x_all2 (e_rel ad) as vs → e_world ft cl lay ad tys w ws →
    Met l (xm_y (I M)) (x_ws (I M)) (x_rm d (I M)) (va_Pc vs (fun U => U.heap.size = sz ∧ va_P D cl ws U.heap ∧ va_K D cl tys U ∧ va_D (fun _ => True) ws ∧ x_Ex U ∧ e_Old ad (va_A ws sz) U U.heap)) (e_Q ft cl lay ad D ws sz r w') (xm_c (I M)) (xm_s (I M)) (va_A ws sz)
def e_Frm (fd : Nat) (ft : Nat → Nat → Nat) (cl : List vw_C) (lay : List eY) (I : Nat → xM) (code : Nat → Nat → eE) (l : Launch) (n : Nat) : Prop :=
  ∀ (d M : Nat) (t : eS) (r : List eV) (w' : eW), e_go fd lay code I n d M t = some (r, w') → ∀ {ad : List Nat} {ce sl : Nat} {p : Program} {e : Env} {R : Room} {s : State} {m : MethodId} {args : Array Value} {below : List Frame} {meth : Method} {c : Code} {D : va_G} {A : Nat → Prop} {H0 : Heap} {Q : State → Prop},
    x_Cx (xm_b (I M)) (xm_y (I M)).cls (xm_l (I M)) (xm_y (I M)).name (xm_c (I M)) (xm_s (I M)) p R s m args meth c → ce ≤ xm_c (I M) → sl ≤ xm_s (I M) → d ≤ R.frames → 64 * d ≤ R.locals → (∀ q : Nat, H0.size ≤ q → A q) →
    (∀ (t' : eS) (f : eS → Option eS) (k b : Nat), code M t'.1 = (1, f, k, b) → e_retv k t'.2.2.1 = some r → t'.2.2.2 = w' → e_Good ft cl lay ad ce sl (xm_l (I M)) p l e R s m args below meth c D A H0 Q t') → e_Good ft cl lay ad ce sl (xm_l (I M)) p l e R s m args below meth c D A H0 Q t
theorem e_ent_ok {ad : List Nat} : ∀ {as : List eV} {vs : List Value} (i : Nat), x_all2 (e_rel ad) as vs → x_all2 (fun a q => a.1 = q.1 ∧ e_rel ad a.2 q.2) (e_ent i as) (lv_args i vs)
  | [], [], _, _ => trivial
  | a :: as, v :: vs, i, h => by
    refine ⟨⟨rfl, h.1⟩, ?_⟩
    have e := x_kd_cat (e_ty_ok h.1)
    cases hb : Nat.beq (e_ty a) 1 with
    | true =>
      have := Nat.eq_of_beq_eq_true hb
      rw [this, if_pos rfl] at e
      rw [e, if_pos rfl]
      exact e_ent_ok (i + 2) h.2
    | false =>
      have h1 : ¬ e_ty a = 1 := fun q => by rw [q] at hb; cases hb
      rw [if_neg h1] at e
      rw [e, if_neg (by decide)]
      exact e_ent_ok (i + 1) h.2
  | [], _ :: _, _, h => h.elim
  | _ :: _, [], _, h => h.elim
theorem e_cats_ok {ad : List Nat} : ∀ {as : List eV} {vs : List Value}, x_all2 (e_rel ad) as vs → (vs.map fun v => v.category).sum = e_cats as ∧ (lg_sl vs).length = e_cats as
  | [], [], _ => ⟨rfl, rfl⟩
  | a :: as, v :: vs, h => by
    have e := x_kd_cat (e_ty_ok h.1)
    obtain ⟨h1, h2⟩ := e_cats_ok h.2
    cases hb : Nat.beq (e_ty a) 1 with
    | true =>
      have := Nat.eq_of_beq_eq_true hb
      rw [this, if_pos rfl] at e
      refine ⟨by simp only [List.map_cons, List.sum_cons, e, h1, e_cats, hb, cond_true], ?_⟩
      show (List.flatMap _ (v :: vs)).length = _
      rw [List.flatMap_cons, e, if_pos rfl, List.length_append]
      show 2 + (lg_sl vs).length = _
      rw [h2]
      simp only [e_cats, hb, cond_true]
    | false =>
      have h3 : ¬ e_ty a = 1 := fun q => by rw [q] at hb; cases hb
      rw [if_neg h3] at e
      refine ⟨by simp only [List.map_cons, List.sum_cons, e, h1, e_cats, hb, cond_false], ?_⟩
      show (List.flatMap _ (v :: vs)).length = _
      rw [List.flatMap_cons, e, if_neg (by decide), List.length_append]
      show 1 + (lg_sl vs).length = _
      rw [h2]
      simp only [e_cats, hb, cond_false]
  | [], _ :: _, h => h.elim
  | _ :: _, [], h => h.elim
section E32
variable {fd : Nat} {ft : Nat → Nat → Nat} {cl : List vw_C} {lay : List eY} {I : Nat → xM} {code : Nat → Nat → eE} {l : Launch}
theorem e_met_of (hT : e_Tab fd ft cl lay I code) {n : Nat} (hF : e_Frm fd ft cl lay I code l n) {d M : Nat} {as : List eV} {w : eW} {r : List eV} {w' : eW} (hd : fd ≤ d) (hl : e_cats as ≤ xm_l (I M)) (h : e_go fd lay code I n d M (0, e_ent 0 as, [], w) = some (r, w')) : e_Met ft cl lay I l d M as w r w' := by
  intro ad D ws tys vs sz has hw
  refine Met.ofW (cc := xm_b (I M)) (maxL := xm_l (I M)) (ret := xm_r (I M)) (hT.2.2.1 M) rfl ?_
  intro p e s m args below meth c s₁ B hml hv
  obtain ⟨rfl, hsz, hP, hK, hD0, hEx, hOld⟩ := hv
  have hx := B.exec
  have hb := B.bytes
  have hr := B.returns
  have hts := atoms_spec (ws := x_ws (I M)) B.pre
  have hown : s.vm.findClass (xm_y (I M)).cls = some m.cls := findClass_of_methodNamed B.named
  have hlocks := B.notSynchronized
  have hin : meth.name = (xm_y (I M)).name := (name_of_methodNamed B.named B.method).1
  subst hsz
  have hD := hD0.self (sz := s.heap.size)
  have hA : ∀ q : Nat, s.heap.size ≤ q → va_A ws s.heap.size q := fun q h => Or.inr h
  rw [lg_entry_eq]
  have hle : (lg_sl vs).length ≤ xm_l (I M) := by rw [(e_cats_ok has).2]; exact hl
  refine hF d M _ r w' h (ce := 0) (sl := 0) (D := D) (A := va_A ws s.heap.size) (H0 := s.heap) ⟨⟨hx, hb, hml, hown, fun w hw => hts w (List.mem_cons_of_mem _ hw)⟩, hin, rfl, rfl, by show 1 ≤ d; have := hT.1; omega, by show 32 ≤ 64 * d; have := hT.1; omega, hEx⟩ (Nat.zero_le _) (Nat.zero_le _) (Nat.le_refl d) (Nat.le_refl (64 * d)) hA ?_ _ [] s.heap [] ⟨lv_args 0 vs, ws, tys, lv_entry vs hle, e_ent_ok 0 has, trivial, hw, ⟨hK, hOld⟩, hP, hD, va_S.rf⟩
  intro t f k b hc hlf hw' ls' stk H locs hI
  obtain ⟨lv, ws', tys', h1, h2, h3, h4, h5, h6, h7, h8⟩ := hI
  have hE := hT.2.1 M t.1
  rw [hc] at hE
  replace hE : x_Rt (xm_b (I M)) (xm_r (I M)) t.1 k := hE
  refine W.widen (k := xm_c (I M)) (n := xm_s (I M)) (Nat.zero_le _) (Nat.zero_le _) ?_
  have fin : ∀ (v : Option Value) (T : State), x_all2 (e_rel ad) r v.toList → T.heap = H → s.WarmedH T.vm → e_Q ft cl lay ad D ws s.heap.size r w' vs.toArray s (.returned v) T := by
    intro v T hr hTh hW
    exact ⟨⟨v, ws', tys', rfl, hr, by rw [← hw']; exact h4, va_K.moved hW.alike h5.1, by rw [hTh]; exact h6, h7⟩, h8.F hTh⟩
  unfold e_retv at hlf
  split at hlf
  · rename_i hst
    cases hlf
    rw [hst] at h3
    match stk, h3 with
    | [], _ =>
      obtain ⟨g1, g2⟩ := hE
      exact W.vret hx hb (by rw [hr, g2]) (fun T hTh hW => fin none T trivial hTh hW) h8.2.2 g1
  · rename_i x hst
    cases hy : Nat.beq (e_ty x) 0 with
    | false => rw [hy] at hlf; cases hlf
    | true =>
      rw [hy] at hlf
      cases hlf
      rw [hst] at h3
      match stk, h3 with
      | [v], h3 =>
        obtain ⟨g1, g2⟩ := hE
        have hk := e_ty_ok h3.1
        rw [Nat.eq_of_beq_eq_true hy] at hk
        obtain ⟨z, rfl⟩ := hk
        exact W.iret hx hb (by rw [hr, g2]) (fun T hTh hW => fin (some (.int z)) T h3 hTh hW) h8.2.2 g1
  · rename_i x hst
    cases hy : Nat.beq (e_ty x) 1 with
    | false => rw [hy] at hlf; cases hlf
    | true =>
      rw [hy] at hlf
      cases hlf
      rw [hst] at h3
      match stk, h3 with
      | [v], h3 =>
        obtain ⟨g1, g2⟩ := hE
        have hk := e_ty_ok h3.1
        rw [Nat.eq_of_beq_eq_true hy] at hk
        obtain ⟨z, rfl⟩ := hk
        exact W.lret hx hb (by rw [hr, g2]) (fun T hTh hW => fin (some (.long z)) T h3 hTh hW) h8.2.2 g1
  · rename_i x hst
    cases hy : Nat.beq (e_ty x) 2 with
    | false => rw [hy] at hlf; cases hlf
    | true =>
      rw [hy] at hlf
      cases hlf
      rw [hst] at h3
      match stk, h3 with
      | [v], h3 =>
        obtain ⟨g1, rt, g2, g3⟩ := hE
        have hk := e_ty_ok h3.1
        rw [Nat.eq_of_beq_eq_true hy] at hk
        exact W.aret hx hb (by rw [hr, g2]) g3 hk (fun T hTh hW => fin (some v) T h3 hTh hW) h8.2.2 g1
  · rename_i x hst
    cases hy : e_pk 1 x with
    | false => rw [hy] at hlf; cases hlf
    | true =>
      rw [hy] at hlf
      cases hlf
      rw [hst] at h3
      match stk, h3 with
      | [v], h3 =>
        obtain ⟨g1, g2⟩ := hE
        have hk : v = .int 0 ∨ v = .int 1 := e_pk_ok h3.1 hy
        rcases hk with rfl | rfl
        · exact W.zret hx hb (by rw [hr, g2]) (by decide) (fun T hTh hW => fin (some (.int 0)) T h3 hTh hW) h8.2.2 g1
        · exact W.zret hx hb (by rw [hr, g2]) (by decide) (fun T hTh hW => fin (some (.int 1)) T h3 hTh hW) h8.2.2 g1
  · rename_i x hst
    cases hy : e_pc x with
    | false => rw [hy] at hlf; cases hlf
    | true =>
      rw [hy] at hlf
      cases hlf
      rw [hst] at h3
      match stk, h3 with
      | [v], h3 =>
        obtain ⟨g1, g2⟩ := hE
        obtain ⟨z, rfl, n1, n2⟩ := e_pc_ok h3.1 hy
        rcases g2 with g2 | g2
        · exact W.zret hx hb (by rw [hr, g2]) n1 (fun T hTh hW => fin (some (.int z)) T h3 hTh hW) h8.2.2 g1
        · exact W.zret hx hb (by rw [hr, g2]) n2 (fun T hTh hW => fin (some (.int z)) T h3 hTh hW) h8.2.2 g1
  · cases hlf
/-- the receiver of a text's method -/
theorem e_Old.recv {ad : List Nat} {A : Nat → Prop} {s : State} {H0 H : Heap} {locs : List Loc} (h : e_Old ad A s H0) (hS : va_S A H0 H locs) {j : Int} {v : Value} (hr : e_rel ad (1, j) v) (hj : j = 357 ∨ j = 358) : ∃ a, v = .ref a ∧ ∃ cellB : Cell, H[a]? = some cellB ∧ cellB.vm.isStatics = false ∧ s.vm.findClass "java/lang/String" = some cellB.cls := by
  obtain ⟨aK, aS, aN, bK, bS, h1, h2, h3, -⟩ := h
  obtain ⟨-, a, ha, rfl⟩ := hr
  rcases hj with rfl | rfl
  · have e : some aK = some a := h1.1.symm.trans ha
    cases e
    obtain ⟨cell, k1, k2, k3, -⟩ := (h3.1 0 (by decide)).1.kept hS.2.1
    exact ⟨_, rfl, cell, k1, k2, k3⟩
  · have e : some aS = some a := h1.2.1.symm.trans ha
    cases e
    obtain ⟨cell, k1, k2, k3, -⟩ := (h3.1 1 (by decide)).1.kept hS.2.1
    exact ⟨_, rfl, cell, k1, k2, k3⟩
/-- a call of a method of which it is known what it does -/
theorem e_call (hT : e_Tab fd ft cl lay I code) {d' M M' na : Nat} {t : eS} {r : List eV} {w' : eW} (hE : x_Cl (xm_b (I M)) (xm_y (I M)).cls (xm_l (I M)) (xm_y (I M)).name (xm_c (I M)) (xm_s (I M)) t.1 (I M') na) (hb : e_may fd lay d' M' na (I M') t.2.2.1 (t.2.2.1.take na).reverse (t.2.2.1.drop na) = true) (hMet : e_Met ft cl lay I l d' M' (t.2.2.1.take na).reverse t.2.2.2 r w')
    {ad : List Nat} {ce sl : Nat} {p : Program} {e : Env} {R : Room} {s : State} {m : MethodId} {args : Array Value} {below : List Frame} {meth : Method} {c : Code} {D : va_G} {A : Nat → Prop} {H0 : Heap} {Q : State → Prop} (C : x_Cx (xm_b (I M)) (xm_y (I M)).cls (xm_l (I M)) (xm_y (I M)).name (xm_c (I M)) (xm_s (I M)) p R s m args meth c) (hce : ce ≤ xm_c (I M)) (hsl : sl ≤ xm_s (I M)) (hd : d' + 1 ≤ R.frames) (hdl : 64 * (d' + 1) ≤ R.locals) (hA : ∀ q : Nat, H0.size ≤ q → A q)
    (hgo : e_Good ft cl lay ad ce sl (xm_l (I M)) p l e R s m args below meth c D A H0 Q (t.1 + 3, t.2.1, r ++ t.2.2.1.drop na, w')) : e_Good ft cl lay ad ce sl (xm_l (I M)) p l e R s m args below meth c D A H0 Q t := by
  obtain ⟨h64, hE⟩ := hE
  unfold e_may at hb
  simp only [Bool.and_eq_true] at hb
  obtain ⟨b1, b2, b3, b4, b5, b6, b7, b8⟩ := hb
  have b1 := Nat.le_of_ble_eq_true b1
  have b2 := Nat.le_of_ble_eq_true b2
  have b3 := Nat.le_of_ble_eq_true b3
  have b4 := Nat.le_of_ble_eq_true b4
  have b5 := Nat.le_of_ble_eq_true b5
  have b6 := Nat.eq_of_beq_eq_true b6
  have b7 := Nat.eq_of_beq_eq_true b7
  intro lsl stk H locs hI
  obtain ⟨lv, ws, tys, h1, h2, h3, h4, h5, h6, h7, h8⟩ := hI
  have hspl := x_split na h3
  have hargs := x_all2_rev hspl.1
  have hM := hMet ad D ws tys (stk.take na).reverse H.size hargs h4
  have hlen : stk.length = t.2.2.1.length := (x_all2_len h3).symm
  have hvA : ∀ q : Nat, va_A ws H.size q → A q := by
    intro q hq
    rcases hq with ⟨k, e9, hk⟩ | hq
    · exact h7.2 k _ hk
    · exact hA q (Nat.le_trans h8.1 hq)
  have hrun := hE (e := e) (below := below) C (H := H) (locs := locs) (cells := ce) (slots := sl) (ls := lsl) (rest := stk.drop na) hM
    (fun a U g mk q => by obtain ⟨q0, q1, qP, qK, qD, qE, qO⟩ := q; exact ⟨q0, q1, qP, va_K.moved (u := U) (U := U.calling g mk a) (Vm.Alike.refl U.vm) qK, qD, qE.same (U := U.calling g mk a) rfl, qO.same (U := U.calling g mk a) rfl⟩)
    (fun U hU hW => ⟨rfl, by rw [hU], by rw [hU]; exact h6, va_K.moved hW.alike h5.1, h7.weaken (fun _ _ _ _ => trivial), C.2.2.2.2.2.2.warm hW, by rw [hU]; exact ((h5.2.kept h8.2.1).narrow hvA).warm hW⟩)
    (by
      by_cases ho : xm_o (I M') = 999
      · exact Or.inl ho
      · refine Or.inr ?_
        unfold e_rcv at b8
        rw [x_nb ho] at b8
        simp only [cond_false] at b8
        split at b8
        · rename_i j as' has'
          split at b8
          · rename_i c9 r9 hcell
            have e9 := Nat.eq_of_beq_eq_true b8
            rw [has'] at hargs
            match hv : (stk.take na).reverse, hargs with
            | v :: As, hargs =>
              obtain ⟨a, ee, hq, rfl, hcc, -⟩ := e_ref h4 hargs.1 hcell
              obtain ⟨fs, rfl, -, -⟩ := hcc
              rcases hT.2.2.2 M' ho with ⟨h998, -, hno⟩ | ⟨-, r, hr1, hr2⟩
              · rw [e9, h998] at hcell
                exact absurd hcell (hno _ _)
              · rw [← e9] at hr1
                obtain ⟨cellB, k1, k2, k3⟩ := va_recv h5.1 h6 hr1 hq
                exact ⟨a, As, rfl, cellB, k1, k2, by rw [← hr2]; exact k3⟩
          · simp only [Bool.and_eq_true, Bool.or_eq_true, decide_eq_true_eq] at b8
            have e9 := Nat.eq_of_beq_eq_true b8.1
            rw [has'] at hargs
            match hv : (stk.take na).reverse, hargs with
            | v :: As, hargs =>
              rcases hT.2.2.2 M' ho with ⟨-, hstr, -⟩ | ⟨h998, -⟩
              · obtain ⟨a, rfl, cellB, k1, k2, k3⟩ := e_Old.recv h5.2 h8 hargs.1 b8.2
                exact ⟨a, As, rfl, cellB, k1, k2, by rw [hstr]; exact k3⟩
              · exact absurd e9 h998
          · cases b8
        · cases b8)
    (by rw [List.length_reverse, List.length_take, hlen]; omega) rfl rfl (by show d' + 1 ≤ R.frames; omega) (by show 8 + (xm_l (I M') + 11) + 64 * d' ≤ R.locals; omega) h1.1
    (by rw [(e_cats_ok hspl.2).1]; exact b4) ⟨by rw [C.2.2.1, b6]; exact hce, by rw [C.2.2.2.1, b7]; exact hsl⟩
  rw [List.reverse_reverse, List.take_append_drop] at hrun
  refine x_after hrun h8 (fun st v T hq => hq.2) (fun q _ h => hvA q h) hvA (fun v st T H1 locs1 hst hTh hal hq hS1 => ?_)
  obtain ⟨⟨v', ws', tys', ev, hr, hw', hK', hP', hD'⟩, hFr⟩ := hq
  cases ev
  rw [b6, b7]
  exact hgo lsl (v.toList ++ stk.drop na) H1 locs1 ⟨lv, ws', tys', h1, h2, x_all2_app hr hspl.2, hw', ⟨va_K.moved hal.symm hK', h5.2⟩, by rw [← hTh]; exact hP', hD'.weaken (fun _ q _ h => hvA q.1 h), hS1⟩
theorem e_frm (hT : e_Tab fd ft cl lay I code) : ∀ n, e_Frm fd ft cl lay I code l n := by
  intro n
  induction n with
  | zero => intro d M t r w' h; cases h
  | succ n ih =>
    intro d M t r w' h ad ce sl p e R s m args below meth c D A H0 Q C hce hsl hd hdl hA hret
    unfold e_go at h
    have hE := hT.2.1 M t.1
    split at h
    · rename_i f a b hc
      rw [hc] at hE
      replace hE : e_Snd ft cl lay (xm_b (I M)) (xm_y (I M)).cls (xm_l (I M)) (xm_y (I M)).name (xm_c (I M)) (xm_s (I M)) t.1 f := hE.1
      split at h
      · rename_i t' hf
        exact hE C hce hsl hA t t' rfl hf (ih d M t' r w' h C hce hsl hd hdl hA hret)
      · cases h
    · rename_i f k b hc
      split at h
      · rename_i r' hr
        cases h
        exact hret t f k b hc hr rfl
      · cases h
    · rename_i f M' na hc
      rw [hc] at hE
      replace hE : x_Cl (xm_b (I M)) (xm_y (I M)).cls (xm_l (I M)) (xm_y (I M)).name (xm_c (I M)) (xm_s (I M)) t.1 (I M') na := hE
      cases d with
      | zero => cases h
      | succ d' =>
        simp only at h
        cases hb : e_may fd lay d' M' na (I M') t.2.2.1 (t.2.2.1.take na).reverse (t.2.2.1.drop na) with
        | false => rw [hb] at h; cases h
        | true =>
          rw [hb] at h
          simp only [cond_true] at h
          split at h
          · rename_i rw9 hls
            obtain ⟨r9, w9⟩ := rw9
            have hbb := hb
            unfold e_may at hbb
            simp only [Bool.and_eq_true] at hbb
            exact e_call hT hE hb (e_met_of hT ih (Nat.le_of_ble_eq_true hbb.1) (Nat.le_of_ble_eq_true hbb.2.2.2.2.1) hls) C hce hsl hd hdl hA (ih (d' + 1) M _ r w' h C hce hsl hd hdl hA hret)
          · cases h
    · cases h
end E32
end
end
-- part 33
section
noncomputable section
/-! a logic over the exact interpreter: from t the method comes to its end, and there Q -/
section E33
variable {fd : Nat} {lay : List eY} {code : Nat → Nat → eE} {I : Nat → xM}
theorem e_go_mono : ∀ {n : Nat} {d M : Nat} {t : eS} {r : List eV × eW}, e_go fd lay code I n d M t = some r → e_go fd lay code I (n + 1) d M t = some r := by
  intro n
  induction n with
  | zero => intro d M t r h; cases h
  | succ n ih =>
    intro d M t r h
    unfold e_go at h
    unfold e_go
    split at h
    · rename_i f a b hc
      split at h
      · rename_i t' hf
        exact ih h
      · cases h
    · rename_i f k b hc
      exact h
    · rename_i f M' na hc
      cases d with
      | zero => cases h
      | succ d' =>
        simp only at h
        simp only
        cases hb : e_may fd lay d' M' na (I M') t.2.2.1 (t.2.2.1.take na).reverse (t.2.2.1.drop na) with
        | false => rw [hb] at h; cases h
        | true =>
          rw [hb] at h
          simp only [cond_true] at h ⊢
          split at h
          · rename_i rw9 hls
            rw [ih hls]
            exact ih h
          · cases h
    · cases h
theorem e_go_le {n k : Nat} (hk : n ≤ k) {d M : Nat} {t : eS} {r : List eV × eW} (h : e_go fd lay code I n d M t = some r) : e_go fd lay code I k d M t = some r := by
  obtain ⟨j, rfl⟩ := Nat.exists_eq_add_of_le hk
  induction j with
  | zero => exact h
  | succ j ih => exact e_go_mono (ih (Nat.le_add_right n j))
/-- from t on the method M (its calls no deeper than d) comes to its end, with Q of the answer and the contents -/
def e_Ok (fd : Nat) (lay : List eY) (code : Nat → Nat → eE) (I : Nat → xM) (d M : Nat) (t : eS) (Q : List eV → eW → Prop) : Prop := ∃ n r w, e_go fd lay code I n d M t = some (r, w) ∧ Q r w
theorem e_Ok.imp {d M : Nat} {t : eS} {Q Q' : List eV → eW → Prop} (h : e_Ok fd lay code I d M t Q) (hq : ∀ r w, Q r w → Q' r w) : e_Ok fd lay code I d M t Q' := by
  obtain ⟨n, r, w, h1, h2⟩ := h
  exact ⟨n, r, w, h1, hq r w h2⟩
theorem e_Ok.step {d M a b : Nat} {t t' : eS} {f : eS → Option eS} {Q : List eV → eW → Prop} (hc : code M t.1 = (0, f, a, b)) (hf : f t = some t') (h : e_Ok fd lay code I d M t' Q) : e_Ok fd lay code I d M t Q := by
  obtain ⟨n, r, w, h1, h2⟩ := h
  refine ⟨n + 1, r, w, ?_, h2⟩
  unfold e_go
  rw [hc]
  simp only
  rw [hf]
  exact h1
theorem e_Ok.ret {d M k b : Nat} {t : eS} {f : eS → Option eS} {r : List eV} {Q : List eV → eW → Prop} (hc : code M t.1 = (1, f, k, b)) (hr : e_retv k t.2.2.1 = some r) (h : Q r t.2.2.2) : e_Ok fd lay code I d M t Q := by
  refine ⟨1, r, t.2.2.2, ?_, h⟩
  unfold e_go
  rw [hc]
  simp only
  rw [hr]
theorem e_Ok.call {d M M' na : Nat} {t : eS} {f : eS → Option eS} {Q' Q : List eV → eW → Prop} (hc : code M t.1 = (2, f, M', na)) (hm : e_may fd lay d M' na (I M') t.2.2.1 (t.2.2.1.take na).reverse (t.2.2.1.drop na) = true) (h' : e_Ok fd lay code I d M' (0, e_ent 0 (t.2.2.1.take na).reverse, [], t.2.2.2) Q') (h : ∀ r w, Q' r w → e_Ok fd lay code I (d + 1) M (t.1 + 3, t.2.1, r ++ t.2.2.1.drop na, w) Q) : e_Ok fd lay code I (d + 1) M t Q := by
  obtain ⟨n', r', w', h1, h2⟩ := h'
  obtain ⟨n, r, w, h3, h4⟩ := h r' w' h2
  refine ⟨(n' + n) + 1, r, w, ?_, h4⟩
  unfold e_go
  rw [hc]
  simp only
  rw [hm]
  simp only [cond_true]
  rw [e_go_le (Nat.le_add_right n' n) h1]
  exact e_go_le (Nat.le_add_left n n') h3
/-- a loop: a measure falls -/
theorem e_Ok.loop {d M : Nat} {Q : List eV → eW → Prop} {α : Type} (J : α → Prop) (st : α → eS) (mu : α → Nat) (body : ∀ x, J x → (∀ y, J y → mu y < mu x → e_Ok fd lay code I d M (st y) Q) → e_Ok fd lay code I d M (st x) Q) : ∀ x, J x → e_Ok fd lay code I d M (st x) Q := by
  have key : ∀ n x, mu x < n → J x → e_Ok fd lay code I d M (st x) Q := by
    intro n
    induction n with
    | zero => intro x h; omega
    | succ n ih => intro x hx hj; exact body x hj (fun y hy hlt => ih y (by omega) hy)
  exact fun x hj => key (mu x + 1) x (Nat.lt_succ_self _) hj
end E33
/-! a run goes alike from a state that knows more -/
section E33s
variable {fd : Nat} {lay : List eY} {code : Nat → Nat → eE} {I : Nat → xM}
theorem e_ent_lo : ∀ (as : List eV) (i : Nat) (q : Nat × eV), q ∈ e_ent i as → i ≤ q.1
  | [], _, _, h => by cases h
  | x :: r, i, q, h => by
    unfold e_ent at h
    rcases List.mem_cons.mp h with rfl | h
    · exact Nat.le_refl _
    · have := e_ent_lo r _ q h
      cases hb : Nat.beq (e_ty x) 1 <;> rw [hb] at this <;> simp only [cond_true, cond_false] at this <;> omega
theorem e_ent_nd : ∀ (as : List eV) (i : Nat), ((e_ent i as).map Prod.fst).Nodup
  | [], _ => List.nodup_nil
  | x :: r, i => by
    unfold e_ent
    rw [List.map_cons, List.nodup_cons]
    refine ⟨fun hm => ?_, e_ent_nd r _⟩
    obtain ⟨q, hq, e⟩ := List.mem_map.mp hm
    have := e_ent_lo r _ q hq
    cases hb : Nat.beq (e_ty x) 1 <;> rw [hb] at this <;> simp only [cond_true, cond_false] at this <;> simp only at e <;> omega
theorem e_sub.ent (as : List eV) : e_sub (e_ent 0 as) (e_ent 0 as) := ⟨e_ent_nd as 0, fun _ h => h⟩
/-- places of the tables: plain ones do alike -/
def e_Alk (lay : List eY) (code : Nat → Nat → eE) : Prop := ∀ M pc f a b, code M pc = (0, f, a, b) → e_NI lay f
theorem e_sim (hN : e_Alk lay code) : ∀ (n d M : Nat) (t : eS) (r : List eV) (w1 : eW) (l' : eL) (w' : eW), e_go fd lay code I n d M t = some (r, w1) → e_sub t.2.1 l' → e_rf t.2.2.2 w' → ∃ w1', e_go fd lay code I n d M (t.1, l', t.2.2.1, w') = some (r, w1') ∧ e_rf w1 w1' ∧ (w' = t.2.2.2 → w1' = w1) := by
  intro n
  induction n with
  | zero => intro d M t r w1 l' w' h; cases h
  | succ n ih =>
    intro d M t r w1 l' w' h hs hw
    unfold e_go at h ⊢
    split at h
    · rename_i f a b hc
      simp only [hc]
      split at h
      · rename_i t' hf
        obtain ⟨l1, v1, g1, g2, g3, g4⟩ := (hN M t.1 f a b hc).1 t.1 t.2.1 l' t.2.2.1 t.2.2.2 w' t' hf hs hw
        rw [g1]
        simp only
        obtain ⟨u, u1, u2, u3⟩ := ih d M t' r w1 l1 v1 h g2 g3
        exact ⟨u, u1, u2, fun e => u3 (g4 e)⟩
      · cases h
    · rename_i f k b hc
      simp only [hc]
      split at h
      · rename_i r' hr
        cases h
        exact ⟨w', rfl, hw, fun e => e⟩
      · cases h
    · rename_i f M' na hc
      simp only [hc]
      cases d with
      | zero => cases h
      | succ d' =>
        simp only at h ⊢
        cases hb : e_may fd lay d' M' na (I M') t.2.2.1 (t.2.2.1.take na).reverse (t.2.2.1.drop na) with
        | false => rw [hb] at h; cases h
        | true =>
          rw [hb] at h
          simp only [cond_true] at h ⊢
          split at h
          · rename_i rw9 hls
            obtain ⟨r9, w9⟩ := rw9
            obtain ⟨v, v1, v2, v3⟩ := ih d' M' _ r9 w9 _ w' hls (e_sub.ent _) hw
            simp only at v1
            rw [v1]
            simp only
            obtain ⟨u, u1, u2, u3⟩ := ih (d' + 1) M _ r w1 l' v h hs v2
            exact ⟨u, u1, u2, fun e => u3 (v3 e)⟩
          · cases h
    · cases h
/-- fewer locals -/
theorem e_Ok.sub (hN : e_Alk lay code) {d M p : Nat} {l l' : eL} {st : List eV} {w : eW} {Q : List eV → eW → Prop} (hs : e_sub l l') (h : e_Ok fd lay code I d M (p, l, st, w) Q) : e_Ok fd lay code I d M (p, l', st, w) Q := by
  obtain ⟨n, r, w1, h1, h2⟩ := h
  obtain ⟨w1', g1, -, g3⟩ := e_sim hN n d M _ r w1 l' w h1 hs (e_rf.refl w)
  have e := g3 rfl
  subst e
  exact ⟨n, r, w1', g1, h2⟩
/-- more slots known -/
theorem e_Ok.more (hN : e_Alk lay code) {d M p : Nat} {l : eL} {st : List eV} {w w' : eW} {Q : List eV → eW → Prop} (hn : (l.map Prod.fst).Nodup) (hw : e_rf w w') (h : e_Ok fd lay code I d M (p, l, st, w) Q) : e_Ok fd lay code I d M (p, l, st, w') (fun r v => ∃ u, Q r u ∧ e_rf u v) := by
  obtain ⟨n, r, w1, h1, h2⟩ := h
  obtain ⟨w1', g1, g2, -⟩ := e_sim hN n d M _ r w1 l w' h1 ⟨hn, fun _ h => h⟩ hw
  exact ⟨n, r, w1', g1, w1, h2, g2⟩
/-- what no cell has, stays -/
theorem e_go_out (hN : e_Alk lay code) : ∀ (n d M : Nat) (t : eS) (r : List eV) (w1 : eW), e_go fd lay code I n d M t = some (r, w1) → ∀ c k, e_out lay c k → w1 c k = t.2.2.2 c k := by
  intro n
  induction n with
  | zero => intro d M t r w1 h; cases h
  | succ n ih =>
    intro d M t r w1 h c k ho
    unfold e_go at h
    split at h
    · rename_i f a b hc
      split at h
      · rename_i t' hf
        rw [ih d M t' r w1 h c k ho]
        exact (hN M t.1 f a b hc).2 t t' hf c k ho
      · cases h
    · rename_i f kk b hc
      split at h
      · rename_i r' hr
        cases h
        rfl
      · cases h
    · rename_i f M' na hc
      cases d with
      | zero => cases h
      | succ d' =>
        simp only at h
        cases hb : e_may fd lay d' M' na (I M') t.2.2.1 (t.2.2.1.take na).reverse (t.2.2.1.drop na) with
        | false => rw [hb] at h; cases h
        | true =>
          rw [hb] at h
          simp only [cond_true] at h
          split at h
          · rename_i rw9 hls
            obtain ⟨r9, w9⟩ := rw9
            rw [ih (d' + 1) M _ r w1 h c k ho]
            exact ih d' M' _ r9 w9 hls c k ho
          · cases h
    · cases h
theorem e_Ok.out (hN : e_Alk lay code) {d M : Nat} {t : eS} {Q : List eV → eW → Prop} (h : e_Ok fd lay code I d M t Q) : e_Ok fd lay code I d M t (fun r v => Q r v ∧ ∀ c k, e_out lay c k → v c k = t.2.2.2 c k) := by
  obtain ⟨n, r, w1, h1, h2⟩ := h
  exact ⟨n, r, w1, h1, h2, e_go_out hN n d M t r w1 h1⟩
end E33s
-- the machine does it
section E33b
variable {fd : Nat} {ft : Nat → Nat → Nat} {cl : List vw_C} {lay : List eY} {I : Nat → xM} {code : Nat → Nat → eE} {l : Launch}
theorem e_Ok.met (hT : e_Tab fd ft cl lay I code) {d M : Nat} {as : List eV} {w : eW} {Q : List eV → eW → Prop} (hd : fd ≤ d) (hl : e_cats as ≤ xm_l (I M)) (h : e_Ok fd lay code I d M (0, e_ent 0 as, [], w) Q) : ∃ r w', Q r w' ∧ e_Met ft cl lay I l d M as w r w' := by
  obtain ⟨n, r, w', h1, h2⟩ := h
  exact ⟨r, w', h2, e_met_of hT (e_frm hT n) hd hl h1⟩
end E33b
/-! numbers in bounds are themselves -/
theorem e32_id {z : Int} (h1 : -2147483648 ≤ z) (h2 : z ≤ 2147483647) : e32 z = z := x_bmod h1 h2
theorem e64_id {z : Int} (h1 : -9223372036854775808 ≤ z) (h2 : z ≤ 9223372036854775807) : e64 z = z := x_bmodL h1 h2
theorem e_if2_t {k tg nx p : Nat} {l : eL} {r : List eV} {w : eW} {x y : Int} (h : x_cnd k x y) : ei_if2 k tg nx (p, l, (0, y) :: (0, x) :: r, w) = some (tg, l, r, w) := by
  unfold ei_if2
  simp only [e_cnd_ok.mpr h, cond_true]
theorem e_if2_f {k tg nx p : Nat} {l : eL} {r : List eV} {w : eW} {x y : Int} (h : ¬ x_cnd k x y) : ei_if2 k tg nx (p, l, (0, y) :: (0, x) :: r, w) = some (nx, l, r, w) := by
  have hb : e_cnd k x y = false := by
    cases hb : e_cnd k x y with
    | false => rfl
    | true => exact absurd (e_cnd_ok.mp hb) h
  unfold ei_if2
  simp only [hb, cond_false]
theorem e_if1_t {k tg nx p : Nat} {l : eL} {r : List eV} {w : eW} {x : Int} (h : x_cnd k x 0) : ei_if1 k tg nx (p, l, (0, x) :: r, w) = some (tg, l, r, w) := by
  unfold ei_if1
  simp only [e_cnd_ok.mpr h, cond_true]
theorem e_if1_f {k tg nx p : Nat} {l : eL} {r : List eV} {w : eW} {x : Int} (h : ¬ x_cnd k x 0) : ei_if1 k tg nx (p, l, (0, x) :: r, w) = some (nx, l, r, w) := by
  have hb : e_cnd k x 0 = false := by
    cases hb : e_cnd k x 0 with
    | false => rfl
    | true => exact absurd (e_cnd_ok.mp hb) h
  unfold ei_if1
  simp only [hb, cond_false]
end
end
-- part 33c
section
noncomputable section
/-! a run stays on its side -/
theorem e_ent_mem : ∀ (as : List eV) (i : Nat) (q : Nat × eV), q ∈ e_ent i as → q.2 ∈ as
  | [], _, q, h => absurd h List.not_mem_nil
  | x :: r, i, q, h => by
    unfold e_ent at h
    rcases List.mem_cons.mp h with rfl | h
    · exact List.mem_cons_self
    · exact List.mem_cons_of_mem _ (e_ent_mem r _ q h)
theorem e_retv_mem {k : Nat} {st r : List eV} (h : e_retv k st = some r) : r = st := by
  unfold e_retv at h
  split at h
  · cases h; rfl
  · rename_i x
    cases hb : Nat.beq (e_ty x) 0 <;> rw [hb] at h <;> cases h
    rfl
  · rename_i x
    cases hb : Nat.beq (e_ty x) 1 <;> rw [hb] at h <;> cases h
    rfl
  · rename_i x
    cases hb : Nat.beq (e_ty x) 2 <;> rw [hb] at h <;> cases h
    rfl
  · rename_i x
    cases hb : e_pk 1 x <;> rw [hb] at h <;> cases h
    rfl
  · rename_i x
    cases hb : e_pc x <;> rw [hb] at h <;> cases h
    rfl
  · cases h
def e_InT (ft : Nat → Nat → Nat) (lay : List eY) (code : Nat → Nat → eE) : Prop := ∀ M pc f a b, code M pc = (0, f, a, b) → e_IN ft lay f
theorem e_go_in {fd : Nat} {ft : Nat → Nat → Nat} {lay : List eY} {code : Nat → Nat → eE} {I : Nat → xM} (hl : lay.length ≤ 357) (hN : e_InT ft lay code) {B : Int → Prop} (hB : e_BB B) : ∀ (n d M : Nat) (t : eS) (r : List eV) (w1 : eW), e_go fd lay code I n d M t = some (r, w1) → e_tB ft lay B t → (∀ x ∈ r, e_vB B x) ∧ e_wB ft lay B w1 ∧ ∀ c k, ¬ B c → w1 c k = t.2.2.2 c k := by
  intro n
  induction n with
  | zero => intro d M t r w1 h; cases h
  | succ n ih =>
    intro d M t r w1 h hI
    unfold e_go at h
    split at h
    · rename_i f a b hc
      split at h
      · rename_i t' hf
        obtain ⟨h1, h2⟩ := hN _ _ _ _ _ hc hl B hB t t' hf hI
        obtain ⟨g1, g2, g3⟩ := ih d M t' r w1 h h1
        exact ⟨g1, g2, fun c k q => (g3 c k q).trans (h2 c k q)⟩
      · cases h
    · rename_i f k b hc
      split at h
      · rename_i r' hr
        cases h
        have e := e_retv_mem hr
        exact ⟨fun x hx => hI.2.1 x (by rw [← e]; exact hx), hI.2.2, fun _ _ _ => rfl⟩
      · cases h
    · rename_i f M' na hc
      cases d with
      | zero => cases h
      | succ d' =>
        simp only at h
        cases hb : e_may fd lay d' M' na (I M') t.2.2.1 (t.2.2.1.take na).reverse (t.2.2.1.drop na) with
        | false => rw [hb] at h; cases h
        | true =>
          rw [hb] at h
          simp only [cond_true] at h
          split at h
          · rename_i rw9 hls
            obtain ⟨r9, w9⟩ := rw9
            have hI1 : e_tB ft lay B (0, e_ent 0 (t.2.2.1.take na).reverse, [], t.2.2.2) := ⟨fun q hq => hI.2.1 _ (List.mem_of_mem_take (List.mem_reverse.mp (e_ent_mem _ _ q hq))), fun x hx => absurd hx List.not_mem_nil, hI.2.2⟩
            obtain ⟨g1, g2, g3⟩ := ih d' M' _ r9 w9 hls hI1
            have hI2 : e_tB ft lay B (t.1 + 3, t.2.1, r9 ++ t.2.2.1.drop na, w9) := ⟨hI.1, fun x hx => by
              rcases List.mem_append.mp hx with hx | hx
              · exact g1 x hx
              · exact hI.2.1 x (List.mem_of_mem_drop hx), g2⟩
            obtain ⟨k1, k2, k3⟩ := ih (d' + 1) M _ r w1 h hI2
            exact ⟨k1, k2, fun c k q => (k3 c k q).trans (g3 c k q)⟩
          · cases h
    · cases h
theorem e_Ok.inside {fd : Nat} {ft : Nat → Nat → Nat} {lay : List eY} {code : Nat → Nat → eE} {I : Nat → xM} (hl : lay.length ≤ 357) (hN : e_InT ft lay code) {B : Int → Prop} (hB : e_BB B) {d M : Nat} {t : eS} {Q : List eV → eW → Prop} (h : e_Ok fd lay code I d M t Q) (hI : e_tB ft lay B t) : e_Ok fd lay code I d M t (fun r w' => Q r w' ∧ e_wB ft lay B w' ∧ ∀ c k, ¬ B c → w' c k = t.2.2.2 c k) := by
  obtain ⟨n, r, w', h1, h2⟩ := h
  obtain ⟨-, g2, g3⟩ := e_go_in hl hN hB n d M t r w' h1 hI
  exact ⟨n, r, w', h1, h2, g2, g3⟩
end
end
-- part 34
section
noncomputable section
/-! exact: a row an instruction -/
theorem e_c {z : Int} {v : Int32} (h : v.toInt = z) : ∀ ad, e_rel ad (0, z) (.int v) := fun _ => ⟨v, rfl, h⟩
theorem e_cL {z : Int} {v : Int64} (h : v.toInt = z) : ∀ ad, e_rel ad (4, z) (.long v) := fun _ => ⟨v, rfl, h⟩
section E34
variable {ft : Nat → Nat → Nat} {cl : List vw_C} {lay : List eY} {cc : ByteArray} {own : String} {nL : Nat} {nm : String} {MC MS pc : Nat}
theorem er_iconst {n z : Int} {v : Int32} (d : decode cc pc = .ok (.iconst n, 1)) (hv : Int32.ofInt n = v) (hz : v.toInt = z) : e_Snd ft cl lay cc own nL nm MC MS pc (ei_push (0, z) (pc + 1)) := ei_push_ok (fun S => fun k => lv_iconst S.1 S.2.1 d hv k) (e_c hz)
theorem er_bipush {n z : Int} {v : Int32} (d : decode cc pc = .ok (.bipush n, 2)) (hv : (Int8.ofInt n).toInt32 = v) (hz : v.toInt = z) : e_Snd ft cl lay cc own nL nm MC MS pc (ei_push (0, z) (pc + 2)) := ei_push_ok (fun S => fun k => lv_bipush S.1 S.2.1 d hv k) (e_c hz)
theorem er_sipush {n z : Int} {v : Int32} (d : decode cc pc = .ok (.sipush n, 3)) (hv : (Int16.ofInt n).toInt32 = v) (hz : v.toInt = z) : e_Snd ft cl lay cc own nL nm MC MS pc (ei_push (0, z) (pc + 3)) := ei_push_ok (fun S => fun k => lv_sipush S.1 S.2.1 d hv k) (e_c hz)
theorem er_ldc {ix : Nat} {z : Int} {v : Int32} (d : decode cc pc = .ok (.ldc ix, 2)) (hw : Cond.constant own ix v ∈ x_tbl) (hz : v.toInt = z) : e_Snd ft cl lay cc own nL nm MC MS pc (ei_push (0, z) (pc + 2)) := ei_push_ok (fun S => fun k => lv_ldc S.1 S.2.1 S.2.2.2.1 (S.2.2.2.2 _ hw) d k) (e_c hz)
theorem er_ldcw {ix : Nat} {z : Int} {v : Int32} (d : decode cc pc = .ok (.ldc_w ix, 3)) (hw : Cond.constant own ix v ∈ x_tbl) (hz : v.toInt = z) : e_Snd ft cl lay cc own nL nm MC MS pc (ei_push (0, z) (pc + 3)) := ei_push_ok (fun S => fun k => lv_ldcw S.1 S.2.1 S.2.2.2.1 (S.2.2.2.2 _ hw) d k) (e_c hz)
theorem er_ldc2 {ix : Nat} {z : Int} {v : Int64} (d : decode cc pc = .ok (.ldc2_w ix, 3)) (hw : Cond.constantLong own ix v ∈ x_tbl) (hz : v.toInt = z) : e_Snd ft cl lay cc own nL nm MC MS pc (ei_push (4, z) (pc + 3)) := ei_push_ok (fun S => fun k => lv_ldc2 S.1 S.2.1 S.2.2.2.1 (S.2.2.2.2 _ hw) d k) (e_cL hz)
theorem er_lconst {n : Fin 2} {z : Int} {v : Int64} (d : decode cc pc = .ok (.lconst n, 1)) (hv : Int64.ofNat n = v) (hz : v.toInt = z) : e_Snd ft cl lay cc own nL nm MC MS pc (ei_push (4, z) (pc + 1)) := ei_push_ok (fun S => fun k => lv_lconst S.1 S.2.1 d hv k) (e_cL hz)
theorem er_null (d : decode cc pc = .ok (.aconst_null, 1)) : e_Snd ft cl lay cc own nL nm MC MS pc (ei_push (2, 0) (pc + 1)) := ei_push_ok (x := (2, 0)) (v := .null) (fun S => fun k => lv_null S.1 S.2.1 d k) (fun _ => rfl)
theorem er_iload_n {i : Fin 4} (d : decode cc pc = .ok (.iload_n i, 1)) : e_Snd ft cl lay cc own nL nm MC MS pc (ei_load i 0 (pc + 1)) := ei_load_ok (fun S => fun hl hk k => by obtain ⟨n, rfl⟩ := hk; exact lv_iload_n S.1 S.2.1 d rfl hl k)
theorem er_iload {i : Nat} (d : decode cc pc = .ok (.iload i, 2)) : e_Snd ft cl lay cc own nL nm MC MS pc (ei_load i 0 (pc + 2)) := ei_load_ok (fun S => fun hl hk k => by obtain ⟨n, rfl⟩ := hk; exact lv_iload S.1 S.2.1 d hl k)
theorem er_lload_n {i : Fin 4} (d : decode cc pc = .ok (.lload_n i, 1)) : e_Snd ft cl lay cc own nL nm MC MS pc (ei_load i 1 (pc + 1)) := ei_load_ok (fun S => fun hl hk k => by obtain ⟨n, rfl⟩ := hk; exact lv_lload_n S.1 S.2.1 d rfl hl k)
theorem er_lload {i : Nat} (d : decode cc pc = .ok (.lload i, 2)) : e_Snd ft cl lay cc own nL nm MC MS pc (ei_load i 1 (pc + 2)) := ei_load_ok (fun S => fun hl hk k => by obtain ⟨n, rfl⟩ := hk; exact lv_lload S.1 S.2.1 d hl k)
theorem er_aload_n {i : Fin 4} (d : decode cc pc = .ok (.aload_n i, 1)) : e_Snd ft cl lay cc own nL nm MC MS pc (ei_load i 2 (pc + 1)) := ei_load_ok (fun S => fun hl hk k => by rcases hk with rfl | ⟨a, rfl⟩; exact lv_aload_nN S.1 S.2.1 d rfl hl k; exact lv_aload_n S.1 S.2.1 d rfl hl k)
theorem er_aload {i : Nat} (d : decode cc pc = .ok (.aload i, 2)) : e_Snd ft cl lay cc own nL nm MC MS pc (ei_load i 2 (pc + 2)) := ei_load_ok (fun S => fun hl hk k => by rcases hk with rfl | ⟨a, rfl⟩; exact lv_aloadN S.1 S.2.1 d hl k; exact lv_aload S.1 S.2.1 d hl k)
theorem er_istore_n {i : Fin 4} (d : decode cc pc = .ok (.istore_n i, 1)) (hn : (i : Nat) < nL) : e_Snd ft cl lay cc own nL nm MC MS pc (ei_stor i 0 (pc + 1)) := ei_stor_ok (fun S => fun hl hk k => by obtain ⟨n, rfl⟩ := hk; exact lv_istore_n S.1 S.2.1 d rfl hl hn rfl k)
theorem er_istore {i : Nat} (d : decode cc pc = .ok (.istore i, 2)) (hn : i < nL) : e_Snd ft cl lay cc own nL nm MC MS pc (ei_stor i 0 (pc + 2)) := ei_stor_ok (fun S => fun hl hk k => by obtain ⟨n, rfl⟩ := hk; exact lv_istore S.1 S.2.1 d hl hn rfl k)
theorem er_lstore_n {i : Fin 4} (d : decode cc pc = .ok (.lstore_n i, 1)) (hn : (i : Nat) + 1 < nL) : e_Snd ft cl lay cc own nL nm MC MS pc (ei_stor i 1 (pc + 1)) := ei_stor_ok (fun S => fun hl hk k => by obtain ⟨n, rfl⟩ := hk; exact lv_lstore_n S.1 S.2.1 d rfl hl hn rfl k)
theorem er_lstore {i : Nat} (d : decode cc pc = .ok (.lstore i, 2)) (hn : i + 1 < nL) : e_Snd ft cl lay cc own nL nm MC MS pc (ei_stor i 1 (pc + 2)) := ei_stor_ok (fun S => fun hl hk k => by obtain ⟨n, rfl⟩ := hk; exact lv_lstore S.1 S.2.1 d hl hn rfl k)
theorem er_astore_n {i : Fin 4} (d : decode cc pc = .ok (.astore_n i, 1)) (hn : (i : Nat) < nL) : e_Snd ft cl lay cc own nL nm MC MS pc (ei_stor i 2 (pc + 1)) := ei_stor_ok (fun S => fun hl hk k => by rcases hk with rfl | ⟨a, rfl⟩; exact lv_astore_nN S.1 S.2.1 d rfl hl hn rfl k; exact lv_astore_n S.1 S.2.1 d rfl hl hn rfl k)
theorem er_astore {i : Nat} (d : decode cc pc = .ok (.astore i, 2)) (hn : i < nL) : e_Snd ft cl lay cc own nL nm MC MS pc (ei_stor i 2 (pc + 2)) := ei_stor_ok (fun S => fun hl hk k => by rcases hk with rfl | ⟨a, rfl⟩; exact lv_astoreN S.1 S.2.1 d hl hn rfl k; exact lv_astore S.1 S.2.1 d hl hn rfl k)
theorem er_iinc {i : Nat} {n : Int} (d : decode cc pc = .ok (.iinc i n, 3)) (hn : i < nL) (hz : -2147483648 ≤ n ∧ n ≤ 2147483647) : e_Snd ft cl lay cc own nL nm MC MS pc (ei_inc i n (pc + 3)) := ei_inc_ok hz (fun S => fun hl hk k => lv_iinc S.1 S.2.1 d hl hk rfl hn rfl k)
theorem er_goto {off : Int} {tg : Nat} (d : decode cc pc = .ok (.goto off, 3)) (ht : (pc : Int) + off = (tg : Int)) : e_Snd ft cl lay cc own nL nm MC MS pc (ei_goto tg) := ei_goto_ok (fun S => fun k => lv_goto S.1 S.2.1 d ht k)
theorem er_icmpeq {off : Int} {tg : Nat} (d : decode cc pc = .ok (.if_icmp .eq off, 3)) (ht : (pc : Int) + off = (tg : Int)) : e_Snd ft cl lay cc own nL nm MC MS pc (ei_if2 0 tg (pc + 3)) := ei_if2_ok (k := 0) (fun S => fun kt kf => lv_icmp_eq S.1 S.2.1 d ht (fun h => kt (x_eq32.mp h)) (fun h => kf (fun q => h (x_eq32.mpr q))))
theorem er_icmpne {off : Int} {tg : Nat} (d : decode cc pc = .ok (.if_icmp .ne off, 3)) (ht : (pc : Int) + off = (tg : Int)) : e_Snd ft cl lay cc own nL nm MC MS pc (ei_if2 1 tg (pc + 3)) := ei_if2_ok (k := 1) (fun S => fun kt kf => lv_icmp_ne S.1 S.2.1 d ht (fun h => kt (fun q => h (x_eq32.mpr q))) (fun h => kf (fun q => q (x_eq32.mp h))))
theorem er_icmplt {off : Int} {tg : Nat} (d : decode cc pc = .ok (.if_icmp .lt off, 3)) (ht : (pc : Int) + off = (tg : Int)) : e_Snd ft cl lay cc own nL nm MC MS pc (ei_if2 2 tg (pc + 3)) := ei_if2_ok (k := 2) (fun S => fun kt kf => lv_icmp_lt S.1 S.2.1 d ht (fun h => kt (x_lt32.mp h)) (fun h => kf (fun q => h (x_lt32.mpr q))))
theorem er_icmpge {off : Int} {tg : Nat} (d : decode cc pc = .ok (.if_icmp .ge off, 3)) (ht : (pc : Int) + off = (tg : Int)) : e_Snd ft cl lay cc own nL nm MC MS pc (ei_if2 3 tg (pc + 3)) := ei_if2_ok (k := 3) (fun S => fun kt kf => lv_icmp_ge S.1 S.2.1 d ht (fun h => kt (x_le32.mp h)) (fun h => kf (fun q => h (x_le32.mpr q))))
theorem er_icmpgt {off : Int} {tg : Nat} (d : decode cc pc = .ok (.if_icmp .gt off, 3)) (ht : (pc : Int) + off = (tg : Int)) : e_Snd ft cl lay cc own nL nm MC MS pc (ei_if2 4 tg (pc + 3)) := ei_if2_ok (k := 4) (fun S => fun kt kf => lv_icmp_gt S.1 S.2.1 d ht (fun h => kt (x_lt32.mp h)) (fun h => kf (fun q => h (x_lt32.mpr q))))
theorem er_icmple {off : Int} {tg : Nat} (d : decode cc pc = .ok (.if_icmp .le off, 3)) (ht : (pc : Int) + off = (tg : Int)) : e_Snd ft cl lay cc own nL nm MC MS pc (ei_if2 5 tg (pc + 3)) := ei_if2_ok (k := 5) (fun S => fun kt kf => lv_icmp_le S.1 S.2.1 d ht (fun h => kt (x_le32.mp h)) (fun h => kf (fun q => h (x_le32.mpr q))))
theorem er_ifeq {off : Int} {tg : Nat} (d : decode cc pc = .ok (.ifCond .eq off, 3)) (ht : (pc : Int) + off = (tg : Int)) : e_Snd ft cl lay cc own nL nm MC MS pc (ei_if1 0 tg (pc + 3)) := ei_if1_ok (k := 0) (fun S => fun kt kf => lv_if_eq S.1 S.2.1 d ht (fun h => kt (x_eq0.mp h)) (fun h => kf (fun q => h (x_eq0.mpr q))))
theorem er_ifne {off : Int} {tg : Nat} (d : decode cc pc = .ok (.ifCond .ne off, 3)) (ht : (pc : Int) + off = (tg : Int)) : e_Snd ft cl lay cc own nL nm MC MS pc (ei_if1 1 tg (pc + 3)) := ei_if1_ok (k := 1) (fun S => fun kt kf => lv_if_ne S.1 S.2.1 d ht (fun h => kt (fun q => h (x_eq0.mpr q))) (fun h => kf (fun q => q (x_eq0.mp h))))
theorem er_iflt {off : Int} {tg : Nat} (d : decode cc pc = .ok (.ifCond .lt off, 3)) (ht : (pc : Int) + off = (tg : Int)) : e_Snd ft cl lay cc own nL nm MC MS pc (ei_if1 2 tg (pc + 3)) := ei_if1_ok (k := 2) (fun S => fun kt kf => lv_if_lt S.1 S.2.1 d ht (fun h => kt (x_lt0.mp h)) (fun h => kf (fun q => h (x_lt0.mpr q))))
theorem er_ifge {off : Int} {tg : Nat} (d : decode cc pc = .ok (.ifCond .ge off, 3)) (ht : (pc : Int) + off = (tg : Int)) : e_Snd ft cl lay cc own nL nm MC MS pc (ei_if1 3 tg (pc + 3)) := ei_if1_ok (k := 3) (fun S => fun kt kf => lv_if_ge S.1 S.2.1 d ht (fun h => kt (x_ge0.mp h)) (fun h => kf (fun q => h (x_ge0.mpr q))))
theorem er_ifgt {off : Int} {tg : Nat} (d : decode cc pc = .ok (.ifCond .gt off, 3)) (ht : (pc : Int) + off = (tg : Int)) : e_Snd ft cl lay cc own nL nm MC MS pc (ei_if1 4 tg (pc + 3)) := ei_if1_ok (k := 4) (fun S => fun kt kf => lv_if_gt S.1 S.2.1 d ht (fun h => kt (x_gt0.mp h)) (fun h => kf (fun q => h (x_gt0.mpr q))))
theorem er_ifle {off : Int} {tg : Nat} (d : decode cc pc = .ok (.ifCond .le off, 3)) (ht : (pc : Int) + off = (tg : Int)) : e_Snd ft cl lay cc own nL nm MC MS pc (ei_if1 5 tg (pc + 3)) := ei_if1_ok (k := 5) (fun S => fun kt kf => lv_if_le S.1 S.2.1 d ht (fun h => kt (x_le0.mp h)) (fun h => kf (fun q => h (x_le0.mpr q))))
def eB (g : Int32 → Int32 → Int32) (x y : Int) : Option Int := some (g (Int32.ofInt x) (Int32.ofInt y)).toInt
def eSh (g : Int64 → Int32 → Int64) (x y : Int) : Option Int := some (g (Int64.ofInt x) (Int32.ofInt y)).toInt
theorem eB_ok {g : Int32 → Int32 → Int32} (x y : Int32) (z : Int) (h : eB g x.toInt y.toInt = some z) : True ∧ (g x y).toInt = z := by
  unfold eB at h
  rw [Int32.ofInt_toInt, Int32.ofInt_toInt] at h
  exact ⟨trivial, Option.some.inj h⟩
theorem eSh_ok {g : Int64 → Int32 → Int64} (x : Int64) (y : Int32) (z : Int) (h : eSh g x.toInt y.toInt = some z) : (g x y).toInt = z := by
  unfold eSh at h
  rw [Int64.ofInt_toInt, Int32.ofInt_toInt] at h
  exact Option.some.inj h
def eF_add (x y : Int) : Option Int := some (e32 (x + y))
def eF_sub (x y : Int) : Option Int := some (e32 (x - y))
def eF_mul (x y : Int) : Option Int := some (e32 (x * y))
def eF_div (x y : Int) : Option Int := bif decide (y = 0) then none else some (e32 (x.tdiv y))
def eF_rem (x y : Int) : Option Int := bif decide (y = 0) then none else some (e32 (x - e32 (e32 (x.tdiv y) * y)))
theorem er_iadd (d : decode cc pc = .ok (.iadd, 1)) : e_Snd ft cl lay cc own nL nm MC MS pc (ei_bin eF_add (pc + 1)) := ei_bin_ok (g := fun x y => x + y) (fun _ => True) (fun x y _ => (fun S => fun k => lv_iadd S.1 S.2.1 d k)) (fun x y z h => ⟨trivial, by cases h; exact Int32.toInt_add x y⟩)
theorem er_isub (d : decode cc pc = .ok (.isub, 1)) : e_Snd ft cl lay cc own nL nm MC MS pc (ei_bin eF_sub (pc + 1)) := ei_bin_ok (g := fun x y => x - y) (fun _ => True) (fun x y _ => (fun S => fun k => lv_isub S.1 S.2.1 d k)) (fun x y z h => ⟨trivial, by cases h; exact Int32.toInt_sub x y⟩)
theorem er_imul (d : decode cc pc = .ok (.imul, 1)) : e_Snd ft cl lay cc own nL nm MC MS pc (ei_bin eF_mul (pc + 1)) := ei_bin_ok (g := fun x y => x * y) (fun _ => True) (fun x y _ => (fun S => fun k => lv_imul S.1 S.2.1 d k)) (fun x y z h => ⟨trivial, by cases h; exact Int32.toInt_mul x y⟩)
theorem e_nz {y : Int32} (h : decide (y.toInt = 0) = false) : ¬ y = 0 := fun e => by
  subst e
  have : (0 : Int32).toInt = 0 := by decide
  simp [this] at h
theorem er_idiv (d : decode cc pc = .ok (.idiv, 1)) : e_Snd ft cl lay cc own nL nm MC MS pc (ei_bin eF_div (pc + 1)) := ei_bin_ok (g := fun x y => x / y) (fun y => ¬ y = 0) (fun x y hy => (fun S => fun k => lv_idiv S.1 S.2.1 d hy k)) (fun x y z h => by
  unfold eF_div at h
  cases hb : decide (y.toInt = 0) with
  | true => rw [hb] at h; cases h
  | false =>
    rw [hb] at h
    cases h
    exact ⟨e_nz hb, Int32.toInt_div x y⟩)
theorem er_irem (d : decode cc pc = .ok (.irem, 1)) : e_Snd ft cl lay cc own nL nm MC MS pc (ei_bin eF_rem (pc + 1)) := ei_bin_ok (g := fun x y => x - x / y * y) (fun y => ¬ y = 0) (fun x y hy => (fun S => fun k => lv_irem S.1 S.2.1 d hy k)) (fun x y z h => by
  unfold eF_rem at h
  cases hb : decide (y.toInt = 0) with
  | true => rw [hb] at h; cases h
  | false =>
    rw [hb] at h
    cases h
    refine ⟨e_nz hb, ?_⟩
    rw [Int32.toInt_sub, Int32.toInt_mul, Int32.toInt_div]
    rfl)
theorem er_iand (d : decode cc pc = .ok (.iand, 1)) : e_Snd ft cl lay cc own nL nm MC MS pc (ei_bin (eB (fun x y => x &&& y)) (pc + 1)) := ei_bin_ok (g := fun x y => x &&& y) (fun _ => True) (fun x y _ => (fun S => fun k => lv_iand S.1 S.2.1 d k)) eB_ok
theorem er_ior (d : decode cc pc = .ok (.ior, 1)) : e_Snd ft cl lay cc own nL nm MC MS pc (ei_bin (eB (fun x y => x ||| y)) (pc + 1)) := ei_bin_ok (g := fun x y => x ||| y) (fun _ => True) (fun x y _ => (fun S => fun k => lv_ior S.1 S.2.1 d k)) eB_ok
theorem er_ishr (d : decode cc pc = .ok (.ishr, 1)) : e_Snd ft cl lay cc own nL nm MC MS pc (ei_bin (eB (fun x y => x >>> (y &&& 31))) (pc + 1)) := ei_bin_ok (g := fun x y => x >>> (y &&& 31)) (fun _ => True) (fun x y _ => (fun S => fun k => lv_ishr S.1 S.2.1 d k)) eB_ok
theorem er_ishl (d : decode cc pc = .ok (.ishl, 1)) : e_Snd ft cl lay cc own nL nm MC MS pc (ei_bin (eB (fun x y => x <<< (y &&& 31))) (pc + 1)) := ei_bin_ok (g := fun x y => x <<< (y &&& 31)) (fun _ => True) (fun x y _ => (fun S => fun k => lv_ishl S.1 S.2.1 d k)) eB_ok
theorem er_ineg (d : decode cc pc = .ok (.ineg, 1)) : e_Snd ft cl lay cc own nL nm MC MS pc (ei_un (fun x => (0, e32 (-x))) (pc + 1)) := ei_un_ok (g := fun x => .int (-x)) (fun x => (fun S => fun k => lv_ineg S.1 S.2.1 d k)) (fun x ad => e_c (Int32.toInt_neg x) ad)
theorem er_i2b (d : decode cc pc = .ok (.i2b, 1)) : e_Snd ft cl lay cc own nL nm MC MS pc (ei_un (fun x => (0, x.bmod 256)) (pc + 1)) := ei_un_ok (g := fun x => .int x.toInt8.toInt32) (fun x => (fun S => fun k => lv_i2b S.1 S.2.1 d rfl k)) (fun x ad => e_c (z := x.toInt.bmod 256) (by rw [Int8.toInt_toInt32, Int32.toInt_toInt8]) ad)
theorem er_i2l (d : decode cc pc = .ok (.i2l, 1)) : e_Snd ft cl lay cc own nL nm MC MS pc (ei_un (fun x => (4, x)) (pc + 1)) := ei_un_ok (g := fun x => .long x.toInt64) (fun x => (fun S => fun k => lv_i2l S.1 S.2.1 d rfl k)) (fun x ad => e_cL (Int32.toInt_toInt64 x) ad)
def eG_add (x y : Int) : Option eV := some (4, e64 (x + y))
def eG_sub (x y : Int) : Option eV := some (4, e64 (x - y))
def eG_mul (x y : Int) : Option eV := some (4, e64 (x * y))
def eG_cmp (x y : Int) : Option eV := some (0, bif decide (x < y) then -1 else bif decide (x = y) then 0 else 1)
theorem er_ladd (d : decode cc pc = .ok (.ladd, 1)) : e_Snd ft cl lay cc own nL nm MC MS pc (ei_binL eG_add (pc + 1)) := ei_binL_ok (g := fun x y => .long (x + y)) (fun _ => True) (fun x y _ => (fun S => fun k => lv_ladd S.1 S.2.1 d k)) (fun x y z h => ⟨trivial, fun ad => by cases h; exact e_cL (Int64.toInt_add x y) ad⟩)
theorem er_lsub (d : decode cc pc = .ok (.lsub, 1)) : e_Snd ft cl lay cc own nL nm MC MS pc (ei_binL eG_sub (pc + 1)) := ei_binL_ok (g := fun x y => .long (x - y)) (fun _ => True) (fun x y _ => (fun S => fun k => lv_lsub S.1 S.2.1 d k)) (fun x y z h => ⟨trivial, fun ad => by cases h; exact e_cL (Int64.toInt_sub x y) ad⟩)
theorem er_lmul (d : decode cc pc = .ok (.lmul, 1)) : e_Snd ft cl lay cc own nL nm MC MS pc (ei_binL eG_mul (pc + 1)) := ei_binL_ok (g := fun x y => .long (x * y)) (fun _ => True) (fun x y _ => (fun S => fun k => lv_lmul S.1 S.2.1 d k)) (fun x y z h => ⟨trivial, fun ad => by cases h; exact e_cL (Int64.toInt_mul x y) ad⟩)
theorem er_lcmp (d : decode cc pc = .ok (.lcmp, 1)) : e_Snd ft cl lay cc own nL nm MC MS pc (ei_binL eG_cmp (pc + 1)) := ei_binL_ok (g := fun x y => .int (lg_cmp x y)) (fun _ => True) (fun x y _ => (fun S => fun k => W.lcmp S.1 S.2.1 d k)) (fun x y z h => ⟨trivial, fun ad => by
  cases h
  refine ⟨_, rfl, ?_⟩
  obtain ⟨h1, h2, h3⟩ := x_lg_cmp x y
  rcases Int.lt_trichotomy x.toInt y.toInt with h | h | h
  · rw [h1 h, decide_eq_true h]
    show (-1 : Int32).toInt = -1
    decide
  · rw [h2 h, decide_eq_false (by omega), decide_eq_true h]
    show (0 : Int32).toInt = 0
    decide
  · rw [h3 h, decide_eq_false (by omega), decide_eq_false (by omega)]
    show (1 : Int32).toInt = 1
    decide⟩)
theorem er_lshr (d : decode cc pc = .ok (.lshr, 1)) : e_Snd ft cl lay cc own nL nm MC MS pc (ei_shL (eSh (fun x y => x >>> (y.toInt64 &&& 63))) (pc + 1)) := ei_shL_ok (g := fun x y => x >>> (y.toInt64 &&& 63)) (fun x y => (fun S => fun k => lv_lshr S.1 S.2.1 d rfl k)) eSh_ok
theorem er_lshl (d : decode cc pc = .ok (.lshl, 1)) : e_Snd ft cl lay cc own nL nm MC MS pc (ei_shL (eSh (fun x y => x <<< (y.toInt64 &&& 63))) (pc + 1)) := ei_shL_ok (g := fun x y => x <<< (y.toInt64 &&& 63)) (fun x y => (fun S => fun k => lv_lshl S.1 S.2.1 d rfl k)) eSh_ok
theorem er_lneg (d : decode cc pc = .ok (.lneg, 1)) : e_Snd ft cl lay cc own nL nm MC MS pc (ei_unL (fun x => (4, e64 (-x))) (pc + 1)) := ei_unL_ok (g := fun x => .long (-x)) (fun x => (fun S => fun k => lv_lneg S.1 S.2.1 d k)) (fun x ad => e_cL (Int64.toInt_neg x) ad)
theorem er_l2i (d : decode cc pc = .ok (.l2i, 1)) : e_Snd ft cl lay cc own nL nm MC MS pc (ei_unL (fun x => (0, e32 x)) (pc + 1)) := ei_unL_ok (g := fun x => .int x.toInt32) (fun x => (fun S => fun k => lv_l2i S.1 S.2.1 d rfl k)) (fun x ad => e_c (Int64.toInt_toInt32 x) ad)
theorem er_getf {ci k ix N : Nat} {C : String} {T : u_T} (hc : cl[ci]? = some (C, T, N)) (hin : ∀ w ∈ u_ws C T N, w ∈ x_tbl) (hk : k < N) (hw : Cond.fieldLink own ix (T k).1 (T k).2.1 (T k).2.2.1 ∈ x_tbl) (d : decode cc pc = .ok (.getfield ix, 3)) : e_Snd ft cl lay cc own nL nm MC MS pc (ei_getf ft lay ci k (pc + 3)) := ei_getf_ok (xw_getf hc hin hk hw d)
theorem er_alen (d : decode cc pc = .ok (.arraylength, 1)) : e_Snd ft cl lay cc own nL nm MC MS pc (ei_alen lay (pc + 1)) := ei_alen_ok (fun C => fun h1 h2 h3 h4 k => va_alen C.1.1 C.1.2.1 h1 h2 _ _ h3 h4 rfl d k)
theorem er_aaload (d : decode cc pc = .ok (.aaload, 1)) : e_Snd ft cl lay cc own nL nm MC MS pc (ei_aald lay (pc + 1)) := ei_aald_ok (fun C => fun h0 h1 h2 h3 h4 h5 k => x_aald C.1.1 C.1.2.1 h1 h2 _ _ h0 h3 h4 h5 d k)
theorem er_iaload (d : decode cc pc = .ok (.iaload, 1)) : e_Snd ft cl lay cc own nL nm MC MS pc (ei_ald lay false (pc + 1)) := ei_ald_ok (fun kd hk => by
  have e := Nat.eq_of_beq_eq_true hk
  subst e
  intro p l e R s m args below meth c C H locs cells slots Q ls rest D tys ws a q0 t0 n cA f i h1 h2 h3 h4 h5 k
  exact va_iald C.1.1 C.1.2.1 h1 h2 _ _ h3 h4 h5 d k)
theorem er_baload (d : decode cc pc = .ok (.baload, 1)) : e_Snd ft cl lay cc own nL nm MC MS pc (ei_ald lay true (pc + 1)) := ei_ald_ok (fun kd hk => by
  unfold x_akd at hk
  simp only [Bool.or_eq_true] at hk
  rcases hk with hk | hk
  · have e := Nat.eq_of_beq_eq_true hk
    subst e
    intro p l e R s m args below meth c C H locs cells slots Q ls rest D tys ws a q0 t0 n cA f i h1 h2 h3 h4 h5 k
    exact va_bald C.1.1 C.1.2.1 h1 h2 _ _ h3 h4 h5 d k
  · have e := Nat.eq_of_beq_eq_true hk
    subst e
    intro p l e R s m args below meth c C H locs cells slots Q ls rest D tys ws a q0 t0 n cA f i h1 h2 h3 h4 h5 k
    exact va_zald C.1.1 C.1.2.1 h1 h2 _ _ h3 h4 h5 d k)
theorem er_iastore (d : decode cc pc = .ok (.iastore, 1)) : e_Snd ft cl lay cc own nL nm MC MS pc (ei_ast lay false (pc + 1)) := ei_ast_ok (fun kd hk => by
  have e := Nat.eq_of_beq_eq_true hk
  subst e
  intro p l e R s m args below meth c C H H0 locs cells slots Q ls rest D A tys ws a q0 t0 n cA f i x h1 h2 h6 h7 h3 h4 h5 k
  exact va_iast C.1.1 C.1.2.1 h1 h2 h6 h7 _ _ h3 h4 h5 d k)
theorem er_bastore (d : decode cc pc = .ok (.bastore, 1)) : e_Snd ft cl lay cc own nL nm MC MS pc (ei_ast lay true (pc + 1)) := ei_ast_ok (fun kd hk => by
  unfold x_akd at hk
  simp only [Bool.or_eq_true] at hk
  rcases hk with hk | hk
  · have e := Nat.eq_of_beq_eq_true hk
    subst e
    intro p l e R s m args below meth c C H H0 locs cells slots Q ls rest D A tys ws a q0 t0 n cA f i x h1 h2 h6 h7 h3 h4 h5 k
    exact va_bast C.1.1 C.1.2.1 h1 h2 h6 h7 _ _ h3 h4 h5 d k
  · have e := Nat.eq_of_beq_eq_true hk
    subst e
    intro p l e R s m args below meth c C H H0 locs cells slots Q ls rest D A tys ws a q0 t0 n cA f i x h1 h2 h6 h7 h3 h4 h5 k
    exact va_zast C.1.1 C.1.2.1 h1 h2 h6 h7 _ _ h3 h4 h5 d k)
theorem er_putf {ci k ix N fk : Nat} {C : String} {T : u_T} {ty0 : Nat → FieldType} {ty : FieldType} (hc : cl[ci]? = some (C, T, N)) (hin : ∀ w ∈ u_ws C T N, w ∈ x_tbl) (hty : ∀ k, k < N → parseFieldDescriptor (T k).2.2.1 = some (ty0 k)) (hnm : ∀ a, a < N → ∀ b, b < N → a ≠ b → (T a).2.1 ≠ (T b).2.1) (hk : k < N) (hw : Cond.fieldLink own ix (T k).1 (T k).2.1 (T k).2.2.1 ∈ x_tbl) (hfin : (T k).2.2.2 = false) (hd : ty0 k = ty) (hv : ∀ v, x_pk fk v → narrow ty v = v ∧ fits ty v = true) (d : decode cc pc = .ok (.putfield ix, 3)) : e_Snd ft cl lay cc own nL nm MC MS pc (ei_putf ft lay ci k fk (pc + 3)) := ei_putf_ok (by
  intro p l e R s m args below meth c C1 H H0 locs cells slots Q ls rest D A tys ws a q0 fs v h1 h2 h3 h4 h5 h6 h7 kk
  exact va_put C1.1.1 C1.1.2.1 C1.1.2.2.2.2 hin ty0 hty hnm C1.1.2.2.2.1 h1 h2 h3 h4 q0 h5 hc k hk (C1.1.2.2.2.2 _ hw) (fun _ h => h) hfin (by rw [← hd]; exact hty k hk) (hv v h7).1 (hv v h7).2 h6 d kk)
def e_tswB (pc : Nat) (dflt lo : Int) (n : Nat) (offs : Array Int) (l : List (Int × Int × Nat)) : Bool := l.all (fun q => ((decide (q.2.1 < lo) || decide (lo + n ≤ q.1)) && decide ((pc : Int) + dflt = (q.2.2 : Int))) || (decide (q.1 = q.2.1) && (decide (lo ≤ q.1) && (decide (q.1 < lo + n) && decide (offs[(q.1 - lo).toNat]?.map (fun o => (pc : Int) + o) = some (q.2.2 : Int))))))
theorem er_tsw {dflt lo hi : Int} {offs : Array Int} {len n : Nat} {l : List (Int × Int × Nat)} (d : decode cc pc = .ok (.tableswitch dflt lo hi offs, len)) (hn : hi + 1 = lo + n) (h : e_tswB pc dflt lo n offs l = true) : e_Snd ft cl lay cc own nL nm MC MS pc (ei_sw l) := ei_sw_ok (fun x q hq q1 q2 => by
  have hq := List.all_eq_true.mp h q hq
  simp only [Bool.or_eq_true, Bool.and_eq_true, decide_eq_true_eq] at hq
  rcases hq with ⟨h1 | h1, h2⟩ | ⟨h1, h2, h3, h4⟩
  · have g : x.toInt < lo := by omega
    intro p l e R s m args below meth c S H locs cells slots Q ls rest k
    exact lv_tableOut S.1 S.2.1 d (Or.inl g) h2 k
  · have g : hi < x.toInt := by omega
    intro p l e R s m args below meth c S H locs cells slots Q ls rest k
    exact lv_tableOut S.1 S.2.1 d (Or.inr g) h2 k
  · have e : x.toInt = q.1 := by omega
    rw [← e] at h4
    cases ho : offs[(x.toInt - lo).toNat]? with
    | none => rw [ho] at h4; cases h4
    | some off =>
      rw [ho] at h4
      have g1 : ¬ x.toInt < lo := by omega
      have g2 : ¬ hi < x.toInt := by omega
      intro p l e R s m args below meth c S H locs cells slots Q ls rest k
      exact lv_tableIn S.1 S.2.1 d g1 g2 ho (Option.some.inj h4) k)
end E34
end
end
-- part 35
section
noncomputable section
/-! exact: the stack, the machine's own calls, null -/
def ef_dup (st : List eV) : Option (List eV) := match st with
  | x :: r => bif Nat.beq (e_ty x) 1 then none else some (x :: x :: r)
  | _ => none
def ef_pop (st : List eV) : Option (List eV) := match st with
  | x :: r => bif Nat.beq (e_ty x) 1 then none else some r
  | _ => none
def ef_dup2 (st : List eV) : Option (List eV) := match st with
  | x :: y :: r => bif Nat.beq (e_ty x) 1 || Nat.beq (e_ty y) 1 then none else some (x :: y :: x :: y :: r)
  | _ => none
def ef_dupx1 (st : List eV) : Option (List eV) := match st with
  | x :: y :: r => bif Nat.beq (e_ty x) 1 || Nat.beq (e_ty y) 1 then none else some (x :: y :: x :: r)
  | _ => none
def ef_dupx2 (st : List eV) : Option (List eV) := match st with
  | x :: y :: z :: r => bif Nat.beq (e_ty x) 1 || (Nat.beq (e_ty y) 1 || Nat.beq (e_ty z) 1) then none else some (x :: y :: z :: x :: r)
  | _ => none
theorem e_one {ad : List Nat} {x : eV} {v : Value} (h : e_rel ad x v) (hb : Nat.beq (e_ty x) 1 = false) : v.category = 1 := by
  rw [x_kd_cat (e_ty_ok h), if_neg (fun q => by rw [q] at hb; cases hb)]
section E35
variable {ft : Nat → Nat → Nat} {cl : List vw_C} {lay : List eY} {cc : ByteArray} {own : String} {nL : Nat} {nm : String} {MC MS pc nx : Nat}
theorem ef_dup_ok (hw : ∀ v : Value, v.category = 1 → x_Stk cc own nL pc nx [v] [v, v]) : e_Snd ft cl lay cc own nL nm MC MS pc (ei_stk ef_dup nx) := ei_stk_ok fun ad st st' stk h hr => by
  unfold ef_dup at h
  split at h
  · rename_i x r
    cases hb : Nat.beq (e_ty x) 1 with
    | true => rw [hb] at h; cases h
    | false =>
      rw [hb] at h
      cases h
      match stk, hr with
      | v :: rest, hr => exact ⟨[v], [v, v], rest, rfl, hw v (e_one hr.1 hb), hr.1, hr.1, hr.2⟩
  · cases h
theorem ef_pop_ok (hw : ∀ v : Value, v.category = 1 → x_Stk cc own nL pc nx [v] []) : e_Snd ft cl lay cc own nL nm MC MS pc (ei_stk ef_pop nx) := ei_stk_ok fun ad st st' stk h hr => by
  unfold ef_pop at h
  split at h
  · rename_i x r
    cases hb : Nat.beq (e_ty x) 1 with
    | true => rw [hb] at h; cases h
    | false =>
      rw [hb] at h
      cases h
      match stk, hr with
      | v :: rest, hr => exact ⟨[v], [], rest, rfl, hw v (e_one hr.1 hb), hr.2⟩
  · cases h
theorem ef_dup2_ok (hw : ∀ v u : Value, v.category = 1 → u.category = 1 → x_Stk cc own nL pc nx [v, u] [v, u, v, u]) : e_Snd ft cl lay cc own nL nm MC MS pc (ei_stk ef_dup2 nx) := ei_stk_ok fun ad st st' stk h hr => by
  unfold ef_dup2 at h
  split at h
  · rename_i x y r
    cases hb : (Nat.beq (e_ty x) 1 || Nat.beq (e_ty y) 1) with
    | true => rw [hb] at h; cases h
    | false =>
      rw [hb] at h
      cases h
      simp only [Bool.or_eq_false_iff] at hb
      match stk, hr with
      | v :: u :: rest, hr => exact ⟨[v, u], [v, u, v, u], rest, rfl, hw v u (e_one hr.1 hb.1) (e_one hr.2.1 hb.2), hr.1, hr.2.1, hr.1, hr.2.1, hr.2.2⟩
  · cases h
theorem ef_dupx1_ok (hw : ∀ v u : Value, v.category = 1 → u.category = 1 → x_Stk cc own nL pc nx [v, u] [v, u, v]) : e_Snd ft cl lay cc own nL nm MC MS pc (ei_stk ef_dupx1 nx) := ei_stk_ok fun ad st st' stk h hr => by
  unfold ef_dupx1 at h
  split at h
  · rename_i x y r
    cases hb : (Nat.beq (e_ty x) 1 || Nat.beq (e_ty y) 1) with
    | true => rw [hb] at h; cases h
    | false =>
      rw [hb] at h
      cases h
      simp only [Bool.or_eq_false_iff] at hb
      match stk, hr with
      | v :: u :: rest, hr => exact ⟨[v, u], [v, u, v], rest, rfl, hw v u (e_one hr.1 hb.1) (e_one hr.2.1 hb.2), hr.1, hr.2.1, hr.1, hr.2.2⟩
  · cases h
theorem ef_dupx2_ok (hw : ∀ v u w : Value, v.category = 1 → u.category = 1 → w.category = 1 → x_Stk cc own nL pc nx [v, u, w] [v, u, w, v]) : e_Snd ft cl lay cc own nL nm MC MS pc (ei_stk ef_dupx2 nx) := ei_stk_ok fun ad st st' stk h hr => by
  unfold ef_dupx2 at h
  split at h
  · rename_i x y z r
    cases hb : (Nat.beq (e_ty x) 1 || (Nat.beq (e_ty y) 1 || Nat.beq (e_ty z) 1)) with
    | true => rw [hb] at h; cases h
    | false =>
      rw [hb] at h
      cases h
      simp only [Bool.or_eq_false_iff] at hb
      match stk, hr with
      | v :: u :: w :: rest, hr => exact ⟨[v, u, w], [v, u, w, v], rest, rfl, hw v u w (e_one hr.1 hb.1) (e_one hr.2.1 hb.2.1) (e_one hr.2.2.1 hb.2.2), hr.1, hr.2.1, hr.2.2.1, hr.1, hr.2.2.2⟩
  · cases h
theorem er_dup (d : decode cc pc = .ok (.dup, 1)) : e_Snd ft cl lay cc own nL nm MC MS pc (ei_stk ef_dup (pc + 1)) := ef_dup_ok (fun v h => (fun S => fun k => lv_dup S.1 S.2.1 d h k))
theorem er_pop (d : decode cc pc = .ok (.pop, 1)) : e_Snd ft cl lay cc own nL nm MC MS pc (ei_stk ef_pop (pc + 1)) := ef_pop_ok (fun v h => (fun S => fun k => lv_pop S.1 S.2.1 d h k))
theorem er_dup2 (d : decode cc pc = .ok (.dup2, 1)) : e_Snd ft cl lay cc own nL nm MC MS pc (ei_stk ef_dup2 (pc + 1)) := ef_dup2_ok (fun v u h h' => (fun S => fun k => lv_dup2_11 S.1 S.2.1 d h h' k))
theorem er_dup_x1 (d : decode cc pc = .ok (.dup_x1, 1)) : e_Snd ft cl lay cc own nL nm MC MS pc (ei_stk ef_dupx1 (pc + 1)) := ef_dupx1_ok (fun v u h h' => (fun S => fun k => lv_dup_x1 S.1 S.2.1 d h h' k))
theorem er_dup_x2 (d : decode cc pc = .ok (.dup_x2, 1)) : e_Snd ft cl lay cc own nL nm MC MS pc (ei_stk ef_dupx2 (pc + 1)) := ef_dupx2_ok (fun v u w h h' h'' => (fun S => fun k => lv_dup_x2 S.1 S.2.1 d h h' h'' k))
/-- calls that the machine knows -/
def ei_m2 (F : Int → Int → Int) (nx : Nat) : eS → Option eS := fun t => match t.2.2.1 with
  | (0, y) :: (0, x) :: r => bif Nat.ble (e_cats r) 8 then some (nx, t.2.1, (0, F x y) :: r, t.2.2.2) else none
  | _ => none
def ei_abs (nx : Nat) : eS → Option eS := fun t => match t.2.2.1 with
  | (0, x) :: r => bif Nat.ble (e_cats r) 8 then some (nx, t.2.1, (0, bif decide (0 ≤ x) then x else e32 (-x)) :: r, t.2.2.2) else none
  | _ => none
def eM_min (x y : Int) : Int := bif decide (y < x) then y else x
def eM_max (x y : Int) : Int := bif decide (x < y) then y else x
theorem er_min {ix : Nat} (hl : Cond.methodLink own ix Lib.Math.min.name ∈ x_tbl) (hst : Cond.static Lib.Math.min.name ∈ x_tbl) (hi : Cond.initialized "java/lang/Math" ∈ x_tbl) (hc : Cond.code Lib.Math.min.name Lib.Math.min.code 2 (some .int) ∈ x_tbl) (d : decode cc pc = .ok (.invokestatic ix, 3)) : e_Snd ft cl lay cc own nL nm MC MS pc (ei_m2 eM_min (pc + 3)) := by
  intro ad ce sl p l e R s m args below meth c D A H0 Q C hce hsl hA t t' hpc hf hg
  unfold ei_m2 at hf
  split at hf
  · rename_i y x r hst'
    cases hb : Nat.ble (e_cats r) 8 with
    | false => rw [hb] at hf; cases hf
    | true =>
      rw [hb] at hf
      cases hf
      have b1 := Nat.le_of_ble_eq_true hb
      subst hpc
      intro ls stk H locs ⟨lv, ws, tys, h1, h2, h3, h4⟩
      rw [hst'] at h3
      match stk, h3 with
      | v1 :: v2 :: rest, h3 =>
        obtain ⟨ny, rfl, rfl⟩ := e_int h3.1
        obtain ⟨nx', rfl, rfl⟩ := e_int h3.2.1
        have hcat := (e_cats_ok h3.2.2).1
        have hts := C.1.2.2.2.2
        refine va_mmin C.1.1 C.1.2.1 (by rw [C.1.2.2.1, h1.1]) C.1.2.2.2.1 (hts _ hl) (hts _ hst) (hts _ hi) (hts _ hc) C.2.2.2.2.1 (by have := C.2.2.2.2.2.1; omega) (by rw [C.2.2.1]; exact hce) (by rw [C.2.2.2.1]; exact hsl) d (hg ls (.int (if ny < nx' then ny else nx') :: rest) H locs ⟨lv, ws, tys, h1, h2, ⟨⟨_, rfl, ?_⟩, h3.2.2⟩, h4⟩)
        show _ = eM_min _ _
        unfold eM_min
        by_cases hlt : ny < nx'
        · rw [if_pos hlt, decide_eq_true (x_lt32.mp hlt)]; rfl
        · rw [if_neg hlt, decide_eq_false (fun q => hlt (x_lt32.mpr q))]; rfl
  · cases hf
theorem er_max {ix : Nat} (hl : Cond.methodLink own ix Lib.Math.max.name ∈ x_tbl) (hst : Cond.static Lib.Math.max.name ∈ x_tbl) (hi : Cond.initialized "java/lang/Math" ∈ x_tbl) (hc : Cond.code Lib.Math.max.name Lib.Math.max.code 2 (some .int) ∈ x_tbl) (d : decode cc pc = .ok (.invokestatic ix, 3)) : e_Snd ft cl lay cc own nL nm MC MS pc (ei_m2 eM_max (pc + 3)) := by
  intro ad ce sl p l e R s m args below meth c D A H0 Q C hce hsl hA t t' hpc hf hg
  unfold ei_m2 at hf
  split at hf
  · rename_i y x r hst'
    cases hb : Nat.ble (e_cats r) 8 with
    | false => rw [hb] at hf; cases hf
    | true =>
      rw [hb] at hf
      cases hf
      have b1 := Nat.le_of_ble_eq_true hb
      subst hpc
      intro ls stk H locs ⟨lv, ws, tys, h1, h2, h3, h4⟩
      rw [hst'] at h3
      match stk, h3 with
      | v1 :: v2 :: rest, h3 =>
        obtain ⟨ny, rfl, rfl⟩ := e_int h3.1
        obtain ⟨nx', rfl, rfl⟩ := e_int h3.2.1
        have hcat := (e_cats_ok h3.2.2).1
        have hts := C.1.2.2.2.2
        refine va_mmax C.1.1 C.1.2.1 (by rw [C.1.2.2.1, h1.1]) C.1.2.2.2.1 (hts _ hl) (hts _ hst) (hts _ hi) (hts _ hc) C.2.2.2.2.1 (by have := C.2.2.2.2.2.1; omega) (by rw [C.2.2.1]; exact hce) (by rw [C.2.2.2.1]; exact hsl) d (hg ls (.int (if nx' < ny then ny else nx') :: rest) H locs ⟨lv, ws, tys, h1, h2, ⟨⟨_, rfl, ?_⟩, h3.2.2⟩, h4⟩)
        show _ = eM_max _ _
        unfold eM_max
        by_cases hlt : nx' < ny
        · rw [if_pos hlt, decide_eq_true (x_lt32.mp hlt)]; rfl
        · rw [if_neg hlt, decide_eq_false (fun q => hlt (x_lt32.mpr q))]; rfl
  · cases hf
theorem er_abs {ix : Nat} (hl : Cond.methodLink own ix Lib.Math.abs.name ∈ x_tbl) (hst : Cond.static Lib.Math.abs.name ∈ x_tbl) (hi : Cond.initialized "java/lang/Math" ∈ x_tbl) (hc : Cond.code Lib.Math.abs.name Lib.Math.abs.code 1 (some .int) ∈ x_tbl) (d : decode cc pc = .ok (.invokestatic ix, 3)) : e_Snd ft cl lay cc own nL nm MC MS pc (ei_abs (pc + 3)) := by
  intro ad ce sl p l e R s m args below meth c D A H0 Q C hce hsl hA t t' hpc hf hg
  unfold ei_abs at hf
  split at hf
  · rename_i x r hst'
    cases hb : Nat.ble (e_cats r) 8 with
    | false => rw [hb] at hf; cases hf
    | true =>
      rw [hb] at hf
      cases hf
      have b1 := Nat.le_of_ble_eq_true hb
      subst hpc
      intro ls stk H locs ⟨lv, ws, tys, h1, h2, h3, h4⟩
      rw [hst'] at h3
      match stk, h3 with
      | v2 :: rest, h3 =>
        obtain ⟨nx', rfl, rfl⟩ := e_int h3.1
        have hcat := (e_cats_ok h3.2).1
        have hts := C.1.2.2.2.2
        refine va_mabs C.1.1 C.1.2.1 (by rw [C.1.2.2.1, h1.1]) C.1.2.2.2.1 (hts _ hl) (hts _ hst) (hts _ hi) (hts _ hc) C.2.2.2.2.1 (by have := C.2.2.2.2.2.1; omega) (by rw [C.2.2.1]; exact hce) (by rw [C.2.2.2.1]; exact hsl) d (hg ls (.int (if 0 ≤ nx' then nx' else 0 - nx') :: rest) H locs ⟨lv, ws, tys, h1, h2, ⟨⟨_, rfl, ?_⟩, h3.2⟩, h4⟩)
        show _ = bif decide (0 ≤ nx'.toInt) then nx'.toInt else e32 (-nx'.toInt)
        by_cases hle : 0 ≤ nx'
        · rw [if_pos hle, decide_eq_true (x_ge0.mp hle)]; rfl
        · rw [if_neg hle, decide_eq_false (fun q => hle (x_ge0.mpr q))]
          rw [Int32.toInt_sub, x_z, Int.zero_sub]
          rfl
  · cases hf
/-- null, or a cell -/
def ei_null (tg nx : Nat) : eS → Option eS := fun t => match t.2.2.1 with
  | (2, _) :: r => some (tg, t.2.1, r, t.2.2.2)
  | (1, _) :: r => some (nx, t.2.1, r, t.2.2.2)
  | _ => none
theorem er_ifnull {off : Int} {tg : Nat} (d : decode cc pc = .ok (.ifnull off, 3)) (ht : (pc : Int) + off = (tg : Int)) : e_Snd ft cl lay cc own nL nm MC MS pc (ei_null tg (pc + 3)) := by
  intro ad ce sl p l e R s m args below meth c D A H0 Q C hce hsl hA t t' hpc hf hg
  unfold ei_null at hf
  split at hf
  · rename_i b r hst
    cases hf
    subst hpc
    intro ls stk H locs ⟨lv, ws, tys, h1, h2, h3, h4⟩
    rw [hst] at h3
    match stk, h3 with
    | v :: rest, h3 =>
      have hv : v = .null := h3.1
      subst hv
      exact lv_ifnullN C.1.1 C.1.2.1 d ht (hg ls rest H locs ⟨lv, ws, tys, h1, h2, h3.2, h4⟩)
  · rename_i b r hst
    cases hf
    subst hpc
    intro ls stk H locs ⟨lv, ws, tys, h1, h2, h3, h4⟩
    rw [hst] at h3
    match stk, h3 with
    | v :: rest, h3 =>
      obtain ⟨-, a, -, rfl⟩ := h3.1
      exact lv_ifnull C.1.1 C.1.2.1 d (hg ls rest H locs ⟨lv, ws, tys, h1, h2, h3.2, h4⟩)
  · cases hf
theorem er_i2c (d : decode cc pc = .ok (.i2c, 1)) : e_Snd ft cl lay cc own nL nm MC MS pc (ei_un (fun x => (0, ((Int32.ofInt x).toUInt32 % 65536).toInt32.toInt)) (pc + 1)) := ei_un_ok (g := fun x => .int (x.toUInt32 % 65536).toInt32) (fun x => (fun S => fun k => lv_i2c S.1 S.2.1 d rfl k)) (fun x ad => e_c (z := ((Int32.ofInt x.toInt).toUInt32 % 65536).toInt32.toInt) (by rw [Int32.ofInt_toInt]) ad)
def eG_and (x y : Int) : Option eV := some (4, (Int64.ofInt x &&& Int64.ofInt y).toInt)
theorem er_land (d : decode cc pc = .ok (.land, 1)) : e_Snd ft cl lay cc own nL nm MC MS pc (ei_binL eG_and (pc + 1)) := ei_binL_ok (g := fun x y => .long (x &&& y)) (fun _ => True) (fun x y _ => (fun S => fun k => lv_land S.1 S.2.1 d k)) (fun x y z h => ⟨trivial, fun ad => by
  unfold eG_and at h
  rw [Int64.ofInt_toInt, Int64.ofInt_toInt] at h
  cases h
  exact e_cL rfl ad⟩)
def eG_div (x y : Int) : Option eV := bif decide (y = 0) then none else some (4, e64 (x.tdiv y))
theorem er_ldiv (d : decode cc pc = .ok (.ldiv, 1)) : e_Snd ft cl lay cc own nL nm MC MS pc (ei_binL eG_div (pc + 1)) := ei_binL_ok (g := fun x y => .long (x / y)) (fun y => ¬ y = 0) (fun x y hy => (fun S => fun k => lv_ldiv S.1 S.2.1 d hy k)) (fun x y z h => by
  unfold eG_div at h
  cases hb : decide (y.toInt = 0) with
  | true => rw [hb] at h; cases h
  | false =>
    rw [hb] at h
    cases h
    refine ⟨fun e => ?_, fun ad => e_cL (Int64.toInt_div x y) ad⟩
    subst e
    have : (0 : Int64).toInt = 0 := by decide
    simp [this] at hb)
theorem ni_m2 {lay : List eY} {F : Int → Int → Int} {nx : Nat} : e_NI lay (ei_m2 F nx) := e_NI.stk (fun st => match st with
  | (0, y) :: (0, x) :: r => bif Nat.ble (e_cats r) 8 then some (nx, (0, F x y) :: r) else none
  | _ => none) (fun t => by
    unfold ei_m2
    split
    · rename_i y x r h
      cases hb : Nat.ble (e_cats r) 8 <;> simp [*]
    · rfl)
theorem ni_abs {lay : List eY} {nx : Nat} : e_NI lay (ei_abs nx) := e_NI.stk (fun st => match st with
  | (0, x) :: r => bif Nat.ble (e_cats r) 8 then some (nx, (0, bif decide (0 ≤ x) then x else e32 (-x)) :: r) else none
  | _ => none) (fun t => by
    unfold ei_abs
    split
    · rename_i x r h
      cases hb : Nat.ble (e_cats r) 8 <;> simp [*]
    · rfl)
theorem ni_null {lay : List eY} {tg nx : Nat} : e_NI lay (ei_null tg nx) := e_NI.stk (fun st => match st with
  | (2, _) :: r => some (tg, r)
  | (1, _) :: r => some (nx, r)
  | _ => none) (fun t => by
    unfold ei_null
    split <;> simp [*])
end E35
end
end
-- part 35b
section
noncomputable section
/-! the same of calls that the machine knows, of stack instructions -/
section E35b
variable {ft : Nat → Nat → Nat} {lay : List eY}
theorem nx_m2 {F : Int → Int → Int} {nx : Nat} : e_NI lay (ei_m2 F nx) ∧ e_IN ft lay (ei_m2 F nx) := ⟨ni_m2, fun _ B _ t t' ht hI => by
  obtain ⟨p, l, st, w⟩ := t
  unfold ei_m2 at ht
  simp only at ht
  split at ht
  · rename_i y x r
    cases hb : Nat.ble (e_cats r) 8 with
    | false => rw [hb] at ht; cases ht
    | true =>
      rw [hb] at ht
      cases ht
      refine hI.same (fun v hv => ?_)
      rcases List.mem_cons.mp hv with rfl | hv
      · exact Or.inr (Or.inl (show (0 : Nat) ≠ 1 by decide))
      · exact Or.inl (List.mem_cons_of_mem _ (List.mem_cons_of_mem _ (hv)))
  · cases ht⟩
theorem nx_abs {nx : Nat} : e_NI lay (ei_abs nx) ∧ e_IN ft lay (ei_abs nx) := ⟨ni_abs, fun _ B _ t t' ht hI => by
  obtain ⟨p, l, st, w⟩ := t
  unfold ei_abs at ht
  simp only at ht
  split at ht
  · rename_i x r
    cases hb : Nat.ble (e_cats r) 8 with
    | false => rw [hb] at ht; cases ht
    | true =>
      rw [hb] at ht
      cases ht
      refine hI.same (fun v hv => ?_)
      rcases List.mem_cons.mp hv with rfl | hv
      · exact Or.inr (Or.inl (show (0 : Nat) ≠ 1 by decide))
      · exact Or.inl (List.mem_cons_of_mem _ (hv))
  · cases ht⟩
theorem nx_null {tg nx : Nat} : e_NI lay (ei_null tg nx) ∧ e_IN ft lay (ei_null tg nx) := ⟨ni_null, fun _ B _ t t' ht hI => by
  obtain ⟨p, l, st, w⟩ := t
  unfold ei_null at ht
  simp only at ht
  split at ht
  · cases ht
    exact hI.same (fun v hv => Or.inl (List.mem_cons_of_mem _ hv))
  · cases ht
    exact hI.same (fun v hv => Or.inl (List.mem_cons_of_mem _ hv))
  · cases ht⟩
theorem bG_ladd : ∀ x y z, eG_add x y = some z → z.1 ≠ 1 := fun x y z h => by cases h; exact (show (4 : Nat) ≠ 1 by decide)
theorem bG_lsub : ∀ x y z, eG_sub x y = some z → z.1 ≠ 1 := fun x y z h => by cases h; exact (show (4 : Nat) ≠ 1 by decide)
theorem bG_lmul : ∀ x y z, eG_mul x y = some z → z.1 ≠ 1 := fun x y z h => by cases h; exact (show (4 : Nat) ≠ 1 by decide)
theorem bG_land : ∀ x y z, eG_and x y = some z → z.1 ≠ 1 := fun x y z h => by cases h; exact (show (4 : Nat) ≠ 1 by decide)
theorem bG_lcmp : ∀ x y z, eG_cmp x y = some z → z.1 ≠ 1 := fun x y z h => by cases h; exact (show (0 : Nat) ≠ 1 by decide)
theorem bG_ldiv : ∀ x y z, eG_div x y = some z → z.1 ≠ 1 := fun x y z h => by
  unfold eG_div at h
  cases hb : decide (y = 0) with
  | true => rw [hb] at h; cases h
  | false => rw [hb] at h; cases h; exact (show (4 : Nat) ≠ 1 by decide)
theorem bf_dup : ∀ st s, ef_dup st = some s → ∀ x ∈ s, x ∈ st := fun st s h x hx => by
  unfold ef_dup at h
  split at h
  · rename_i a r
    cases hb : (Nat.beq (e_ty a) 1) with
    | true => rw [hb] at h; cases h
    | false =>
      rw [hb] at h
      cases h
      simp only [List.mem_cons] at hx ⊢
      rcases hx with h | h | h
      · exact Or.inl h
      · exact Or.inl h
      · exact Or.inr h
  · cases h
theorem bf_pop : ∀ st s, ef_pop st = some s → ∀ x ∈ s, x ∈ st := fun st s h x hx => by
  unfold ef_pop at h
  split at h
  · rename_i a r
    cases hb : Nat.beq (e_ty a) 1 with
    | true => rw [hb] at h; cases h
    | false =>
      rw [hb] at h
      cases h
      exact List.mem_cons_of_mem _ hx
  · cases h
theorem bf_dup2 : ∀ st s, ef_dup2 st = some s → ∀ x ∈ s, x ∈ st := fun st s h x hx => by
  unfold ef_dup2 at h
  split at h
  · rename_i a b r
    cases hb : (Nat.beq (e_ty a) 1 || Nat.beq (e_ty b) 1) with
    | true => rw [hb] at h; cases h
    | false =>
      rw [hb] at h
      cases h
      simp only [List.mem_cons] at hx ⊢
      rcases hx with h | h | h | h | h
      · exact Or.inl h
      · exact Or.inr (Or.inl h)
      · exact Or.inl h
      · exact Or.inr (Or.inl h)
      · exact Or.inr (Or.inr h)
  · cases h
theorem bf_dupx1 : ∀ st s, ef_dupx1 st = some s → ∀ x ∈ s, x ∈ st := fun st s h x hx => by
  unfold ef_dupx1 at h
  split at h
  · rename_i a b r
    cases hb : (Nat.beq (e_ty a) 1 || Nat.beq (e_ty b) 1) with
    | true => rw [hb] at h; cases h
    | false =>
      rw [hb] at h
      cases h
      simp only [List.mem_cons] at hx ⊢
      rcases hx with h | h | h | h
      · exact Or.inl h
      · exact Or.inr (Or.inl h)
      · exact Or.inl h
      · exact Or.inr (Or.inr h)
  · cases h
theorem bf_dupx2 : ∀ st s, ef_dupx2 st = some s → ∀ x ∈ s, x ∈ st := fun st s h x hx => by
  unfold ef_dupx2 at h
  split at h
  · rename_i a b c r
    cases hb : (Nat.beq (e_ty a) 1 || (Nat.beq (e_ty b) 1 || Nat.beq (e_ty c) 1)) with
    | true => rw [hb] at h; cases h
    | false =>
      rw [hb] at h
      cases h
      simp only [List.mem_cons] at hx ⊢
      rcases hx with h | h | h | h | h
      · exact Or.inl h
      · exact Or.inr (Or.inl h)
      · exact Or.inr (Or.inr (Or.inl h))
      · exact Or.inl h
      · exact Or.inr (Or.inr (Or.inr h))
  · cases h
end E35b
end
end
-- part 36
section
noncomputable section
/-! helps for contracts: an instruction, a rule; what it leaves on the stack is named -/
section E36
variable {fd : Nat} {ft : Nat → Nat → Nat} {lay : List eY} {code : Nat → Nat → eE} {I : Nat → xM} {d M k tg nx a b p n ci : Nat} {l : eL} {r : List eV} {w : eW} {Q : List eV → eW → Prop}
theorem e_Ok.if2 {x y : Int} (hc : code M p = (0, ei_if2 k tg nx, a, b)) (ht : x_cnd k x y → e_Ok fd lay code I d M (tg, l, r, w) Q) (hf : ¬ x_cnd k x y → e_Ok fd lay code I d M (nx, l, r, w) Q) : e_Ok fd lay code I d M (p, l, (0, y) :: (0, x) :: r, w) Q := by
  by_cases h : x_cnd k x y
  · exact e_Ok.step hc (e_if2_t h) (ht h)
  · exact e_Ok.step hc (e_if2_f h) (hf h)
theorem e_Ok.if1 {x : Int} (hc : code M p = (0, ei_if1 k tg nx, a, b)) (ht : x_cnd k x 0 → e_Ok fd lay code I d M (tg, l, r, w) Q) (hf : ¬ x_cnd k x 0 → e_Ok fd lay code I d M (nx, l, r, w) Q) : e_Ok fd lay code I d M (p, l, (0, x) :: r, w) Q := by
  by_cases h : x_cnd k x 0
  · exact e_Ok.step hc (e_if1_t h) (ht h)
  · exact e_Ok.step hc (e_if1_f h) (hf h)
theorem e_okz_of {z : Int} (h : -2147483648 ≤ z ∧ z ≤ 2147483647) : e_okz z = true := by
  unfold e_okz
  simp [h.1, h.2]
/-- an int field is read -/
theorem e_Ok.getf {c z : Int} (hc : code M p = (0, ei_getf ft lay ci k nx, a, b)) (hl : lay[c.toNat]? = some (0, ci, n)) (hk : Nat.ble (k + 1) n = true) (hf : ft ci k = 0) (hz : w c k = z) (h1 : -2147483648 ≤ z ∧ z ≤ 2147483647) (h : e_Ok fd lay code I d M (nx, l, (0, z) :: r, w) Q) : e_Ok fd lay code I d M (p, l, (1, c) :: r, w) Q := by
  refine e_Ok.step hc ?_ h
  subst hz
  unfold ei_getf
  simp only [hl, Nat.beq_refl, hk, e_okz_of h1, Bool.and_self, cond_true, hf]
  rfl
/-- a field that holds a cell -/
theorem e_Ok.getr {c z : Int} (hc : code M p = (0, ei_getf ft lay ci k nx, a, b)) (hl : lay[c.toNat]? = some (0, ci, n)) (hk : Nat.ble (k + 1) n = true) (hf : ft ci k = 1) (hz : w c k = z) (h1 : 0 ≤ z ∧ z ≤ 2147483647) (h : e_Ok fd lay code I d M (nx, l, (1, z) :: r, w) Q) : e_Ok fd lay code I d M (p, l, (1, c) :: r, w) Q := by
  refine e_Ok.step hc ?_ h
  subst hz
  unfold ei_getf
  simp only [hl, Nat.beq_refl, hk, e_okz_of (show _ from ⟨by omega, h1.2⟩), Bool.and_self, cond_true, hf, e_rd]
  rw [decide_eq_false (by omega)]
  rfl
/-- an int field is written -/
theorem e_Ok.putf {c z : Int} (hc : code M p = (0, ei_putf ft lay ci k 0 nx, a, b)) (hl : lay[c.toNat]? = some (0, ci, n)) (hk : Nat.ble (k + 1) n = true) (hf : ft ci k = 0) (h : e_Ok fd lay code I d M (nx, l, r, e_up w c k z) Q) : e_Ok fd lay code I d M (p, l, (0, z) :: (1, c) :: r, w) Q := by
  refine e_Ok.step hc ?_ h
  unfold ei_putf
  simp only [hl, Nat.beq_refl, hk, hf, e_wr]
  rfl
/-- a boolean one -/
theorem e_Ok.putb {c z : Int} (hc : code M p = (0, ei_putf ft lay ci k 1 nx, a, b)) (hl : lay[c.toNat]? = some (0, ci, n)) (hk : Nat.ble (k + 1) n = true) (hf : ft ci k = 0) (hz : 0 ≤ z ∧ z ≤ 1) (h : e_Ok fd lay code I d M (nx, l, r, e_up w c k z) Q) : e_Ok fd lay code I d M (p, l, (0, z) :: (1, c) :: r, w) Q := by
  refine e_Ok.step hc ?_ h
  unfold ei_putf e_pk
  simp only [hl, Nat.beq_refl, hk, hf, e_wr, decide_eq_true hz.1, decide_eq_true hz.2, Bool.and_self, cond_true]
/-- a reference -/
theorem e_Ok.putr {c z : Int} (hc : code M p = (0, ei_putf ft lay ci k 2 nx, a, b)) (hl : lay[c.toNat]? = some (0, ci, n)) (hk : Nat.ble (k + 1) n = true) (hf : ft ci k = 1) (hz : 0 ≤ z) (h : e_Ok fd lay code I d M (nx, l, r, e_up w c k z) Q) : e_Ok fd lay code I d M (p, l, (1, z) :: (1, c) :: r, w) Q := by
  refine e_Ok.step hc ?_ h
  unfold ei_putf
  simp only [hl, Nat.beq_refl, hk, hf, e_wr, decide_eq_true hz, cond_true]
  rfl
/-- a place of an array is read -/
theorem e_Ok.ald {c i z : Int} {b' : Bool} {kd c' : Nat} (hc : code M p = (0, ei_ald lay b' nx, a, b)) (hl : lay[c.toNat]? = some (kd, c', n)) (hk : x_akd b' kd = true) (h0 : 0 ≤ i ∧ i < n) (hz : w c i = z) (h1 : -2147483648 ≤ z ∧ z ≤ 2147483647) (h : e_Ok fd lay code I d M (nx, l, (0, z) :: r, w) Q) : e_Ok fd lay code I d M (p, l, (0, i) :: (1, c) :: r, w) Q := by
  refine e_Ok.step hc ?_ h
  subst hz
  unfold ei_ald
  simp only [hl, hk, decide_eq_true h0.1, decide_eq_true h0.2, e_okz_of h1, Bool.and_self, cond_true]
theorem e_Ok.aald {c i z : Int} {kd c' : Nat} (hc : code M p = (0, ei_aald lay nx, a, b)) (hl : lay[c.toNat]? = some (kd, c', n)) (hk : (Nat.beq kd 5 || Nat.beq kd 6) = true) (h0 : 0 ≤ i ∧ i < n) (hz : w c i = z) (h1 : 0 ≤ z ∧ z ≤ 2147483647) (h : e_Ok fd lay code I d M (nx, l, (1, z) :: r, w) Q) : e_Ok fd lay code I d M (p, l, (0, i) :: (1, c) :: r, w) Q := by
  refine e_Ok.step hc ?_ h
  subst hz
  unfold ei_aald
  simp only [hl, hk, decide_eq_true h0.1, decide_eq_true h0.2, e_okz_of (show _ from ⟨by omega, h1.2⟩), Bool.and_self, cond_true, e_rd]
  rw [decide_eq_false (by omega)]
  rfl
/-- one is written -/
theorem e_Ok.ast {c i x z : Int} {b' : Bool} {kd c' : Nat} (hc : code M p = (0, ei_ast lay b' nx, a, b)) (hl : lay[c.toNat]? = some (kd, c', n)) (hk : x_akd b' kd = true) (hz : e_nar kd x = some z) (h0 : 0 ≤ i ∧ i < n) (h : e_Ok fd lay code I d M (nx, l, r, e_up w c i z) Q) : e_Ok fd lay code I d M (p, l, (0, x) :: (0, i) :: (1, c) :: r, w) Q := by
  refine e_Ok.step hc ?_ h
  unfold ei_ast
  simp only [hl, hz, hk, decide_eq_true h0.1, decide_eq_true h0.2, Bool.and_self, cond_true]
theorem e_nar_b {z : Int} (h : 0 ≤ z ∧ z ≤ 1) : e_nar 3 z = some z := by
  unfold e_nar
  simp [h.1, h.2]
/-- sums and the like that stay in their bounds -/
theorem e_Ok.add {x y z : Int} (hc : code M p = (0, ei_bin eF_add nx, a, b)) (hz : x + y = z) (h1 : -2147483648 ≤ z ∧ z ≤ 2147483647) (h : e_Ok fd lay code I d M (nx, l, (0, z) :: r, w) Q) : e_Ok fd lay code I d M (p, l, (0, y) :: (0, x) :: r, w) Q := by
  refine e_Ok.step hc ?_ h
  show some _ = some _
  rw [hz, e32_id h1.1 h1.2]
theorem e_Ok.sub' {x y z : Int} (hc : code M p = (0, ei_bin eF_sub nx, a, b)) (hz : x - y = z) (h1 : -2147483648 ≤ z ∧ z ≤ 2147483647) (h : e_Ok fd lay code I d M (nx, l, (0, z) :: r, w) Q) : e_Ok fd lay code I d M (p, l, (0, y) :: (0, x) :: r, w) Q := by
  refine e_Ok.step hc ?_ h
  show some _ = some _
  rw [hz, e32_id h1.1 h1.2]
theorem e_Ok.mul {x y z : Int} (hc : code M p = (0, ei_bin eF_mul nx, a, b)) (hz : x * y = z) (h1 : -2147483648 ≤ z ∧ z ≤ 2147483647) (h : e_Ok fd lay code I d M (nx, l, (0, z) :: r, w) Q) : e_Ok fd lay code I d M (p, l, (0, y) :: (0, x) :: r, w) Q := by
  refine e_Ok.step hc ?_ h
  show some _ = some _
  rw [hz, e32_id h1.1 h1.2]
/-- an int comes, nothing more is known than that -/
theorem e32_in (z : Int) : -2147483648 ≤ e32 z ∧ e32 z ≤ 2147483647 := by
  unfold e32
  have h1 := Int.le_bmod (x := z) (m := 4294967296) (by decide)
  have h2 := Int.bmod_lt (x := z) (m := 4294967296) (by decide)
  constructor <;> omega
theorem e_Ok.any {F : Int → Int → Option Int} {x y : Int} (hc : code M p = (0, ei_bin F nx, a, b)) (hF : ∃ z, F x y = some z ∧ -2147483648 ≤ z ∧ z ≤ 2147483647) (h : ∀ z, -2147483648 ≤ z → z ≤ 2147483647 → e_Ok fd lay code I d M (nx, l, (0, z) :: r, w) Q) : e_Ok fd lay code I d M (p, l, (0, y) :: (0, x) :: r, w) Q := by
  obtain ⟨z, h1, h2, h3⟩ := hF
  refine e_Ok.step hc ?_ (h z h2 h3)
  show (match F x y with | some z => _ | none => none) = _
  rw [h1]
theorem eF_add_any (x y : Int) : ∃ z, eF_add x y = some z ∧ -2147483648 ≤ z ∧ z ≤ 2147483647 := ⟨_, rfl, e32_in _⟩
theorem eF_sub_any (x y : Int) : ∃ z, eF_sub x y = some z ∧ -2147483648 ≤ z ∧ z ≤ 2147483647 := ⟨_, rfl, e32_in _⟩
theorem eF_mul_any (x y : Int) : ∃ z, eF_mul x y = some z ∧ -2147483648 ≤ z ∧ z ≤ 2147483647 := ⟨_, rfl, e32_in _⟩
theorem eF_div_any {x y : Int} (h : y ≠ 0) : ∃ z, eF_div x y = some z ∧ -2147483648 ≤ z ∧ z ≤ 2147483647 := ⟨e32 (x.tdiv y), by unfold eF_div; rw [decide_eq_false h]; rfl, e32_in _⟩
theorem eF_rem_any {x y : Int} (h : y ≠ 0) : ∃ z, eF_rem x y = some z ∧ -2147483648 ≤ z ∧ z ≤ 2147483647 := ⟨_, by unfold eF_rem; rw [decide_eq_false h]; rfl, e32_in _⟩
theorem eB_any {g : Int32 → Int32 → Int32} (x y : Int) : ∃ z, eB g x y = some z ∧ -2147483648 ≤ z ∧ z ≤ 2147483647 := ⟨_, rfl, Int32.le_toInt _, Int32.toInt_le _⟩
/-- longs: nothing is known -/
theorem e_Ok.anyL {F : Int → Int → Option eV} {x y : Int} (hc : code M p = (0, ei_binL F nx, a, b)) (hF : ∃ z, F x y = some (4, z)) (h : ∀ z, e_Ok fd lay code I d M (nx, l, (4, z) :: r, w) Q) : e_Ok fd lay code I d M (p, l, (4, y) :: (4, x) :: r, w) Q := by
  obtain ⟨z, h1⟩ := hF
  refine e_Ok.step hc ?_ (h z)
  show (match F x y with | some z => _ | none => none) = _
  rw [h1]
theorem e_Ok.anyS {F : Int → Int → Option Int} {x y : Int} (hc : code M p = (0, ei_shL F nx, a, b)) (hF : ∃ z, F x y = some z) (h : ∀ z, e_Ok fd lay code I d M (nx, l, (4, z) :: r, w) Q) : e_Ok fd lay code I d M (p, l, (0, y) :: (4, x) :: r, w) Q := by
  obtain ⟨z, h1⟩ := hF
  refine e_Ok.step hc ?_ (h z)
  show (match F x y with | some z => _ | none => none) = _
  rw [h1]
/-- two longs compared: -1, 0 or 1 -/
theorem e_Ok.lcmp {x y : Int} (hc : code M p = (0, ei_binL eG_cmp nx, a, b)) (h : ∀ z : Int, (x < y → z = -1) → (x = y → z = 0) → (y < x → z = 1) → e_Ok fd lay code I d M (nx, l, (0, z) :: r, w) Q) : e_Ok fd lay code I d M (p, l, (4, y) :: (4, x) :: r, w) Q := by
  refine e_Ok.step hc rfl (h _ (fun q => ?_) (fun q => ?_) (fun q => ?_))
  · rw [decide_eq_true q]; rfl
  · rw [decide_eq_false (by omega), decide_eq_true q]; rfl
  · rw [decide_eq_false (by omega), decide_eq_false (by omega)]; rfl
/-- a local counts on -/
theorem e_Ok.inc {i : Nat} {n' x z : Int} (hc : code M p = (0, ei_inc i n' nx, a, b)) (hx : e_find l i = some (0, x)) (hz : x + n' = z) (h1 : -2147483648 ≤ z ∧ z ≤ 2147483647) (h : e_Ok fd lay code I d M (nx, (i, (0, z)) :: l.filter (e_flt 0 i), r, w) Q) : e_Ok fd lay code I d M (p, l, r, w) Q := by
  refine e_Ok.step hc ?_ h
  unfold ei_inc
  simp only [hx]
  rw [hz, e32_id h1.1 h1.2]
end E36
end
end
-- part 37
section
noncomputable section
/-! from a picture to exact contents -/
/-- what a picture's value says of a number -/
def e_of (x : xV) (z : Int) : Prop := match x.1 with
  | 0 => x.2.1 ≤ z ∧ z ≤ x.2.2
  | 1 => z = x.2.1
  | 2 => z = -1
  | _ => False
/-- a picture's value fits a slot of kind fk -/
def e_fit (fk : Nat) (x : xV) : Bool := match fk with
  | 0 => Nat.beq x.1 0
  | _ => Nat.beq x.1 2 || (Nat.beq x.1 1 && decide (0 ≤ x.2.1))
theorem e_fit_ok {ad : List Nat} {V : List Int} {sc : Nat × Nat × List Nat} {fk : Nat} {x : xV} {v : Value} (h : e_fit fk x = true) (hr : x_rel ad V sc x v) : ∃ z, e_slot ad fk z v ∧ e_of x z := by
  obtain ⟨t, a, b⟩ := x
  unfold e_fit at h
  unfold e_slot
  split at h
  · have e := Nat.eq_of_beq_eq_true h
    simp only at e
    subst e
    obtain ⟨n, rfl, h1, h2⟩ := hr
    exact ⟨n.toInt, ⟨n, rfl, rfl⟩, h1, h2⟩
  · rename_i n0
    simp only [Bool.or_eq_true, Bool.and_eq_true, decide_eq_true_eq] at h
    rcases h with h | ⟨h, h0⟩
    · have e := Nat.eq_of_beq_eq_true h
      subst e
      refine ⟨-1, ?_, rfl⟩
      split
      · exact (n0 rfl).elim
      · exact Or.inl ⟨rfl, hr⟩
    · have e := Nat.eq_of_beq_eq_true h
      subst e
      obtain ⟨a', h1, h2⟩ := hr
      refine ⟨a, ?_, rfl⟩
      split
      · exact (n0 rfl).elim
      · exact Or.inr ⟨h0, a', h1, h2⟩
/-- a cell's picture fits -/
def e_fitC (ft : Nat → Nat → Nat) (c : xC) : Bool := match c.1 with
  | 0 => (List.range c.2.2.1).all (fun k => e_fit (ft c.2.1 k) (x_get c.2.2.2.1 c.2.2.2.2 k))
  | 1 => Nat.beq c.2.2.2.1.1 0 && c.2.2.2.2.all (fun q => Nat.beq q.2.1 0)
  | 2 => Nat.beq c.2.2.2.1.1 0 && c.2.2.2.2.all (fun q => Nat.beq q.2.1 0)
  | 3 => Nat.beq c.2.2.2.1.1 0 && c.2.2.2.2.all (fun q => Nat.beq q.2.1 0)
  | _ => e_fit 1 c.2.2.2.1 && c.2.2.2.2.all (fun q => e_fit 1 q.2)
theorem e_get_all {P : xV → Prop} {d : xV} (hd : P d) : ∀ {o : xA}, (∀ q ∈ o, P q.2) → ∀ k, P (x_get d o k)
  | [], _, k => hd
  | q :: r, h, k => by
    rw [x_get_cons]
    cases Nat.beq q.1 k with
    | true => exact h q List.mem_cons_self
    | false => exact e_get_all hd (fun p hp => h p (List.mem_cons_of_mem _ hp)) k
theorem e_of_rel {ad : List Nat} {V : List Int} {sc : Nat × Nat × List Nat} {x : xV} {n : Int32} (h : Nat.beq x.1 0 = true) (hr : x_rel ad V sc x (.int n)) : e_of x n.toInt := by
  obtain ⟨t, a, b⟩ := x
  have e := Nat.eq_of_beq_eq_true h
  simp only at e
  subst e
  obtain ⟨m, hm, h1, h2⟩ := hr
  cases hm
  exact ⟨h1, h2⟩
theorem e_cell_of {ft : Nat → Nat → Nat} {cl : List vw_C} {ad : List Nat} {V : List Int} {sc : Nat × Nat × List Nat} {tys : List (ClassId × FieldType)} {c : xC} {e : va_E} (hf : e_fitC ft c = true) (h : x_cell cl ad V sc tys c e) : ∃ g : Int → Int, e_cell ft cl ad tys (c.1, c.2.1, c.2.2.1) g e ∧ ∀ k : Nat, k < c.2.2.1 → e_of (x_get c.2.2.2.1 c.2.2.2.2 k) (g k) := by
  obtain ⟨kd, ci, n, d, o⟩ := c
  unfold e_fitC at hf
  unfold x_cell at h
  unfold e_cell
  split at h
  · rename_i h0
    simp only at h0
    subst h0
    simp only at hf h ⊢
    obtain ⟨fs, g1, g2, g3⟩ := h
    have key : ∀ k, ∃ z, k < n → ∃ v, fs[k]? = some v ∧ e_slot ad (ft ci k) z v ∧ e_of (x_get d o k) z := fun k => by
      by_cases hk : k < n
      · obtain ⟨v, v1, v2⟩ := g3 k hk
        obtain ⟨z, z1, z2⟩ := e_fit_ok (List.all_eq_true.mp hf k (List.mem_range.mpr hk)) v2
        exact ⟨z, fun _ => ⟨v, v1, z1, z2⟩⟩
      · exact ⟨0, fun h => absurd h hk⟩
    refine ⟨fun k => (key k.toNat).choose, ⟨fs, g1, g2, fun k hk => ?_⟩, fun k hk => ?_⟩
    · obtain ⟨v, v1, v2, v3⟩ := (key k).choose_spec hk
      exact ⟨v, v1, v2⟩
    · obtain ⟨v, v1, v2, v3⟩ := (key k).choose_spec hk
      exact v3
  · rename_i h0
    simp only at h0
    subst h0
    simp only [Bool.and_eq_true] at hf
    obtain ⟨t0, cA, f, g1, g2, g3, g4⟩ := h
    have hz := fun k => e_get_all (P := fun x => Nat.beq x.1 0 = true) hf.1 (fun q hq => List.all_eq_true.mp hf.2 q hq) k
    exact ⟨fun k => (f k.toNat).toInt, ⟨t0, cA, f, g1, g2, g3, fun k hk => rfl⟩, fun k hk => e_of_rel (hz k) (g4 k hk)⟩
  · rename_i h0
    simp only at h0
    subst h0
    simp only [Bool.and_eq_true] at hf
    obtain ⟨t0, cA, f, g1, g2, g3, g4⟩ := h
    have hz := fun k => e_get_all (P := fun x => Nat.beq x.1 0 = true) hf.1 (fun q hq => List.all_eq_true.mp hf.2 q hq) k
    exact ⟨fun k => (f k.toNat).toInt, ⟨t0, cA, f, g1, g2, g3, fun k hk => rfl⟩, fun k hk => e_of_rel (hz k) (g4 k hk)⟩
  · rename_i h0
    simp only at h0
    subst h0
    simp only [Bool.and_eq_true] at hf
    obtain ⟨t0, cA, f, g1, g2, g3, g4⟩ := h
    have hz := fun k => e_get_all (P := fun x => Nat.beq x.1 0 = true) hf.1 (fun q hq => List.all_eq_true.mp hf.2 q hq) k
    exact ⟨fun k => (f k.toNat).toInt, ⟨t0, cA, f, g1, g2, g3, fun k hk => rfl⟩, fun k hk => e_of_rel (hz k) (g4 k hk)⟩
  · rename_i h0
    simp only at h0
    subst h0
    simp only [Bool.and_eq_true] at hf
    obtain ⟨t0, cA, r, f, g0, g1, g2, g3, g4⟩ := h
    have hz := fun k => e_get_all (P := fun x => e_fit 1 x = true) hf.1 (fun q hq => List.all_eq_true.mp hf.2 q hq) k
    have key : ∀ k, ∃ z, k < n → e_slot ad 1 z (va_rf (f k)) ∧ e_of (x_get d o k) z := fun k => by
      by_cases hk : k < n
      · obtain ⟨z, z1, z2⟩ := e_fit_ok (hz k) (g4 k hk)
        exact ⟨z, fun _ => ⟨z1, z2⟩⟩
      · exact ⟨0, fun h => absurd h hk⟩
    exact ⟨fun k => (key k.toNat).choose, ⟨t0, cA, r, f, g0, g1, g2, g3, fun k hk => ((key k).choose_spec hk).1⟩, fun k hk => ((key k).choose_spec hk).2⟩
  · rename_i h0
    simp only at h0
    subst h0
    simp only [Bool.and_eq_true] at hf
    obtain ⟨t0, cA, f, g1, g2, g3, g4⟩ := h
    have hz := fun k => e_get_all (P := fun x => e_fit 1 x = true) hf.1 (fun q hq => List.all_eq_true.mp hf.2 q hq) k
    have key : ∀ k, ∃ z, k < n → e_slot ad 1 z (va_rf (f k)) ∧ e_of (x_get d o k) z := fun k => by
      by_cases hk : k < n
      · obtain ⟨z, z1, z2⟩ := e_fit_ok (hz k) (g4 k hk)
        exact ⟨z, fun _ => ⟨z1, z2⟩⟩
      · exact ⟨0, fun h => absurd h hk⟩
    exact ⟨fun k => (key k.toNat).choose, ⟨t0, cA, f, g1, g2, g3, fun k hk => ((key k).choose_spec hk).1⟩, fun k hk => ((key k).choose_spec hk).2⟩
  · exact h.elim
theorem e_slot_more {ad xs : List Nat} {fk : Nat} {z : Int} {v : Value} (h : e_slot ad fk z v) : e_slot (ad ++ xs) fk z v := by
  unfold e_slot at h ⊢
  split at h
  · exact h
  · rcases h with h | ⟨h0, a, h1, h2⟩
    · exact Or.inl h
    · exact Or.inr ⟨h0, a, by rw [List.getElem?_append_left (List.getElem?_eq_some_iff.mp h1).1]; exact h1, h2⟩
theorem e_cell_more {ft : Nat → Nat → Nat} {cl : List vw_C} {ad xs : List Nat} {tys : List (ClassId × FieldType)} {y : eY} {g : Int → Int} {e : va_E} (h : e_cell ft cl ad tys y g e) : e_cell ft cl (ad ++ xs) tys y g e := by
  obtain ⟨kd, ci, n⟩ := y
  unfold e_cell at h ⊢
  split at h
  · rename_i h0
    simp only at h0
    subst h0
    obtain ⟨fs, g1, g2, g3⟩ := h
    exact ⟨fs, g1, g2, fun k hk => by obtain ⟨v, v1, v2⟩ := g3 k hk; exact ⟨v, v1, e_slot_more v2⟩⟩
  · rename_i h0
    simp only at h0
    subst h0
    exact h
  · rename_i h0
    simp only at h0
    subst h0
    exact h
  · rename_i h0
    simp only at h0
    subst h0
    exact h
  · rename_i h0
    simp only at h0
    subst h0
    obtain ⟨t0, cA, r, f, g0, g1, g2, g3, g4⟩ := h
    exact ⟨t0, cA, r, f, g0, g1, g2, g3, fun k hk => e_slot_more (g4 k hk)⟩
  · rename_i h0
    simp only at h0
    subst h0
    obtain ⟨t0, cA, f, g1, g2, g3, g4⟩ := h
    exact ⟨t0, cA, f, g1, g2, g3, fun k hk => e_slot_more (g4 k hk)⟩
  · exact h.elim
/-- all cells at once -/
theorem e_world_of {ft : Nat → Nat → Nat} {cl : List vw_C} {V : List Int} {sc : Nat × Nat × List Nat} {tys : List (ClassId × FieldType)} {wx : List xC} {ws : va_W} (xs : List Nat) (hf : wx.all (e_fitC ft) = true) (h : x_world cl V sc tys wx ws) : ∃ w : eW, e_world ft cl (wx.map (fun c => (c.1, c.2.1, c.2.2.1))) (ws.map Prod.fst ++ xs) tys w ws ∧ ∀ (j : Nat) (c : xC), wx[j]? = some c → ∀ k : Nat, k < c.2.2.1 → e_of (x_get c.2.2.2.1 c.2.2.2.2 k) (w j k) := by
  have key : ∀ j : Nat, ∃ g : Int → Int, ∀ (c : xC) (q : Nat × va_E), wx[j]? = some c → ws[j]? = some q → e_cell ft cl (ws.map Prod.fst) tys (c.1, c.2.1, c.2.2.1) g q.2 ∧ ∀ k : Nat, k < c.2.2.1 → e_of (x_get c.2.2.2.1 c.2.2.2.2 k) (g k) := fun j => by
    cases hc : wx[j]? with
    | none => exact ⟨fun _ => 0, fun c q h => by cases h⟩
    | some c =>
      cases hq : ws[j]? with
      | none => exact ⟨fun _ => 0, fun c q h h' => by cases h'⟩
      | some q =>
        obtain ⟨g, g1, g2⟩ := e_cell_of (List.all_eq_true.mp hf c (List.mem_of_getElem? hc)) (h.2.2 j c q hc hq)
        exact ⟨g, fun c' q' h1 h2 => by cases h1; cases h2; exact ⟨g1, g2⟩⟩
  refine ⟨fun j => (key j.toNat).choose, ⟨by rw [List.take_left' (by rw [List.length_map])], by rw [List.length_map]; exact h.1, fun j y q hy hq => ?_⟩, fun j c hc k hk => ?_⟩
  · rw [List.getElem?_map, Option.map_eq_some_iff] at hy
    obtain ⟨c, hc, rfl⟩ := hy
    exact e_cell_more ((key j).choose_spec c q hc hq).1
  · have hlt : j < ws.length := by rw [← h.1]; exact (List.getElem?_eq_some_iff.mp hc).1
    exact ((key j).choose_spec c ws[j] hc (List.getElem?_eq_getElem hlt)).2 k hk
end
end
-- part 40
section
noncomputable section
/-! the cells that stand, the kinds of their fields, the methods by number; tables as trees -/
def x_nth (l : List Nat) (k : Nat) : Nat := match x_at l k with
  | some x => x
  | none => 0
def elay : List eY := [(0, 11, 15), (0, 8, 17), (0, 1, 5), (1, 0, 32), (1, 0, 4000), (2, 0, 4000), (1, 0, 32), (1, 0, 500), (0, 3, 12), (5, 0, 4), (0, 7, 8), (1, 0, 64), (1, 0, 64), (1, 0, 64), (1, 0, 64), (1, 0, 64), (3, 0, 64), (3, 0, 64), (1, 0, 64), (0, 4, 20), (1, 0, 4), (1, 0, 4), (1, 0, 4), (1, 0, 4), (1, 0, 4), (1, 0, 4), (1, 0, 4), (1, 0, 4), (1, 0, 4), (1, 0, 4), (6, 0, 4), (1, 0, 32), (1, 0, 32), (1, 0, 32), (1, 0, 32), (1, 0, 4), (1, 0, 32), (1, 0, 32), (1, 0, 32), (1, 0, 32), (1, 0, 32), (6, 0, 32), (1, 0, 4), (1, 0, 4), (1, 0, 4), (1, 0, 4), (1, 0, 4), (1, 0, 4), (1, 0, 4), (1, 0, 4), (1, 0, 4), (1, 0, 4), (1, 0, 4), (1, 0, 4), (1, 0, 4), (1, 0, 4), (1, 0, 4), (1, 0, 4), (1, 0, 4), (1, 0, 4), (1, 0, 4), (1, 0, 4), (1, 0, 4), (1, 0, 4), (1, 0, 4), (1, 0, 4), (1, 0, 4), (1, 0, 4), (1, 0, 4), (1, 0, 4), (1, 0, 4), (1, 0, 4), (1, 0, 4), (1, 0, 4), (0, 2, 15), (1, 0, 8000), (1, 0, 8), (3, 0, 8), (3, 0, 8), (3, 0, 8), (3, 0, 8), (1, 0, 8), (5, 10, 16), (1, 0, 8), (1, 0, 128), (1, 0, 6), (0, 0, 20), (5, 5, 6), (1, 0, 8), (1, 0, 8), (1, 0, 7), (1, 0, 7), (1, 0, 7), (1, 0, 32), (0, 1, 5), (1, 0, 32), (1, 0, 4000), (0, 5, 12), (0, 5, 12), (0, 5, 12), (0, 5, 12), (0, 5, 12), (0, 5, 12), (0, 0, 20), (5, 5, 6), (1, 0, 8), (1, 0, 8), (1, 0, 7), (1, 0, 7), (1, 0, 7), (1, 0, 32), (0, 1, 5), (1, 0, 32), (1, 0, 4000), (0, 5, 12), (0, 5, 12), (0, 5, 12), (0, 5, 12), (0, 5, 12), (0, 5, 12), (0, 0, 20), (5, 5, 6), (1, 0, 8), (1, 0, 8), (1, 0, 7), (1, 0, 7), (1, 0, 7), (1, 0, 32), (0, 1, 5), (1, 0, 32), (1, 0, 4000), (0, 5, 12), (0, 5, 12), (0, 5, 12), (0, 5, 12), (0, 5, 12), (0, 5, 12), (0, 0, 20), (5, 5, 6), (1, 0, 8), (1, 0, 8), (1, 0, 7), (1, 0, 7), (1, 0, 7), (1, 0, 32), (0, 1, 5), (1, 0, 32), (1, 0, 4000), (0, 5, 12), (0, 5, 12), (0, 5, 12), (0, 5, 12), (0, 5, 12), (0, 5, 12), (0, 10, 21), (1, 0, 20), (1, 0, 20), (1, 0, 600), (1, 0, 600), (1, 0, 600), (0, 10, 21), (1, 0, 20), (1, 0, 20), (1, 0, 600), (1, 0, 600), (1, 0, 600), (0, 10, 21), (1, 0, 20), (1, 0, 20), (1, 0, 600), (1, 0, 600), (1, 0, 600), (0, 10, 21), (1, 0, 20), (1, 0, 20), (1, 0, 600), (1, 0, 600), (1, 0, 600), (0, 10, 21), (1, 0, 20), (1, 0, 20), (1, 0, 600), (1, 0, 600), (1, 0, 600), (0, 10, 21), (1, 0, 20), (1, 0, 20), (1, 0, 600), (1, 0, 600), (1, 0, 600), (0, 10, 21), (1, 0, 20), (1, 0, 20), (1, 0, 600), (1, 0, 600), (1, 0, 600), (0, 10, 21), (1, 0, 20), (1, 0, 20), (1, 0, 600), (1, 0, 600), (1, 0, 600), (0, 10, 21), (1, 0, 20), (1, 0, 20), (1, 0, 600), (1, 0, 600), (1, 0, 600), (0, 10, 21), (1, 0, 20), (1, 0, 20), (1, 0, 600), (1, 0, 600), (1, 0, 600), (0, 10, 21), (1, 0, 20), (1, 0, 20), (1, 0, 600), (1, 0, 600), (1, 0, 600), (0, 10, 21), (1, 0, 20), (1, 0, 20), (1, 0, 600), (1, 0, 600), (1, 0, 600), (0, 10, 21), (1, 0, 20), (1, 0, 20), (1, 0, 600), (1, 0, 600), (1, 0, 600), (0, 10, 21), (1, 0, 20), (1, 0, 20), (1, 0, 600), (1, 0, 600), (1, 0, 600), (0, 10, 21), (1, 0, 20), (1, 0, 20), (1, 0, 600), (1, 0, 600), (1, 0, 600), (0, 10, 21), (1, 0, 20), (1, 0, 20), (1, 0, 600), (1, 0, 600), (1, 0, 600), (0, 9, 17), (1, 0, 16), (1, 0, 16), (1, 0, 16), (1, 0, 16), (1, 0, 16), (1, 0, 8), (1, 0, 8), (1, 0, 8), (1, 0, 8), (1, 0, 8), (1, 0, 8), (0, 6, 13), (1, 0, 6), (1, 0, 6), (1, 0, 6), (1, 0, 6), (1, 0, 1000), (1, 0, 1000), (2, 0, 60000), (1, 0, 60), (1, 0, 60), (1, 0, 6), (1, 0, 8000), (1, 0, 4), (0, 12, 119), (1, 0, 33060), (1, 0, 33060), (1, 0, 661200), (1, 0, 8000), (1, 0, 4), (2, 0, 4000), (1, 0, 4), (1, 0, 4), (1, 0, 4), (1, 0, 4), (1, 0, 4), (1, 0, 24), (1, 0, 24), (1, 0, 24), (1, 0, 24), (1, 0, 24), (1, 0, 24), (1, 0, 24), (3, 0, 16), (1, 0, 16), (1, 0, 16), (1, 0, 16), (1, 0, 16), (3, 0, 448), (1, 0, 4), (1, 0, 4), (1, 0, 4), (1, 0, 4), (1, 0, 4), (1, 0, 4), (1, 0, 4), (1, 0, 4), (1, 0, 4), (1, 0, 32), (1, 0, 8), (1, 0, 8), (1, 0, 8), (1, 0, 8), (1, 0, 8), (1, 0, 8), (1, 0, 8), (3, 0, 8), (1, 0, 64), (3, 0, 64), (1, 0, 1025), (1, 0, 35), (1, 0, 35), (1, 0, 6), (1, 0, 4), (1, 0, 4), (1, 0, 65), (3, 0, 64), (1, 0, 50000), (1, 0, 50000), (1, 0, 50000), (1, 0, 4500), (1, 0, 4500), (1, 0, 4500), (1, 0, 4500), (1, 0, 4500), (1, 0, 4500), (1, 0, 160), (1, 0, 5), (1, 0, 5), (3, 0, 5), (1, 0, 4100), (1, 0, 4100), (1, 0, 4100), (1, 0, 4100), (1, 0, 4200), (1, 0, 24), (1, 0, 6), (1, 0, 6), (1, 0, 1000), (1, 0, 1000), (1, 0, 1000), (1, 0, 6000), (1, 0, 1000), (1, 0, 200000), (1, 0, 2000), (1, 0, 2000)]
def eft (ci k : Nat) : Nat := match ci with
  | 0 => x_nth [1, 1, 1, 1, 1, 1, 1, 1, 0, 0, 0, 0, 0, 0, 0, 0, 0, 0, 0, 0] k
  | 1 => x_nth [0, 0, 0, 1, 1] k
  | 2 => x_nth [0, 0, 0, 0, 0, 0, 0, 0, 1, 1, 1, 1, 1, 1, 1] k
  | 3 => x_nth [1, 1, 1, 1, 1, 1, 1, 1, 0, 0, 0, 0] k
  | 4 => x_nth [0, 0, 1, 1, 1, 1, 1, 1, 1, 1, 1, 1, 1, 1, 1, 1, 1, 1, 1, 1] k
  | 5 => x_nth [0, 0, 0, 0, 0, 0, 0, 0, 0, 0, 0, 0] k
  | 6 => x_nth [0, 0, 0, 0, 1, 1, 1, 1, 1, 1, 1, 1, 1] k
  | 7 => x_nth [1, 1, 1, 1, 1, 1, 1, 1] k
  | 8 => x_nth [0, 0, 0, 1, 1, 0, 0, 0, 0, 0, 0, 0, 0, 0, 0, 1, 1] k
  | 9 => x_nth [0, 0, 1, 1, 1, 1, 1, 1, 1, 1, 1, 1, 1, 0, 0, 0, 0] k
  | 10 => x_nth [0, 0, 0, 0, 0, 0, 0, 0, 0, 0, 0, 0, 0, 0, 0, 0, 1, 1, 1, 1, 1] k
  | 11 => x_nth [1, 1, 1, 1, 1, 1, 1, 1, 1, 1, 1, 0, 0, 0, 0] k
  | 12 => x_nth [1, 1, 1, 0, 1, 0, 0, 1, 1, 0, 0, 1, 1, 1, 1, 1, 1, 1, 1, 1, 1, 1, 1, 0, 1, 1, 1, 1, 1, 1, 0, 1, 1, 1, 1, 1, 1, 1, 1, 1, 0, 1, 0, 1, 1, 1, 1, 1, 1, 0, 1, 1, 1, 1, 1, 1, 1, 1, 0, 0, 0, 1, 1, 1, 1, 1, 1, 1, 1, 1, 1, 1, 1, 1, 1, 1, 1, 1, 0, 0, 0, 0, 0, 0, 0, 0, 0, 0, 0, 0, 1, 1, 1, 1, 0, 0, 0, 0, 0, 0, 0, 1, 0, 1, 1, 1, 1, 1, 1, 1, 0, 0, 0, 1, 1, 1, 1, 0, 0] k
  | _ => 0
def n_0 : xM := (x, code, 4, some .boolean, 60000, 8922250, 999)
def n_1 : xM := (⟨"RobotCellHouse$Arm", "make", "(IIII)V"⟩, prog_2_method_2_code, 5, none, 0, 0, 0)
def n_2 : xM := (⟨"RobotCellHouse$Arm", "addJoint", "(IIII)I"⟩, prog_2_method_3_code, 6, (some .int), 0, 0, 0)
def n_3 : xM := (⟨"RobotCellHouse$Arm", "rewind", "()V"⟩, prog_2_method_4_code, 2, none, 0, 0, 0)
def n_4 : xM := (⟨"RobotCellHouse$Arm", "exchange", "(LRobotCellHouse$Code;)LRobotCellHouse$Code;"⟩, prog_2_method_5_code, 3, (some (.object "RobotCellHouse$Code")), 0, 0, 0)
def n_5 : xM := (⟨"RobotCellHouse$Arm", "longest", "()I"⟩, prog_2_method_6_code, 3, (some .int), 0, 0, 0)
def n_6 : xM := (⟨"RobotCellHouse$Arm", "spares", "(II)Z"⟩, prog_2_method_7_code, 3, (some .boolean), 0, 0, 0)
def n_7 : xM := (⟨"RobotCellHouse$Arm", "bodies", "()I"⟩, prog_2_method_8_code, 1, (some .int), 0, 0, 0)
def n_8 : xM := (⟨"RobotCellHouse$Arm", "bodyRadius", "(I)I"⟩, prog_2_method_9_code, 2, (some .int), 0, 0, 0)
def n_9 : xM := (⟨"RobotCellHouse$Arm", "isFresh", "()Z"⟩, prog_2_method_10_code, 1, (some .boolean), 0, 0, 0)
def n_10 : xM := (⟨"RobotCellHouse$Arm", "place", "()V"⟩, prog_2_method_11_code, 8, none, 0, 0, 0)
def n_11 : xM := (⟨"RobotCellHouse$Arm", "keepPoints", "()V"⟩, prog_2_method_12_code, 2, none, 0, 0, 0)
def n_12 : xM := (⟨"RobotCellHouse$Arm", "keepSteps", "()V"⟩, prog_2_method_13_code, 2, none, 0, 0, 0)
def n_13 : xM := (⟨"RobotCellHouse$Arm", "beginMove", "(I)V"⟩, prog_2_method_14_code, 3, none, 0, 0, 0)
def n_14 : xM := (⟨"RobotCellHouse$Arm", "goOn", "()Z"⟩, prog_2_method_15_code, 4, (some .boolean), 0, 0, 0)
def n_15 : xM := (⟨"RobotCellHouse$Arm", "isStill", "()Z"⟩, prog_2_method_16_code, 2, (some .boolean), 0, 0, 0)
def n_16 : xM := (⟨"RobotCellHouse$Arm", "isThere", "()Z"⟩, prog_2_method_17_code, 2, (some .boolean), 0, 0, 0)
def n_17 : xM := (⟨"RobotCellHouse$Arm", "stand", "()V"⟩, prog_2_method_18_code, 2, none, 0, 0, 0)
def n_18 : xM := (⟨"RobotCellHouse$Arm", "fewestTicks", "()I"⟩, prog_2_method_19_code, 3, (some .int), 0, 0, 0)
def n_19 : xM := (⟨"RobotCellHouse$Arm", "breaches", "(Z)I"⟩, prog_2_method_20_code, 4, (some .int), 0, 0, 0)
def n_20 : xM := (⟨"RobotCellHouse$Code", "clear", "()V"⟩, prog_3_method_2_code, 1, none, 0, 0, 1)
def n_21 : xM := (⟨"RobotCellHouse$Code", "emit", "(II)I"⟩, prog_3_method_3_code, 3, (some .int), 0, 0, 1)
def n_22 : xM := (⟨"RobotCellHouse$Code", "patch", "(II)V"⟩, prog_3_method_4_code, 3, none, 0, 0, 1)
def n_23 : xM := (⟨"RobotCellHouse$Code", "op", "(I)I"⟩, prog_3_method_5_code, 2, (some .int), 0, 0, 1)
def n_24 : xM := (⟨"RobotCellHouse$Code", "operand", "(I)I"⟩, prog_3_method_6_code, 2, (some .int), 0, 0, 1)
def n_25 : xM := (⟨"RobotCellHouse$Core", "clear", "()V"⟩, prog_4_method_2_code, 2, none, 0, 0, 2)
def n_26 : xM := (⟨"RobotCellHouse$Core", "rewind", "()V"⟩, prog_4_method_3_code, 2, none, 0, 0, 2)
def n_27 : xM := (⟨"RobotCellHouse$Core", "add", "(III)V"⟩, prog_4_method_4_code, 5, none, 0, 0, 2)
def n_28 : xM := (⟨"RobotCellHouse$Core", "switchChannels", "(IZZ)I"⟩, prog_4_method_5_code, 4, (some .int), 0, 0, 2)
def n_29 : xM := (⟨"RobotCellHouse$Core", "isWell", "(I)Z"⟩, prog_4_method_6_code, 2, (some .boolean), 0, 0, 2)
def n_30 : xM := (⟨"RobotCellHouse$Core", "health", "(I)I"⟩, prog_4_method_7_code, 2, (some .int), 0, 0, 2)
def n_31 : xM := (⟨"RobotCellHouse$Core", "allConnected", "()Z"⟩, prog_4_method_8_code, 2, (some .boolean), 0, 0, 2)
def n_32 : xM := (⟨"RobotCellHouse$Core", "lookAtInputs", "()I"⟩, prog_4_method_9_code, 3, (some .int), 0, 0, 2)
def n_33 : xM := (⟨"RobotCellHouse$Core", "powerOn", "(I)I"⟩, prog_4_method_10_code, 3, (some .int), 0, 0, 2)
def n_34 : xM := (⟨"RobotCellHouse$Core", "trip", "(II)V"⟩, prog_4_method_11_code, 3, none, 0, 0, 2)
def n_35 : xM := (⟨"RobotCellHouse$Doer", "rewind", "()V"⟩, prog_5_method_2_code, 2, none, 0, 0, 3)
def n_36 : xM := (⟨"RobotCellHouse$Doer", "unusedTask", "()I"⟩, prog_5_method_3_code, 2, (some .int), 0, 0, 3)
def n_37 : xM := (⟨"RobotCellHouse$Doer", "begin", "(II)I"⟩, prog_5_method_4_code, 4, (some .int), 0, 0, 3)
def n_38 : xM := (⟨"RobotCellHouse$Doer", "excuse", "(I)I"⟩, prog_5_method_5_code, 3, (some .int), 0, 0, 3)
def n_39 : xM := (⟨"RobotCellHouse$Doer", "stale", "(I)V"⟩, prog_5_method_6_code, 3, none, 0, 0, 3)
def n_40 : xM := (⟨"RobotCellHouse$Doer", "brake", "(I)V"⟩, prog_5_method_7_code, 2, none, 0, 0, 3)
def n_41 : xM := (⟨"RobotCellHouse$Doer", "breakMove", "(I)V"⟩, prog_5_method_8_code, 2, none, 0, 0, 3)
def n_42 : xM := (⟨"RobotCellHouse$Doer", "hasTurn", "(I)Z"⟩, prog_5_method_9_code, 2, (some .boolean), 0, 0, 3)
def n_43 : xM := (⟨"RobotCellHouse$Doer", "turn", "(LRobotCellHouse$Task;)V"⟩, prog_5_method_10_code, 7, none, 0, 0, 3)
def n_44 : xM := (⟨"RobotCellHouse$Doer", "leaveByError", "(LRobotCellHouse$Task;LRobotCellHouse$Code;)V"⟩, prog_5_method_11_code, 3, none, 0, 0, 3)
def n_45 : xM := (⟨"RobotCellHouse$Doer", "goOn", "(LRobotCellHouse$Task;)V"⟩, prog_5_method_12_code, 3, none, 0, 0, 3)
def n_46 : xM := (⟨"RobotCellHouse$Doer", "raise", "(I)V"⟩, prog_5_method_13_code, 2, none, 0, 0, 3)
def n_47 : xM := (⟨"RobotCellHouse$Doer", "watchCalls", "(LRobotCellHouse$Task;LRobotCellHouse$Code;)Z"⟩, prog_5_method_14_code, 3, (some .boolean), 0, 0, 3)
def n_48 : xM := (⟨"RobotCellHouse$Doer", "failBy", "(LRobotCellHouse$Task;I)V"⟩, prog_5_method_15_code, 3, none, 0, 0, 3)
def n_49 : xM := (⟨"RobotCellHouse$Doer", "endIfLeft", "(LRobotCellHouse$Task;)V"⟩, prog_5_method_16_code, 2, none, 0, 0, 3)
def n_50 : xM := (⟨"RobotCellHouse$Doer", "releaseAll", "(LRobotCellHouse$Task;)V"⟩, prog_5_method_17_code, 3, none, 0, 0, 3)
def n_51 : xM := (⟨"RobotCellHouse$Doer", "release", "(I)V"⟩, prog_5_method_18_code, 4, none, 0, 0, 3)
def n_52 : xM := (⟨"RobotCellHouse$Doer", "push", "(I)V"⟩, prog_5_method_19_code, 2, none, 0, 0, 3)
def n_53 : xM := (⟨"RobotCellHouse$Doer", "pop", "()I"⟩, prog_5_method_20_code, 1, (some .int), 0, 0, 3)
def n_54 : xM := (⟨"RobotCellHouse$Doer", "look", "(LRobotCellHouse$Task;II)V"⟩, prog_5_method_21_code, 5, none, 0, 0, 3)
def n_55 : xM := (⟨"RobotCellHouse$Doer", "pushSignal", "(I)V"⟩, prog_5_method_22_code, 2, none, 0, 0, 3)
def n_56 : xM := (⟨"RobotCellHouse$Doer", "pushJoint", "(LRobotCellHouse$Arm;I)V"⟩, prog_5_method_23_code, 3, none, 0, 0, 3)
def n_57 : xM := (⟨"RobotCellHouse$Doer", "changeTop", "(LRobotCellHouse$Task;II)V"⟩, prog_5_method_24_code, 5, none, 0, 0, 3)
def n_58 : xM := (⟨"RobotCellHouse$Doer", "combine", "(III)V"⟩, prog_5_method_25_code, 4, none, 0, 0, 3)
def n_59 : xM := (⟨"RobotCellHouse$Doer", "act", "(LRobotCellHouse$Task;LRobotCellHouse$Code;II)V"⟩, prog_5_method_26_code, 5, none, 0, 0, 3)
def n_60 : xM := (⟨"RobotCellHouse$Doer", "collect", "(II)V"⟩, prog_5_method_27_code, 3, none, 0, 0, 3)
def n_61 : xM := (⟨"RobotCellHouse$Doer", "moveBy", "(LRobotCellHouse$Task;I)V"⟩, prog_5_method_28_code, 5, none, 0, 0, 3)
def n_62 : xM := (⟨"RobotCellHouse$Doer", "reachesGoals", "(LRobotCellHouse$Arm;)Z"⟩, prog_5_method_29_code, 3, (some .boolean), 0, 0, 3)
def n_63 : xM := (⟨"RobotCellHouse$Doer", "waitFor", "(LRobotCellHouse$Task;I)V"⟩, prog_5_method_30_code, 3, none, 0, 0, 3)
def n_64 : xM := (⟨"RobotCellHouse$Doer", "waitUntil", "(LRobotCellHouse$Task;II)V"⟩, prog_5_method_31_code, 4, none, 0, 0, 3)
def n_65 : xM := (⟨"RobotCellHouse$Doer", "setPoint", "(II)V"⟩, prog_5_method_32_code, 3, none, 0, 0, 3)
def n_66 : xM := (⟨"RobotCellHouse$Doer", "takeLock", "(LRobotCellHouse$Task;I)V"⟩, prog_5_method_33_code, 3, none, 0, 0, 3)
def n_67 : xM := (⟨"RobotCellHouse$Doer", "freeLock", "(LRobotCellHouse$Task;I)V"⟩, prog_5_method_34_code, 3, none, 0, 0, 3)
def n_68 : xM := (⟨"RobotCellHouse$Doer", "grip", "(I)V"⟩, prog_5_method_35_code, 4, none, 0, 0, 3)
def n_69 : xM := (⟨"RobotCellHouse$Doer", "drop", "(I)V"⟩, prog_5_method_36_code, 4, none, 0, 0, 3)
def n_70 : xM := (⟨"RobotCellHouse$Doer", "watch", "(LRobotCellHouse$Task;II)V"⟩, prog_5_method_37_code, 4, none, 0, 0, 3)
def n_71 : xM := (⟨"RobotCellHouse$Doer", "lead", "(LRobotCellHouse$Task;LRobotCellHouse$Code;II)V"⟩, prog_5_method_38_code, 5, none, 0, 0, 3)
def n_72 : xM := (⟨"RobotCellHouse$Doer", "leaveFurther", "(LRobotCellHouse$Task;LRobotCellHouse$Code;I)V"⟩, prog_5_method_39_code, 4, none, 0, 0, 3)
def n_73 : xM := (⟨"RobotCellHouse$Floor", "along", "(I)I"⟩, prog_6_method_2_code, 1, (some .int), 0, 0, 999)
def n_74 : xM := (⟨"RobotCellHouse$Floor", "up", "(I)I"⟩, prog_6_method_3_code, 1, (some .int), 0, 0, 999)
def n_75 : xM := (⟨"RobotCellHouse$Floor", "addBelt", "(IIIII)I"⟩, prog_6_method_4_code, 7, (some .int), 0, 0, 4)
def n_76 : xM := (⟨"RobotCellHouse$Floor", "addPart", "(IIIII)I"⟩, prog_6_method_5_code, 7, (some .int), 0, 0, 4)
def n_77 : xM := (⟨"RobotCellHouse$Floor", "rewind", "()V"⟩, prog_6_method_6_code, 2, none, 0, 0, 4)
def n_78 : xM := (⟨"RobotCellHouse$Floor", "putBack", "(I)V"⟩, prog_6_method_7_code, 2, none, 0, 0, 4)
def n_79 : xM := (⟨"RobotCellHouse$Floor", "lieAt", "(III)V"⟩, prog_6_method_8_code, 4, none, 0, 0, 4)
def n_80 : xM := (⟨"RobotCellHouse$Floor", "comeTo", "(III)V"⟩, prog_6_method_9_code, 5, none, 0, 0, 4)
def n_81 : xM := (⟨"RobotCellHouse$Floor", "xOf", "(I)I"⟩, prog_6_method_10_code, 3, (some .int), 0, 0, 4)
def n_82 : xM := (⟨"RobotCellHouse$Floor", "yOf", "(I)I"⟩, prog_6_method_11_code, 3, (some .int), 0, 0, 4)
def n_83 : xM := (⟨"RobotCellHouse$Floor", "nearest", "(III)I"⟩, prog_6_method_12_code, 10, (some .int), 0, 0, 4)
def n_84 : xM := (⟨"RobotCellHouse$Floor", "gripBy", "(II)V"⟩, prog_6_method_13_code, 6, none, 0, 0, 4)
def n_85 : xM := (⟨"RobotCellHouse$Floor", "dropAt", "(III)V"⟩, prog_6_method_14_code, 9, none, 0, 0, 4)
def n_86 : xM := (⟨"RobotCellHouse$Floor", "goOn", "(I)V"⟩, prog_6_method_15_code, 6, none, 0, 0, 4)
def n_87 : xM := (⟨"RobotCellHouse$Floor", "senses", "(I)Z"⟩, prog_6_method_16_code, 3, (some .boolean), 0, 0, 4)
def n_88 : xM := (⟨"RobotCellHouse$Floor", "strays", "([LRobotCellHouse$Arm;I)I"⟩, prog_6_method_17_code, 8, (some .int), 0, 0, 4)
def n_89 : xM := (⟨"RobotCellHouse$Joint", "reaches", "(I)Z"⟩, prog_7_method_2_code, 2, (some .boolean), 0, 0, 5)
def n_90 : xM := (⟨"RobotCellHouse$Joint", "goingStep", "()I"⟩, prog_7_method_3_code, 7, (some .int), 0, 0, 5)
def n_91 : xM := (⟨"RobotCellHouse$Joint", "brakingStep", "()I"⟩, prog_7_method_4_code, 1, (some .int), 0, 0, 5)
def n_92 : xM := (⟨"RobotCellHouse$Joint", "wayToRest", "(I)I"⟩, prog_7_method_5_code, 3, (some .int), 0, 0, 5)
def n_93 : xM := (⟨"RobotCellHouse$Joint", "fewestSteps", "()I"⟩, prog_7_method_6_code, 4, (some .int), 0, 0, 5)
def n_94 : xM := (⟨"RobotCellHouse$Joint", "breaks", "(Z)Z"⟩, prog_7_method_7_code, 2, (some .boolean), 0, 0, 5)
def n_95 : xM := (⟨"RobotCellHouse$Planner", "stepsOf", "(I)I"⟩, prog_8_method_2_code, 2, (some .int), 0, 0, 6)
def n_96 : xM := (⟨"RobotCellHouse$Planner", "stepAt", "(II)I"⟩, prog_8_method_3_code, 3, (some .int), 0, 0, 6)
def n_97 : xM := (⟨"RobotCellHouse$Planner", "give", "(LRobotCellHouse$Arm;I)I"⟩, prog_8_method_4_code, 3, (some .int), 0, 0, 6)
def n_98 : xM := (⟨"RobotCellHouse$Planner", "layOut", "(LRobotCellHouse$Arm;II)Z"⟩, prog_8_method_5_code, 7, (some .boolean), 0, 0, 6)
def n_99 : xM := (⟨"RobotCellHouse$Planner", "nodeOf", "(LRobotCellHouse$Arm;[I)I"⟩, prog_8_method_6_code, 6, (some .int), 0, 0, 6)
def n_100 : xM := (⟨"RobotCellHouse$Planner", "search", "([LRobotCellHouse$Arm;ILRobotCellHouse$Shapes;II)Z"⟩, prog_8_method_7_code, 11, (some .boolean), 0, 0, 6)
def n_101 : xM := (⟨"RobotCellHouse$Planner", "digit", "(II)I"⟩, prog_8_method_8_code, 3, (some .int), 0, 0, 6)
def n_102 : xM := (⟨"RobotCellHouse$Planner", "takeValues", "(LRobotCellHouse$Arm;I)V"⟩, prog_8_method_9_code, 4, none, 0, 0, 6)
def n_103 : xM := (⟨"RobotCellHouse$Planner", "neighbour", "(II)I"⟩, prog_8_method_10_code, 5, (some .int), 0, 0, 6)
def n_104 : xM := (⟨"RobotCellHouse$Planner", "passes", "([LRobotCellHouse$Arm;ILRobotCellHouse$Shapes;III)Z"⟩, prog_8_method_11_code, 11, (some .boolean), 0, 0, 6)
def n_105 : xM := (⟨"RobotCellHouse$Planner", "keep", "(II)V"⟩, prog_8_method_12_code, 6, none, 0, 0, 6)
def n_106 : xM := (⟨"RobotCellHouse$Planner", "before", "(I)I"⟩, prog_8_method_13_code, 3, (some .int), 0, 0, 6)
def n_107 : xM := (⟨"RobotCellHouse$Planner", "depart", "(LRobotCellHouse$Arm;)I"⟩, prog_8_method_14_code, 5, (some .int), 0, 0, 6)
def n_108 : xM := (⟨"RobotCellHouse$Planner", "goFurther", "(LRobotCellHouse$Arm;)Z"⟩, prog_8_method_15_code, 5, (some .boolean), 0, 0, 6)
def n_109 : xM := (⟨"RobotCellHouse$Points", "clear", "()V"⟩, prog_9_method_2_code, 1, none, 0, 0, 7)
def n_110 : xM := (⟨"RobotCellHouse$Points", "rewind", "()V"⟩, prog_9_method_3_code, 2, none, 0, 0, 7)
def n_111 : xM := (⟨"RobotCellHouse$Points", "canWire", "(II)Z"⟩, prog_9_method_4_code, 5, (some .boolean), 0, 0, 7)
def n_112 : xM := (⟨"RobotCellHouse$Points", "connect", "(IIZ)V"⟩, prog_9_method_5_code, 4, none, 0, 0, 7)
def n_113 : xM := (⟨"RobotCellHouse$Points", "give", "(II)I"⟩, prog_9_method_6_code, 4, (some .int), 0, 0, 7)
def n_114 : xM := (⟨"RobotCellHouse$Points", "press", "(IIZ)I"⟩, prog_9_method_7_code, 5, (some .int), 0, 0, 7)
def n_115 : xM := (⟨"RobotCellHouse$Points", "arrange", "()V"⟩, prog_9_method_8_code, 4, none, 0, 0, 7)
def n_116 : xM := (⟨"RobotCellHouse$Points", "settle", "()V"⟩, prog_9_method_9_code, 4, none, 0, 0, 7)
def n_117 : xM := (⟨"RobotCellHouse$Points", "reckon", "(I)I"⟩, prog_9_method_10_code, 3, (some .int), 0, 0, 7)
def n_118 : xM := (⟨"RobotCellHouse$Reader", "append", "(I)V"⟩, prog_10_method_2_code, 3, none, 0, 0, 8)
def n_119 : xM := (⟨"RobotCellHouse$Reader", "readText", "()V"⟩, prog_10_method_3_code, 2, none, 0, 0, 8)
def n_120 : xM := (⟨"RobotCellHouse$Reader", "byteAt", "(I)I"⟩, prog_10_method_4_code, 2, (some .int), 0, 0, 8)
def n_121 : xM := (⟨"RobotCellHouse$Reader", "isDigit", "(I)Z"⟩, prog_10_method_5_code, 1, (some .boolean), 0, 0, 999)
def n_122 : xM := (⟨"RobotCellHouse$Reader", "isOfName", "(I)Z"⟩, prog_10_method_6_code, 1, (some .boolean), 0, 0, 999)
def n_123 : xM := (⟨"RobotCellHouse$Reader", "advance", "()V"⟩, prog_10_method_7_code, 2, none, 0, 0, 8)
def n_124 : xM := (⟨"RobotCellHouse$Reader", "skipBlanks", "()V"⟩, prog_10_method_8_code, 3, none, 0, 0, 8)
def n_125 : xM := (⟨"RobotCellHouse$Reader", "readWord", "()V"⟩, prog_10_method_9_code, 1, none, 0, 0, 8)
def n_126 : xM := (⟨"RobotCellHouse$Reader", "wordKind", "()I"⟩, prog_10_method_10_code, 6, (some .int), 0, 0, 8)
def n_127 : xM := (⟨"RobotCellHouse$Reader", "readNumber", "()V"⟩, prog_10_method_11_code, 3, none, 0, 0, 8)
def n_128 : xM := (⟨"RobotCellHouse$Reader", "readSign", "(I)V"⟩, prog_10_method_12_code, 3, none, 0, 0, 8)
def n_129 : xM := (⟨"RobotCellHouse$Reader", "accept", "(I)V"⟩, prog_10_method_13_code, 2, none, 0, 0, 8)
def n_130 : xM := (⟨"RobotCellHouse$Reader", "refuse", "()V"⟩, prog_10_method_14_code, 1, none, 0, 0, 8)
def n_131 : xM := (⟨"RobotCellHouse$Reader", "stick", "(I)V"⟩, prog_10_method_15_code, 2, none, 0, 0, 8)
def n_132 : xM := (⟨"RobotCellHouse$Reader", "opens", "()Z"⟩, prog_10_method_16_code, 1, (some .boolean), 0, 0, 8)
def n_133 : xM := (⟨"RobotCellHouse$Reader", "complain", "(II)V"⟩, prog_10_method_17_code, 4, none, 0, 0, 8)
def n_134 : xM := (⟨"RobotCellHouse$Reader", "isSameName", "(II)Z"⟩, prog_10_method_18_code, 4, (some .boolean), 0, 0, 8)
def n_135 : xM := (⟨"RobotCellHouse$Reader", "findVariable", "(I)I"⟩, prog_10_method_19_code, 3, (some .int), 0, 0, 8)
def n_136 : xM := (⟨"RobotCellHouse$Reader", "findRoutine", "(I)I"⟩, prog_10_method_20_code, 3, (some .int), 0, 0, 8)
def n_137 : xM := (⟨"RobotCellHouse$Reader", "variableHere", "()I"⟩, prog_10_method_21_code, 2, (some .int), 0, 0, 8)
def n_138 : xM := (⟨"RobotCellHouse$Reader", "findRoutines", "()V"⟩, prog_10_method_22_code, 4, none, 0, 0, 8)
def n_139 : xM := (⟨"RobotCellHouse$Reader", "checkNewName", "()V"⟩, prog_10_method_23_code, 1, none, 0, 0, 8)
def n_140 : xM := (⟨"RobotCellHouse$Reader", "declarations", "()V"⟩, prog_10_method_24_code, 2, none, 0, 0, 8)
def n_141 : xM := (⟨"RobotCellHouse$Reader", "declareVariable", "()V"⟩, prog_10_method_25_code, 1, none, 0, 0, 8)
def n_142 : xM := (⟨"RobotCellHouse$Reader", "routine", "()V"⟩, prog_10_method_26_code, 1, none, 0, 0, 8)
def n_143 : xM := (⟨"RobotCellHouse$Reader", "isStatement", "()Z"⟩, prog_10_method_27_code, 1, (some .boolean), 0, 0, 8)
def n_144 : xM := (⟨"RobotCellHouse$Reader", "block", "()V"⟩, prog_10_method_28_code, 2, none, 0, 0, 8)
def n_145 : xM := (⟨"RobotCellHouse$Reader", "statement", "()V"⟩, prog_10_method_29_code, 1, none, 0, 0, 8)
def n_146 : xM := (⟨"RobotCellHouse$Reader", "bare", "(I)V"⟩, prog_10_method_30_code, 2, none, 0, 0, 8)
def n_147 : xM := (⟨"RobotCellHouse$Reader", "withNumber", "(I)V"⟩, prog_10_method_31_code, 3, none, 0, 0, 8)
def n_148 : xM := (⟨"RobotCellHouse$Reader", "withRoutine", "(I)V"⟩, prog_10_method_32_code, 3, none, 0, 0, 8)
def n_149 : xM := (⟨"RobotCellHouse$Reader", "assignment", "()V"⟩, prog_10_method_33_code, 2, none, 0, 0, 8)
def n_150 : xM := (⟨"RobotCellHouse$Reader", "movement", "()V"⟩, prog_10_method_34_code, 2, none, 0, 0, 8)
def n_151 : xM := (⟨"RobotCellHouse$Reader", "setting", "()V"⟩, prog_10_method_35_code, 1, none, 0, 0, 8)
def n_152 : xM := (⟨"RobotCellHouse$Reader", "watching", "()V"⟩, prog_10_method_36_code, 2, none, 0, 0, 8)
def n_153 : xM := (⟨"RobotCellHouse$Reader", "breaking", "()V"⟩, prog_10_method_37_code, 1, none, 0, 0, 8)
def n_154 : xM := (⟨"RobotCellHouse$Reader", "choice", "()V"⟩, prog_10_method_38_code, 3, none, 0, 0, 8)
def n_155 : xM := (⟨"RobotCellHouse$Reader", "repetition", "()V"⟩, prog_10_method_39_code, 5, none, 0, 0, 8)
def n_156 : xM := (⟨"RobotCellHouse$Reader", "attempt", "()V"⟩, prog_10_method_40_code, 2, none, 0, 0, 8)
def n_157 : xM := (⟨"RobotCellHouse$Reader", "laterPart", "(I)V"⟩, prog_10_method_41_code, 2, none, 0, 0, 8)
def n_158 : xM := (⟨"RobotCellHouse$Reader", "exp", "()V"⟩, prog_10_method_42_code, 3, none, 0, 0, 8)
def n_159 : xM := (⟨"RobotCellHouse$Reader", "all", "()V"⟩, prog_10_method_43_code, 3, none, 0, 0, 8)
def n_160 : xM := (⟨"RobotCellHouse$Reader", "fact", "()V"⟩, prog_10_method_44_code, 2, none, 0, 0, 8)
def n_161 : xM := (⟨"RobotCellHouse$Reader", "comparison", "()I"⟩, prog_10_method_45_code, 1, (some .int), 0, 0, 8)
def n_162 : xM := (⟨"RobotCellHouse$Reader", "sum", "()V"⟩, prog_10_method_46_code, 3, none, 0, 0, 8)
def n_163 : xM := (⟨"RobotCellHouse$Reader", "product", "()V"⟩, prog_10_method_47_code, 3, none, 0, 0, 8)
def n_164 : xM := (⟨"RobotCellHouse$Reader", "one", "()V"⟩, prog_10_method_48_code, 2, none, 0, 0, 8)
def n_165 : xM := (⟨"RobotCellHouse$Reader", "inParentheses", "()V"⟩, prog_10_method_49_code, 1, none, 0, 0, 8)
def n_166 : xM := (⟨"RobotCellHouse$Reader", "emitNumber", "()V"⟩, prog_10_method_50_code, 2, none, 0, 0, 8)
def n_167 : xM := (⟨"RobotCellHouse$Shapes", "addSolid", "(IIIII)I"⟩, prog_11_method_2_code, 6, (some .int), 0, 0, 9)
def n_168 : xM := (⟨"RobotCellHouse$Shapes", "addZone", "(IIIII)I"⟩, prog_11_method_3_code, 6, (some .int), 0, 0, 9)
def n_169 : xM := (⟨"RobotCellHouse$Shapes", "brokenZone", "([LRobotCellHouse$Arm;)I"⟩, prog_11_method_4_code, 5, (some .int), 0, 0, 9)
def n_170 : xM := (⟨"RobotCellHouse$Shapes", "breaksZone", "(ILRobotCellHouse$Arm;I)Z"⟩, prog_11_method_5_code, 6, (some .boolean), 0, 0, 9)
def n_171 : xM := (⟨"RobotCellHouse$Shapes", "touching", "([LRobotCellHouse$Arm;IIII)Z"⟩, prog_11_method_6_code, 11, (some .boolean), 0, 0, 9)
def n_172 : xM := (⟨"RobotCellHouse$Shapes", "nearBodies", "(LRobotCellHouse$Arm;II)Z"⟩, prog_11_method_7_code, 6, (some .boolean), 0, 0, 9)
def n_173 : xM := (⟨"RobotCellHouse$Shapes", "nearSolid", "(II)Z"⟩, prog_11_method_8_code, 7, (some .boolean), 0, 0, 9)
def n_174 : xM := (⟨"RobotCellHouse$Shapes", "isBeyond", "(IIIII)Z"⟩, prog_11_method_9_code, 6, (some .boolean), 0, 0, 9)
def n_175 : xM := (⟨"RobotCellHouse$Shapes", "nearLine", "(IIIII)Z"⟩, prog_11_method_10_code, 14, (some .boolean), 0, 0, 9)
def n_176 : xM := (⟨"RobotCellHouse$Shapes", "nearPlace", "(IIIII)Z"⟩, prog_11_method_11_code, 15, (some .boolean), 0, 0, 999)
def n_177 : xM := (⟨"RobotCellHouse$Shapes", "side", "(IIII)J"⟩, prog_11_method_12_code, 4, (some .long), 0, 0, 999)
def n_178 : xM := (⟨"RobotCellHouse$Shapes", "square", "(II)J"⟩, prog_11_method_13_code, 2, (some .long), 0, 0, 999)
def n_179 : xM := (⟨"RobotCellHouse$Task", "vanish", "()V"⟩, prog_12_method_2_code, 1, none, 0, 0, 10)
def n_180 : xM := (⟨"RobotCellHouse$Task", "begin", "(III)V"⟩, prog_12_method_3_code, 4, none, 0, 0, 10)
def n_181 : xM := (⟨"RobotCellHouse$Task", "finish", "(I)V"⟩, prog_12_method_4_code, 2, none, 0, 0, 10)
def n_182 : xM := (⟨"RobotCellHouse$Task", "enter", "(I)Z"⟩, prog_12_method_5_code, 2, (some .boolean), 0, 0, 10)
def n_183 : xM := (⟨"RobotCellHouse$Task", "leaveRoutine", "()V"⟩, prog_12_method_6_code, 1, none, 0, 0, 10)
def n_184 : xM := (⟨"RobotCellHouse$Task", "openTry", "(I)V"⟩, prog_12_method_7_code, 2, none, 0, 0, 10)
def n_185 : xM := (⟨"RobotCellHouse$Task", "endPart", "(LRobotCellHouse$Code;)V"⟩, prog_12_method_8_code, 4, none, 0, 0, 10)
def n_186 : xM := (⟨"RobotCellHouse$Task", "closeTry", "()I"⟩, prog_12_method_9_code, 1, (some .int), 0, 0, 10)
def n_187 : xM := (⟨"RobotCellHouse$Task", "leftBy", "()I"⟩, prog_12_method_10_code, 1, (some .int), 0, 0, 10)
def n_188 : xM := (⟨"RobotCellHouse$Task", "leave", "(LRobotCellHouse$Code;II)Z"⟩, prog_12_method_11_code, 7, (some .boolean), 0, 0, 10)
def n_189 : xM := (⟨"RobotCellHouse$Task", "goToPart", "(II)V"⟩, prog_12_method_12_code, 3, none, 0, 0, 10)
def n_190 : xM := (⟨"RobotCellHouse", "feed", "(IIIII)I"⟩, prog_1_method_2_code, 6, (some .int), 0, 0, 11)
def n_191 : xM := (⟨"RobotCellHouse", "cut", "(I)I"⟩, prog_1_method_3_code, 2, (some .int), 0, 0, 11)
def n_192 : xM := (⟨"RobotCellHouse", "build", "()I"⟩, prog_1_method_4_code, 2, (some .int), 0, 0, 11)
def n_193 : xM := (⟨"RobotCellHouse", "arm", "(IIII)I"⟩, prog_1_method_5_code, 5, (some .int), 0, 0, 11)
def n_194 : xM := (⟨"RobotCellHouse", "joint", "(IIIII)I"⟩, prog_1_method_6_code, 8, (some .int), 0, 0, 11)
def n_195 : xM := (⟨"RobotCellHouse", "pace", "(IIII)I"⟩, prog_1_method_7_code, 5, (some .int), 0, 0, 11)
def n_196 : xM := (⟨"RobotCellHouse", "radius", "(III)I"⟩, prog_1_method_8_code, 5, (some .int), 0, 0, 11)
def n_197 : xM := (⟨"RobotCellHouse", "ball", "(III)I"⟩, prog_1_method_9_code, 4, (some .int), 0, 0, 11)
def n_198 : xM := (⟨"RobotCellHouse", "box", "(IIII)I"⟩, prog_1_method_10_code, 5, (some .int), 0, 0, 11)
def n_199 : xM := (⟨"RobotCellHouse", "spare", "(III)I"⟩, prog_1_method_11_code, 4, (some .int), 0, 0, 11)
def n_200 : xM := (⟨"RobotCellHouse", "belt", "(IIIII)I"⟩, prog_1_method_12_code, 6, (some .int), 0, 0, 11)
def n_201 : xM := (⟨"RobotCellHouse", "drive", "(II)I"⟩, prog_1_method_13_code, 4, (some .int), 0, 0, 11)
def n_202 : xM := (⟨"RobotCellHouse", "sensor", "(IIII)I"⟩, prog_1_method_14_code, 5, (some .int), 0, 0, 11)
def n_203 : xM := (⟨"RobotCellHouse", "part", "(III)I"⟩, prog_1_method_15_code, 4, (some .int), 0, 0, 11)
def n_204 : xM := (⟨"RobotCellHouse", "lay", "(III)I"⟩, prog_1_method_16_code, 4, (some .int), 0, 0, 11)
def n_205 : xM := (⟨"RobotCellHouse", "zone", "(IIIII)I"⟩, prog_1_method_17_code, 6, (some .int), 0, 0, 11)
def n_206 : xM := (⟨"RobotCellHouse", "most", "(II)I"⟩, prog_1_method_18_code, 4, (some .int), 0, 0, 11)
def n_207 : xM := (⟨"RobotCellHouse", "input", "(I)I"⟩, prog_1_method_19_code, 2, (some .int), 0, 0, 11)
def n_208 : xM := (⟨"RobotCellHouse", "person", "(IZ)I"⟩, prog_1_method_20_code, 3, (some .int), 0, 0, 11)
def n_209 : xM := (⟨"RobotCellHouse", "wire", "(IIZ)I"⟩, prog_1_method_21_code, 4, (some .int), 0, 0, 11)
def n_210 : xM := (⟨"RobotCellHouse", "program", "(I)I"⟩, prog_1_method_22_code, 2, (some .int), 0, 0, 11)
def n_211 : xM := (⟨"RobotCellHouse", "fault", "(I)I"⟩, prog_1_method_23_code, 2, (some .int), 0, 0, 11)
def n_212 : xM := (⟨"RobotCellHouse", "open", "()I"⟩, prog_1_method_24_code, 1, (some .int), 0, 0, 11)
def n_213 : xM := (⟨"RobotCellHouse", "start", "(II)I"⟩, prog_1_method_25_code, 3, (some .int), 0, 0, 11)
def n_214 : xM := (⟨"RobotCellHouse", "run", "(I)I"⟩, prog_1_method_26_code, 4, (some .int), 0, 0, 11)
def n_215 : xM := (⟨"RobotCellHouse", "set", "(II)I"⟩, prog_1_method_27_code, 3, (some .int), 0, 0, 11)
def n_216 : xM := (⟨"RobotCellHouse", "force", "(IIZ)I"⟩, prog_1_method_28_code, 4, (some .int), 0, 0, 11)
def n_217 : xM := (⟨"RobotCellHouse", "channel", "(IZZ)I"⟩, prog_1_method_29_code, 4, (some .int), 0, 0, 11)
def n_218 : xM := (⟨"RobotCellHouse", "reset", "(I)I"⟩, prog_1_method_30_code, 2, (some .int), 0, 0, 11)
def n_219 : xM := (⟨"RobotCellHouse", "stop", "(I)I"⟩, prog_1_method_31_code, 2, (some .int), 0, 0, 11)
def n_220 : xM := (⟨"RobotCellHouse", "acknowledge", "(I)I"⟩, prog_1_method_32_code, 2, (some .int), 0, 0, 11)
def n_221 : xM := (⟨"RobotCellHouse", "hand", "(III)I"⟩, prog_1_method_33_code, 4, (some .int), 0, 0, 11)
def n_222 : xM := (⟨"RobotCellHouse", "aim", "(II)I"⟩, prog_1_method_34_code, 3, (some .int), 0, 0, 11)
def n_223 : xM := (⟨"RobotCellHouse", "plan", "(III)I"⟩, prog_1_method_35_code, 6, (some .int), 0, 0, 11)
def n_224 : xM := (⟨"RobotCellHouse", "travel", "(I)I"⟩, prog_1_method_36_code, 2, (some .int), 0, 0, 11)
def n_225 : xM := (⟨"RobotCellHouse", "back", "(I)I"⟩, prog_1_method_37_code, 5, (some .int), 0, 0, 11)
def n_226 : xM := (⟨"RobotCellHouse", "time", "()I"⟩, prog_1_method_38_code, 1, (some .int), 0, 0, 11)
def n_227 : xM := (⟨"RobotCellHouse", "state", "(II)I"⟩, prog_1_method_39_code, 4, (some .int), 0, 0, 11)
def n_228 : xM := (⟨"RobotCellHouse", "value", "(II)I"⟩, prog_1_method_40_code, 3, (some .int), 0, 0, 11)
def n_229 : xM := (⟨"RobotCellHouse", "point", "(III)I"⟩, prog_1_method_41_code, 4, (some .int), 0, 0, 11)
def n_230 : xM := (⟨"RobotCellHouse", "step", "(II)I"⟩, prog_1_method_42_code, 3, (some .int), 0, 0, 11)
def n_231 : xM := (⟨"RobotCellHouse", "task", "(II)I"⟩, prog_1_method_43_code, 4, (some .int), 0, 0, 11)
def n_232 : xM := (⟨"RobotCellHouse", "variable", "(II)I"⟩, prog_1_method_44_code, 3, (some .int), 0, 0, 11)
def n_233 : xM := (⟨"RobotCellHouse", "signal", "(II)I"⟩, prog_1_method_45_code, 3, (some .int), 0, 0, 11)
def n_234 : xM := (⟨"RobotCellHouse", "lock", "(I)I"⟩, prog_1_method_46_code, 2, (some .int), 0, 0, 11)
def n_235 : xM := (⟨"RobotCellHouse", "about", "(II)I"⟩, prog_1_method_47_code, 5, (some .int), 0, 0, 11)
def n_236 : xM := (⟨"RobotCellHouse", "safety", "(I)I"⟩, prog_1_method_48_code, 2, (some .int), 0, 0, 11)
def n_237 : xM := (⟨"RobotCellHouse", "events", "()I"⟩, prog_1_method_49_code, 1, (some .int), 0, 0, 11)
def n_238 : xM := (⟨"RobotCellHouse", "event", "(II)I"⟩, prog_1_method_50_code, 3, (some .int), 0, 0, 11)
def n_239 : xM := (⟨"RobotCellHouse", "touches", "(II)I"⟩, prog_1_method_51_code, 3, (some .int), 0, 0, 11)
def n_240 : xM := (⟨"RobotCellHouse", "count", "(I)I"⟩, prog_1_method_52_code, 2, (some .int), 0, 0, 11)
def n_241 : xM := (⟨"RobotCellHouse", "never", "(I)I"⟩, prog_1_method_53_code, 2, (some .int), 0, 0, 11)
def n_242 : xM := (⟨"RobotCellHouse", "within", "(III)Z"⟩, prog_1_method_54_code, 3, (some .boolean), 0, 0, 999)
def n_243 : xM := (⟨"RobotCellHouse", "isPlace", "(II)Z"⟩, prog_1_method_55_code, 2, (some .boolean), 0, 0, 999)
def n_244 : xM := (⟨"RobotCellHouse", "isBox", "(IIII)Z"⟩, prog_1_method_56_code, 4, (some .boolean), 0, 0, 999)
def n_245 : xM := (⟨"RobotCellHouse", "isPoint", "(I)Z"⟩, prog_1_method_57_code, 1, (some .boolean), 0, 0, 999)
def n_246 : xM := (⟨"RobotCellHouse", "isArm", "(I)Z"⟩, prog_1_method_58_code, 2, (some .boolean), 0, 0, 11)
def n_247 : xM := (⟨"RobotCellHouse", "isJoint", "(II)Z"⟩, prog_1_method_59_code, 3, (some .boolean), 0, 0, 11)
def n_248 : xM := (⟨"RobotCellHouse", "isBelt", "(I)Z"⟩, prog_1_method_60_code, 2, (some .boolean), 0, 0, 11)
def n_249 : xM := (⟨"RobotCellHouse", "sine", "(I)I"⟩, prog_1_method_61_code, 2, (some .int), 0, 0, 999)
def n_250 : xM := (⟨"RobotCellHouse", "cosine", "(I)I"⟩, prog_1_method_62_code, 1, (some .int), 0, 0, 999)
def n_251 : xM := (⟨"RobotCellHouse", "clear", "()V"⟩, prog_1_method_63_code, 2, none, 0, 0, 11)
def n_252 : xM := (⟨"RobotCellHouse", "rewind", "()V"⟩, prog_1_method_64_code, 2, none, 0, 0, 11)
def n_253 : xM := (⟨"RobotCellHouse", "isBookOpen", "()Z"⟩, prog_1_method_65_code, 1, (some .boolean), 0, 0, 11)
def n_254 : xM := (⟨"RobotCellHouse", "write", "(IIII)V"⟩, prog_1_method_66_code, 6, none, 0, 0, 11)
def n_255 : xM := (⟨"RobotCellHouse", "enter", "(IIII)I"⟩, prog_1_method_67_code, 5, (some .int), 0, 0, 11)
def n_256 : xM := (⟨"RobotCellHouse", "carryOut", "(IIII)I"⟩, prog_1_method_68_code, 5, (some .int), 0, 0, 11)
def n_257 : xM := (⟨"RobotCellHouse", "halt", "(I)I"⟩, prog_1_method_69_code, 3, (some .int), 0, 0, 11)
def n_258 : xM := (⟨"RobotCellHouse", "lead", "(III)I"⟩, prog_1_method_70_code, 5, (some .int), 0, 0, 11)
def n_259 : xM := (⟨"RobotCellHouse", "tick", "()V"⟩, prog_1_method_71_code, 3, none, 0, 0, 11)
def n_260 : xM := (⟨"RobotCellHouse", "goOn", "(I)V"⟩, prog_1_method_72_code, 3, none, 0, 0, 11)
def n_261 : xM := (⟨"RobotCellHouse", "endMove", "(I)V"⟩, prog_1_method_73_code, 3, none, 0, 0, 11)
def n_262 : xM := (⟨"RobotCellHouse", "guard", "()V"⟩, prog_1_method_74_code, 3, none, 0, 0, 11)
def n_263 : xM := (⟨"RobotCellHouse", "firstTouching", "()I"⟩, prog_1_method_75_code, 2, (some .int), 0, 0, 11)
def n_264 : xM := (⟨"RobotCellHouse", "countTravellers", "()V"⟩, prog_1_method_76_code, 3, none, 0, 0, 11)
def n_265 : xM := (⟨"RobotCellHouse", "trip", "(II)V"⟩, prog_1_method_77_code, 4, none, 0, 0, 11)
def n_266 : xM := (⟨"RobotCellHouseModel", "within", "(JJJ)Z"⟩, prog_14_method_2_code, 6, (some .boolean), 0, 0, 999)
def n_267 : xM := (⟨"RobotCellHouseModel", "renew", "()V"⟩, prog_14_method_3_code, 2, none, 0, 0, 12)
def n_268 : xM := (⟨"RobotCellHouseModel", "armAt", "(I)I"⟩, prog_14_method_4_code, 1, (some .int), 0, 0, 999)
def n_269 : xM := (⟨"RobotCellHouseModel", "taskAt", "(I)I"⟩, prog_14_method_5_code, 1, (some .int), 0, 0, 999)
def n_270 : xM := (⟨"RobotCellHouseModel", "isArm", "(I)Z"⟩, prog_14_method_6_code, 2, (some .boolean), 0, 0, 12)
def n_271 : xM := (⟨"RobotCellHouseModel", "isJoint", "(II)Z"⟩, prog_14_method_7_code, 3, (some .boolean), 0, 0, 12)
def n_272 : xM := (⟨"RobotCellHouseModel", "isPlace", "(II)Z"⟩, prog_14_method_8_code, 2, (some .boolean), 0, 0, 999)
def n_273 : xM := (⟨"RobotCellHouseModel", "isArea", "(IIII)Z"⟩, prog_14_method_9_code, 4, (some .boolean), 0, 0, 999)
def n_274 : xM := (⟨"RobotCellHouseModel", "feed", "(IIIII)I"⟩, prog_14_method_10_code, 6, (some .int), 0, 0, 12)
def n_275 : xM := (⟨"RobotCellHouseModel", "word", "(I)V"⟩, prog_14_method_11_code, 3, none, 0, 0, 12)
def n_276 : xM := (⟨"RobotCellHouseModel", "cut", "(I)I"⟩, prog_14_method_12_code, 2, (some .int), 0, 0, 12)
def n_277 : xM := (⟨"RobotCellHouseModel", "build", "()I"⟩, prog_14_method_13_code, 2, (some .int), 0, 0, 12)
def n_278 : xM := (⟨"RobotCellHouseModel", "arm", "(IIII)I"⟩, prog_14_method_14_code, 5, (some .int), 0, 0, 12)
def n_279 : xM := (⟨"RobotCellHouseModel", "joint", "(IIIII)I"⟩, prog_14_method_15_code, 9, (some .int), 0, 0, 12)
def n_280 : xM := (⟨"RobotCellHouseModel", "radius", "(III)I"⟩, prog_14_method_16_code, 5, (some .int), 0, 0, 12)
def n_281 : xM := (⟨"RobotCellHouseModel", "pace", "(IIII)I"⟩, prog_14_method_17_code, 5, (some .int), 0, 0, 12)
def n_282 : xM := (⟨"RobotCellHouseModel", "solid", "(ZIIII)I"⟩, prog_14_method_18_code, 6, (some .int), 0, 0, 12)
def n_283 : xM := (⟨"RobotCellHouseModel", "ball", "(III)I"⟩, prog_14_method_19_code, 4, (some .int), 0, 0, 12)
def n_284 : xM := (⟨"RobotCellHouseModel", "box", "(IIII)I"⟩, prog_14_method_20_code, 5, (some .int), 0, 0, 12)
def n_285 : xM := (⟨"RobotCellHouseModel", "spare", "(III)I"⟩, prog_14_method_21_code, 6, (some .int), 0, 0, 12)
def n_286 : xM := (⟨"RobotCellHouseModel", "belt", "(IIIII)I"⟩, prog_14_method_22_code, 7, (some .int), 0, 0, 12)
def n_287 : xM := (⟨"RobotCellHouseModel", "drive", "(II)I"⟩, prog_14_method_23_code, 4, (some .int), 0, 0, 12)
def n_288 : xM := (⟨"RobotCellHouseModel", "sensor", "(IIII)I"⟩, prog_14_method_24_code, 5, (some .int), 0, 0, 12)
def n_289 : xM := (⟨"RobotCellHouseModel", "part", "(III)I"⟩, prog_14_method_25_code, 4, (some .int), 0, 0, 12)
def n_290 : xM := (⟨"RobotCellHouseModel", "lay", "(III)I"⟩, prog_14_method_26_code, 4, (some .int), 0, 0, 12)
def n_291 : xM := (⟨"RobotCellHouseModel", "zone", "(IIIII)I"⟩, prog_14_method_27_code, 6, (some .int), 0, 0, 12)
def n_292 : xM := (⟨"RobotCellHouseModel", "most", "(II)I"⟩, prog_14_method_28_code, 4, (some .int), 0, 0, 12)
def n_293 : xM := (⟨"RobotCellHouseModel", "input", "(I)I"⟩, prog_14_method_29_code, 2, (some .int), 0, 0, 12)
def n_294 : xM := (⟨"RobotCellHouseModel", "person", "(IZ)I"⟩, prog_14_method_30_code, 3, (some .int), 0, 0, 12)
def n_295 : xM := (⟨"RobotCellHouseModel", "wire", "(IIZ)I"⟩, prog_14_method_31_code, 6, (some .int), 0, 0, 12)
def n_296 : xM := (⟨"RobotCellHouseModel", "open", "()I"⟩, prog_14_method_32_code, 2, (some .int), 0, 0, 12)
def n_297 : xM := (⟨"RobotCellHouseModel", "times", "(JJ)J"⟩, prog_14_method_33_code, 12, (some .long), 0, 0, 999)
def n_298 : xM := (⟨"RobotCellHouseModel", "series", "(JI)J"⟩, prog_14_method_34_code, 11, (some .long), 0, 0, 999)
def n_299 : xM := (⟨"RobotCellHouseModel", "makeSines", "()V"⟩, prog_14_method_35_code, 4, none, 0, 0, 12)
def n_300 : xM := (⟨"RobotCellHouseModel", "sine", "(I)I"⟩, prog_14_method_36_code, 3, (some .int), 0, 0, 12)
def n_301 : xM := (⟨"RobotCellHouseModel", "points", "(IZ)V"⟩, prog_14_method_37_code, 12, none, 0, 0, 12)
def n_302 : xM := (⟨"RobotCellHouseModel", "allPoints", "()V"⟩, prog_14_method_38_code, 2, none, 0, 0, 12)
def n_303 : xM := (⟨"RobotCellHouseModel", "keepPoints", "()V"⟩, prog_14_method_39_code, 3, none, 0, 0, 12)
def n_304 : xM := (⟨"RobotCellHouseModel", "bodies", "(I)I"⟩, prog_14_method_40_code, 2, (some .int), 0, 0, 12)
def n_305 : xM := (⟨"RobotCellHouseModel", "body", "(III)V"⟩, prog_14_method_41_code, 5, none, 0, 0, 12)
def n_306 : xM := (⟨"RobotCellHouseModel", "near", "(JJJ)Z"⟩, prog_14_method_42_code, 6, (some .boolean), 0, 0, 999)
def n_307 : xM := (⟨"RobotCellHouseModel", "nearLine", "(JJJJJJJ)Z"⟩, prog_14_method_43_code, 28, (some .boolean), 0, 0, 999)
def n_308 : xM := (⟨"RobotCellHouseModel", "side", "(JJJJJJ)I"⟩, prog_14_method_44_code, 14, (some .int), 0, 0, 999)
def n_309 : xM := (⟨"RobotCellHouseModel", "apart", "(JJJJJ)Z"⟩, prog_14_method_45_code, 10, (some .boolean), 0, 0, 999)
def n_310 : xM := (⟨"RobotCellHouseModel", "nearLines", "([I[IJ)Z"⟩, prog_14_method_46_code, 5, (some .boolean), 0, 0, 999)
def n_311 : xM := (⟨"RobotCellHouseModel", "line", "([IIIII)V"⟩, prog_14_method_47_code, 6, none, 0, 0, 12)
def n_312 : xM := (⟨"RobotCellHouseModel", "bodyLine", "([I)V"⟩, prog_14_method_48_code, 2, none, 0, 0, 12)
def n_313 : xM := (⟨"RobotCellHouseModel", "touchBodies", "(IIIIIII)Z"⟩, prog_14_method_49_code, 9, (some .boolean), 0, 0, 12)
def n_314 : xM := (⟨"RobotCellHouseModel", "touchSolid", "(IIIII)Z"⟩, prog_14_method_50_code, 14, (some .boolean), 0, 0, 12)
def n_315 : xM := (⟨"RobotCellHouseModel", "alone", "(III)Z"⟩, prog_14_method_51_code, 7, (some .boolean), 0, 0, 12)
def n_316 : xM := (⟨"RobotCellHouseModel", "both", "(IIII)Z"⟩, prog_14_method_52_code, 7, (some .boolean), 0, 0, 12)
def n_317 : xM := (⟨"RobotCellHouseModel", "any", "(III)Z"⟩, prog_14_method_53_code, 6, (some .boolean), 0, 0, 12)
def n_318 : xM := (⟨"RobotCellHouseModel", "touches", "(II)I"⟩, prog_14_method_54_code, 3, (some .int), 0, 0, 12)
def n_319 : xM := (⟨"RobotCellHouseModel", "note", "(III)V"⟩, prog_14_method_55_code, 5, none, 0, 0, 12)
def n_320 : xM := (⟨"RobotCellHouseModel", "valueOf", "(I)I"⟩, prog_14_method_56_code, 6, (some .int), 0, 0, 12)
def n_321 : xM := (⟨"RobotCellHouseModel", "beforeChange", "()V"⟩, prog_14_method_57_code, 2, none, 0, 0, 12)
def n_322 : xM := (⟨"RobotCellHouseModel", "behindChange", "()V"⟩, prog_14_method_58_code, 2, none, 0, 0, 12)
def n_323 : xM := (⟨"RobotCellHouseModel", "setOwn", "(II)V"⟩, prog_14_method_59_code, 3, none, 0, 0, 12)
def n_324 : xM := (⟨"RobotCellHouseModel", "isLetter", "(I)Z"⟩, prog_14_method_60_code, 1, (some .boolean), 0, 0, 999)
def n_325 : xM := (⟨"RobotCellHouseModel", "isDigit", "(I)Z"⟩, prog_14_method_61_code, 1, (some .boolean), 0, 0, 999)
def n_326 : xM := (⟨"RobotCellHouseModel", "byteAt", "(I)I"⟩, prog_14_method_62_code, 2, (some .int), 0, 0, 12)
def n_327 : xM := (⟨"RobotCellHouseModel", "nextToken", "()V"⟩, prog_14_method_63_code, 4, none, 0, 0, 12)
def n_328 : xM := (⟨"RobotCellHouseModel", "readWord", "()V"⟩, prog_14_method_64_code, 5, none, 0, 0, 12)
def n_329 : xM := (⟨"RobotCellHouseModel", "readNumber", "()V"⟩, prog_14_method_65_code, 4, none, 0, 0, 12)
def n_330 : xM := (⟨"RobotCellHouseModel", "readSign", "(I)V"⟩, prog_14_method_66_code, 3, none, 0, 0, 12)
def n_331 : xM := (⟨"RobotCellHouseModel", "isSign", "(I)Z"⟩, prog_14_method_67_code, 2, (some .boolean), 0, 0, 12)
def n_332 : xM := (⟨"RobotCellHouseModel", "isKey", "(I)Z"⟩, prog_14_method_68_code, 2, (some .boolean), 0, 0, 12)
def n_333 : xM := (⟨"RobotCellHouseModel", "refuse", "(I)V"⟩, prog_14_method_69_code, 2, none, 0, 0, 12)
def n_334 : xM := (⟨"RobotCellHouseModel", "must", "(Z)V"⟩, prog_14_method_70_code, 2, none, 0, 0, 12)
def n_335 : xM := (⟨"RobotCellHouseModel", "opened", "()V"⟩, prog_14_method_71_code, 1, none, 0, 0, 12)
def n_336 : xM := (⟨"RobotCellHouseModel", "emit", "(II)I"⟩, prog_14_method_72_code, 4, (some .int), 0, 0, 12)
def n_337 : xM := (⟨"RobotCellHouseModel", "patch", "(I)V"⟩, prog_14_method_73_code, 2, none, 0, 0, 12)
def n_338 : xM := (⟨"RobotCellHouseModel", "name", "(II)V"⟩, prog_14_method_74_code, 3, none, 0, 0, 12)
def n_339 : xM := (⟨"RobotCellHouseModel", "exp", "()V"⟩, prog_14_method_75_code, 2, none, 0, 0, 12)
def n_340 : xM := (⟨"RobotCellHouseModel", "all", "()V"⟩, prog_14_method_76_code, 2, none, 0, 0, 12)
def n_341 : xM := (⟨"RobotCellHouseModel", "closeChain", "(I)V"⟩, prog_14_method_77_code, 4, none, 0, 0, 12)
def n_342 : xM := (⟨"RobotCellHouseModel", "fact", "()V"⟩, prog_14_method_78_code, 2, none, 0, 0, 12)
def n_343 : xM := (⟨"RobotCellHouseModel", "sum", "()V"⟩, prog_14_method_79_code, 2, none, 0, 0, 12)
def n_344 : xM := (⟨"RobotCellHouseModel", "product", "()V"⟩, prog_14_method_80_code, 2, none, 0, 0, 12)
def n_345 : xM := (⟨"RobotCellHouseModel", "bracket", "()V"⟩, prog_14_method_81_code, 1, none, 0, 0, 12)
def n_346 : xM := (⟨"RobotCellHouseModel", "single", "()V"⟩, prog_14_method_82_code, 2, none, 0, 0, 12)
def n_347 : xM := (⟨"RobotCellHouseModel", "begins", "()Z"⟩, prog_14_method_83_code, 1, (some .boolean), 0, 0, 12)
def n_348 : xM := (⟨"RobotCellHouseModel", "stats", "()V"⟩, prog_14_method_84_code, 2, none, 0, 0, 12)
def n_349 : xM := (⟨"RobotCellHouseModel", "plain", "(I)V"⟩, prog_14_method_85_code, 4, none, 0, 0, 12)
def n_350 : xM := (⟨"RobotCellHouseModel", "branch", "()V"⟩, prog_14_method_86_code, 3, none, 0, 0, 12)
def n_351 : xM := (⟨"RobotCellHouseModel", "again", "()V"⟩, prog_14_method_87_code, 5, none, 0, 0, 12)
def n_352 : xM := (⟨"RobotCellHouseModel", "attempt", "()V"⟩, prog_14_method_88_code, 4, none, 0, 0, 12)
def n_353 : xM := (⟨"RobotCellHouseModel", "text", "()V"⟩, prog_14_method_89_code, 1, none, 0, 0, 12)
def n_354 : xM := (⟨"RobotCellHouseModel", "isSameName", "(II)Z"⟩, prog_14_method_90_code, 5, (some .boolean), 0, 0, 12)
def n_355 : xM := (⟨"RobotCellHouseModel", "told", "(III)I"⟩, prog_14_method_91_code, 6, (some .int), 0, 0, 12)
def n_356 : xM := (⟨"RobotCellHouseModel", "resolve", "()V"⟩, prog_14_method_92_code, 5, none, 0, 0, 12)
def n_357 : xM := (⟨"RobotCellHouseModel", "program", "(I)I"⟩, prog_14_method_93_code, 3, (some .int), 0, 0, 12)
def n_358 : xM := (⟨"RobotCellHouseModel", "fault", "(I)I"⟩, prog_14_method_94_code, 2, (some .int), 0, 0, 12)
def n_359 : xM := (⟨"RobotCellHouseModel", "newTask", "(II)I"⟩, prog_14_method_95_code, 6, (some .int), 0, 0, 12)
def n_360 : xM := (⟨"RobotCellHouseModel", "freeLock", "(I)V"⟩, prog_14_method_96_code, 5, none, 0, 0, 12)
def n_361 : xM := (⟨"RobotCellHouseModel", "freeAll", "(I)V"⟩, prog_14_method_97_code, 3, none, 0, 0, 12)
def n_362 : xM := (⟨"RobotCellHouseModel", "where", "()I"⟩, prog_14_method_98_code, 1, (some .int), 0, 0, 12)
def n_363 : xM := (⟨"RobotCellHouseModel", "push", "(I)V"⟩, prog_14_method_99_code, 2, none, 0, 0, 12)
def n_364 : xM := (⟨"RobotCellHouseModel", "pop", "()I"⟩, prog_14_method_100_code, 1, (some .int), 0, 0, 12)
def n_365 : xM := (⟨"RobotCellHouseModel", "go", "(I)V"⟩, prog_14_method_101_code, 2, none, 0, 0, 12)
def n_366 : xM := (⟨"RobotCellHouseModel", "turnOf", "(I)V"⟩, prog_14_method_102_code, 2, none, 0, 0, 12)
def n_367 : xM := (⟨"RobotCellHouseModel", "enter", "(II)V"⟩, prog_14_method_103_code, 3, none, 0, 0, 12)
def n_368 : xM := (⟨"RobotCellHouseModel", "doBegin", "()V"⟩, prog_14_method_104_code, 2, none, 0, 0, 12)
def n_369 : xM := (⟨"RobotCellHouseModel", "fails", "(I)V"⟩, prog_14_method_105_code, 2, none, 0, 0, 12)
def n_370 : xM := (⟨"RobotCellHouseModel", "await", "(II)V"⟩, prog_14_method_106_code, 4, none, 0, 0, 12)
def n_371 : xM := (⟨"RobotCellHouseModel", "leave", "(III)V"⟩, prog_14_method_107_code, 8, none, 0, 0, 12)
def n_372 : xM := (⟨"RobotCellHouseModel", "out", "(II)I"⟩, prog_14_method_108_code, 4, (some .int), 0, 0, 12)
def n_373 : xM := (⟨"RobotCellHouseModel", "doAct", "()V"⟩, prog_14_method_109_code, 4, none, 0, 0, 12)
def n_374 : xM := (⟨"RobotCellHouseModel", "reckon", "(III)V"⟩, prog_14_method_110_code, 10, none, 0, 0, 12)
def n_375 : xM := (⟨"RobotCellHouseModel", "reckoned", "(III)I"⟩, prog_14_method_111_code, 3, (some .int), 0, 0, 999)
def n_376 : xM := (⟨"RobotCellHouseModel", "doStatement", "(III)V"⟩, prog_14_method_112_code, 7, none, 0, 0, 12)
def n_377 : xM := (⟨"RobotCellHouseModel", "doFinallyOver", "(I)V"⟩, prog_14_method_113_code, 3, none, 0, 0, 12)
def n_378 : xM := (⟨"RobotCellHouseModel", "doOther", "(II)I"⟩, prog_14_method_114_code, 7, (some .int), 0, 0, 12)
def n_379 : xM := (⟨"RobotCellHouseModel", "doTake", "(I)I"⟩, prog_14_method_115_code, 2, (some .int), 0, 0, 12)
def n_380 : xM := (⟨"RobotCellHouseModel", "doMove", "(II)V"⟩, prog_14_method_116_code, 7, none, 0, 0, 12)
def n_381 : xM := (⟨"RobotCellHouseModel", "beginMove", "(I)V"⟩, prog_14_method_117_code, 7, none, 0, 0, 12)
def n_382 : xM := (⟨"RobotCellHouseModel", "fewest", "(III)I"⟩, prog_14_method_118_code, 9, (some .int), 0, 0, 999)
def n_383 : xM := (⟨"RobotCellHouseModel", "breakMove", "(I)V"⟩, prog_14_method_119_code, 3, none, 0, 0, 12)
def n_384 : xM := (⟨"RobotCellHouseModel", "brake", "(I)V"⟩, prog_14_method_120_code, 2, none, 0, 0, 12)
def n_385 : xM := (⟨"RobotCellHouseModel", "trip", "(II)V"⟩, prog_14_method_121_code, 6, none, 0, 0, 12)
def n_386 : xM := (⟨"RobotCellHouseModel", "greatest", "(IIII)I"⟩, prog_14_method_122_code, 9, (some .int), 0, 0, 999)
def n_387 : xM := (⟨"RobotCellHouseModel", "nearer", "(II)I"⟩, prog_14_method_123_code, 2, (some .int), 0, 0, 999)
def n_388 : xM := (⟨"RobotCellHouseModel", "goOn", "(I)V"⟩, prog_14_method_124_code, 10, none, 0, 0, 12)
def n_389 : xM := (⟨"RobotCellHouseModel", "tally", "(IZ)V"⟩, prog_14_method_125_code, 3, none, 0, 0, 12)
def n_390 : xM := (⟨"RobotCellHouseModel", "stale", "(I)V"⟩, prog_14_method_126_code, 3, none, 0, 0, 12)
def n_391 : xM := (⟨"RobotCellHouseModel", "nextOfWay", "(I)V"⟩, prog_14_method_127_code, 5, none, 0, 0, 12)
def n_392 : xM := (⟨"RobotCellHouseModel", "partAt", "(I)I"⟩, prog_14_method_128_code, 1, (some .int), 0, 0, 999)
def n_393 : xM := (⟨"RobotCellHouseModel", "comes", "(III)V"⟩, prog_14_method_129_code, 7, none, 0, 0, 12)
def n_394 : xM := (⟨"RobotCellHouseModel", "lies", "(III)V"⟩, prog_14_method_130_code, 4, none, 0, 0, 12)
def n_395 : xM := (⟨"RobotCellHouseModel", "middle", "(II)I"⟩, prog_14_method_131_code, 5, (some .int), 0, 0, 12)
def n_396 : xM := (⟨"RobotCellHouseModel", "doGrip", "(I)Z"⟩, prog_14_method_132_code, 15, (some .boolean), 0, 0, 12)
def n_397 : xM := (⟨"RobotCellHouseModel", "doDrop", "(I)Z"⟩, prog_14_method_133_code, 11, (some .boolean), 0, 0, 12)
def n_398 : xM := (⟨"RobotCellHouseModel", "driveBelt", "(I)V"⟩, prog_14_method_134_code, 10, none, 0, 0, 12)
def n_399 : xM := (⟨"RobotCellHouseModel", "isWell", "(I)Z"⟩, prog_14_method_135_code, 3, (some .boolean), 0, 0, 12)
def n_400 : xM := (⟨"RobotCellHouseModel", "firstNotWell", "()I"⟩, prog_14_method_136_code, 2, (some .int), 0, 0, 12)
def n_401 : xM := (⟨"RobotCellHouseModel", "lookAtInputs", "()V"⟩, prog_14_method_137_code, 3, none, 0, 0, 12)
def n_402 : xM := (⟨"RobotCellHouseModel", "armsGoOn", "()V"⟩, prog_14_method_138_code, 3, none, 0, 0, 12)
def n_403 : xM := (⟨"RobotCellHouseModel", "countJoints", "(Z)V"⟩, prog_14_method_139_code, 8, none, 0, 0, 12)
def n_404 : xM := (⟨"RobotCellHouseModel", "firstTouching", "()I"⟩, prog_14_method_140_code, 4, (some .int), 0, 0, 12)
def n_405 : xM := (⟨"RobotCellHouseModel", "firstBroken", "()I"⟩, prog_14_method_141_code, 15, (some .int), 0, 0, 12)
def n_406 : xM := (⟨"RobotCellHouseModel", "look", "()V"⟩, prog_14_method_142_code, 4, none, 0, 0, 12)
def n_407 : xM := (⟨"RobotCellHouseModel", "countParts", "()V"⟩, prog_14_method_143_code, 5, none, 0, 0, 12)
def n_408 : xM := (⟨"RobotCellHouseModel", "tick", "()V"⟩, prog_14_method_144_code, 4, none, 0, 0, 12)
def n_409 : xM := (⟨"RobotCellHouseModel", "nodeCount", "(II)I"⟩, prog_14_method_145_code, 9, (some .int), 0, 0, 12)
def n_410 : xM := (⟨"RobotCellHouseModel", "digit", "(II)I"⟩, prog_14_method_146_code, 5, (some .int), 0, 0, 12)
def n_411 : xM := (⟨"RobotCellHouseModel", "weight", "(I)I"⟩, prog_14_method_147_code, 4, (some .int), 0, 0, 12)
def n_412 : xM := (⟨"RobotCellHouseModel", "tryNode", "(I)V"⟩, prog_14_method_148_code, 3, none, 0, 0, 12)
def n_413 : xM := (⟨"RobotCellHouseModel", "isClear", "()Z"⟩, prog_14_method_149_code, 1, (some .boolean), 0, 0, 12)
def n_414 : xM := (⟨"RobotCellHouseModel", "freeNode", "(I)Z"⟩, prog_14_method_150_code, 2, (some .boolean), 0, 0, 12)
def n_415 : xM := (⟨"RobotCellHouseModel", "freeEdge", "(II)Z"⟩, prog_14_method_151_code, 6, (some .boolean), 0, 0, 12)
def n_416 : xM := (⟨"RobotCellHouseModel", "beside", "(II)I"⟩, prog_14_method_152_code, 5, (some .int), 0, 0, 12)
def n_417 : xM := (⟨"RobotCellHouseModel", "search", "(III)I"⟩, prog_14_method_153_code, 11, (some .int), 0, 0, 12)
def n_418 : xM := (⟨"RobotCellHouseModel", "plan", "(III)I"⟩, prog_14_method_154_code, 10, (some .int), 0, 0, 12)
def n_419 : xM := (⟨"RobotCellHouseModel", "travel", "(I)I"⟩, prog_14_method_155_code, 5, (some .int), 0, 0, 12)
def n_420 : xM := (⟨"RobotCellHouseModel", "keepWay", "(IZ)V"⟩, prog_14_method_156_code, 6, none, 0, 0, 12)
def n_421 : xM := (⟨"RobotCellHouseModel", "keptWay", "(I)I"⟩, prog_14_method_157_code, 4, (some .int), 0, 0, 12)
def n_422 : xM := (⟨"RobotCellHouseModel", "isBookFull", "()Z"⟩, prog_14_method_158_code, 1, (some .boolean), 0, 0, 12)
def n_423 : xM := (⟨"RobotCellHouseModel", "write", "(IIII)V"⟩, prog_14_method_159_code, 7, none, 0, 0, 12)
def n_424 : xM := (⟨"RobotCellHouseModel", "isPoint", "(I)Z"⟩, prog_14_method_160_code, 2, (some .boolean), 0, 0, 12)
def n_425 : xM := (⟨"RobotCellHouseModel", "start", "(II)I"⟩, prog_14_method_161_code, 5, (some .int), 0, 0, 12)
def n_426 : xM := (⟨"RobotCellHouseModel", "run", "(I)I"⟩, prog_14_method_162_code, 4, (some .int), 0, 0, 12)
def n_427 : xM := (⟨"RobotCellHouseModel", "set", "(II)I"⟩, prog_14_method_163_code, 4, (some .int), 0, 0, 12)
def n_428 : xM := (⟨"RobotCellHouseModel", "force", "(IIZ)I"⟩, prog_14_method_164_code, 5, (some .int), 0, 0, 12)
def n_429 : xM := (⟨"RobotCellHouseModel", "channel", "(IZZ)I"⟩, prog_14_method_165_code, 4, (some .int), 0, 0, 12)
def n_430 : xM := (⟨"RobotCellHouseModel", "reset", "(I)I"⟩, prog_14_method_166_code, 3, (some .int), 0, 0, 12)
def n_431 : xM := (⟨"RobotCellHouseModel", "stop", "(I)I"⟩, prog_14_method_167_code, 3, (some .int), 0, 0, 12)
def n_432 : xM := (⟨"RobotCellHouseModel", "acknowledge", "(I)I"⟩, prog_14_method_168_code, 3, (some .int), 0, 0, 12)
def n_433 : xM := (⟨"RobotCellHouseModel", "hand", "(III)I"⟩, prog_14_method_169_code, 5, (some .int), 0, 0, 12)
def n_434 : xM := (⟨"RobotCellHouseModel", "aim", "(II)I"⟩, prog_14_method_170_code, 3, (some .int), 0, 0, 12)
def n_435 : xM := (⟨"RobotCellHouseModel", "done", "(IIII)I"⟩, prog_14_method_171_code, 5, (some .int), 0, 0, 12)
def n_436 : xM := (⟨"RobotCellHouseModel", "back", "(I)I"⟩, prog_14_method_172_code, 5, (some .int), 0, 0, 12)
def n_437 : xM := (⟨"RobotCellHouseModel", "time", "()I"⟩, prog_14_method_173_code, 1, (some .int), 0, 0, 12)
def n_438 : xM := (⟨"RobotCellHouseModel", "state", "(II)I"⟩, prog_14_method_174_code, 4, (some .int), 0, 0, 12)
def n_439 : xM := (⟨"RobotCellHouseModel", "value", "(II)I"⟩, prog_14_method_175_code, 3, (some .int), 0, 0, 12)
def n_440 : xM := (⟨"RobotCellHouseModel", "point", "(III)I"⟩, prog_14_method_176_code, 4, (some .int), 0, 0, 12)
def n_441 : xM := (⟨"RobotCellHouseModel", "step", "(II)I"⟩, prog_14_method_177_code, 3, (some .int), 0, 0, 12)
def n_442 : xM := (⟨"RobotCellHouseModel", "task", "(II)I"⟩, prog_14_method_178_code, 3, (some .int), 0, 0, 12)
def n_443 : xM := (⟨"RobotCellHouseModel", "variable", "(II)I"⟩, prog_14_method_179_code, 3, (some .int), 0, 0, 12)
def n_444 : xM := (⟨"RobotCellHouseModel", "signal", "(II)I"⟩, prog_14_method_180_code, 3, (some .int), 0, 0, 12)
def n_445 : xM := (⟨"RobotCellHouseModel", "lock", "(I)I"⟩, prog_14_method_181_code, 2, (some .int), 0, 0, 12)
def n_446 : xM := (⟨"RobotCellHouseModel", "about", "(II)I"⟩, prog_14_method_182_code, 3, (some .int), 0, 0, 12)
def n_447 : xM := (⟨"RobotCellHouseModel", "safety", "(I)I"⟩, prog_14_method_183_code, 2, (some .int), 0, 0, 12)
def n_448 : xM := (⟨"RobotCellHouseModel", "events", "()I"⟩, prog_14_method_184_code, 1, (some .int), 0, 0, 12)
def n_449 : xM := (⟨"RobotCellHouseModel", "event", "(II)I"⟩, prog_14_method_185_code, 3, (some .int), 0, 0, 12)
def n_450 : xM := (⟨"RobotCellHouseModel", "count", "(I)I"⟩, prog_14_method_186_code, 2, (some .int), 0, 0, 12)
def n_451 : xM := (⟨"RobotCellHouseModel", "never", "(I)I"⟩, prog_14_method_187_code, 2, (some .int), 0, 0, 12)
def n_452 : xM := (⟨"java/util/Arrays", "fill", "([II)V"⟩, prog_20_method_103_code, 4, none, 0, 0, 999)
def eI : Nat → xM := (x_TI 225 (x_TI 112 (x_TI 55 (x_TI 27 (x_TI 13 (x_TI 6 (x_TI 2 (x_TI 0 (fun _ => n_0) (x_TI 1 (fun _ => n_1) (fun _ => n_2))) (x_TI 4 (x_TI 3 (fun _ => n_3) (fun _ => n_4)) (x_TI 5 (fun _ => n_5) (fun _ => n_6)))) (x_TI 9 (x_TI 7 (fun _ => n_7) (x_TI 8 (fun _ => n_8) (fun _ => n_9))) (x_TI 11 (x_TI 10 (fun _ => n_10) (fun _ => n_11)) (x_TI 12 (fun _ => n_12) (fun _ => n_13))))) (x_TI 20 (x_TI 16 (x_TI 14 (fun _ => n_14) (x_TI 15 (fun _ => n_15) (fun _ => n_16))) (x_TI 18 (x_TI 17 (fun _ => n_17) (fun _ => n_18)) (x_TI 19 (fun _ => n_19) (fun _ => n_20)))) (x_TI 23 (x_TI 21 (fun _ => n_21) (x_TI 22 (fun _ => n_22) (fun _ => n_23))) (x_TI 25 (x_TI 24 (fun _ => n_24) (fun _ => n_25)) (x_TI 26 (fun _ => n_26) (fun _ => n_27)))))) (x_TI 41 (x_TI 34 (x_TI 30 (x_TI 28 (fun _ => n_28) (x_TI 29 (fun _ => n_29) (fun _ => n_30))) (x_TI 32 (x_TI 31 (fun _ => n_31) (fun _ => n_32)) (x_TI 33 (fun _ => n_33) (fun _ => n_34)))) (x_TI 37 (x_TI 35 (fun _ => n_35) (x_TI 36 (fun _ => n_36) (fun _ => n_37))) (x_TI 39 (x_TI 38 (fun _ => n_38) (fun _ => n_39)) (x_TI 40 (fun _ => n_40) (fun _ => n_41))))) (x_TI 48 (x_TI 44 (x_TI 42 (fun _ => n_42) (x_TI 43 (fun _ => n_43) (fun _ => n_44))) (x_TI 46 (x_TI 45 (fun _ => n_45) (fun _ => n_46)) (x_TI 47 (fun _ => n_47) (fun _ => n_48)))) (x_TI 51 (x_TI 49 (fun _ => n_49) (x_TI 50 (fun _ => n_50) (fun _ => n_51))) (x_TI 53 (x_TI 52 (fun _ => n_52) (fun _ => n_53)) (x_TI 54 (fun _ => n_54) (fun _ => n_55))))))) (x_TI 83 (x_TI 69 (x_TI 62 (x_TI 58 (x_TI 56 (fun _ => n_56) (x_TI 57 (fun _ => n_57) (fun _ => n_58))) (x_TI 60 (x_TI 59 (fun _ => n_59) (fun _ => n_60)) (x_TI 61 (fun _ => n_61) (fun _ => n_62)))) (x_TI 65 (x_TI 63 (fun _ => n_63) (x_TI 64 (fun _ => n_64) (fun _ => n_65))) (x_TI 67 (x_TI 66 (fun _ => n_66) (fun _ => n_67)) (x_TI 68 (fun _ => n_68) (fun _ => n_69))))) (x_TI 76 (x_TI 72 (x_TI 70 (fun _ => n_70) (x_TI 71 (fun _ => n_71) (fun _ => n_72))) (x_TI 74 (x_TI 73 (fun _ => n_73) (fun _ => n_74)) (x_TI 75 (fun _ => n_75) (fun _ => n_76)))) (x_TI 79 (x_TI 77 (fun _ => n_77) (x_TI 78 (fun _ => n_78) (fun _ => n_79))) (x_TI 81 (x_TI 80 (fun _ => n_80) (fun _ => n_81)) (x_TI 82 (fun _ => n_82) (fun _ => n_83)))))) (x_TI 97 (x_TI 90 (x_TI 86 (x_TI 84 (fun _ => n_84) (x_TI 85 (fun _ => n_85) (fun _ => n_86))) (x_TI 88 (x_TI 87 (fun _ => n_87) (fun _ => n_88)) (x_TI 89 (fun _ => n_89) (fun _ => n_90)))) (x_TI 93 (x_TI 91 (fun _ => n_91) (x_TI 92 (fun _ => n_92) (fun _ => n_93))) (x_TI 95 (x_TI 94 (fun _ => n_94) (fun _ => n_95)) (x_TI 96 (fun _ => n_96) (fun _ => n_97))))) (x_TI 104 (x_TI 100 (x_TI 98 (fun _ => n_98) (x_TI 99 (fun _ => n_99) (fun _ => n_100))) (x_TI 102 (x_TI 101 (fun _ => n_101) (fun _ => n_102)) (x_TI 103 (fun _ => n_103) (fun _ => n_104)))) (x_TI 108 (x_TI 106 (x_TI 105 (fun _ => n_105) (fun _ => n_106)) (x_TI 107 (fun _ => n_107) (fun _ => n_108))) (x_TI 110 (x_TI 109 (fun _ => n_109) (fun _ => n_110)) (x_TI 111 (fun _ => n_111) (fun _ => n_112)))))))) (x_TI 168 (x_TI 140 (x_TI 126 (x_TI 119 (x_TI 115 (x_TI 113 (fun _ => n_113) (x_TI 114 (fun _ => n_114) (fun _ => n_115))) (x_TI 117 (x_TI 116 (fun _ => n_116) (fun _ => n_117)) (x_TI 118 (fun _ => n_118) (fun _ => n_119)))) (x_TI 122 (x_TI 120 (fun _ => n_120) (x_TI 121 (fun _ => n_121) (fun _ => n_122))) (x_TI 124 (x_TI 123 (fun _ => n_123) (fun _ => n_124)) (x_TI 125 (fun _ => n_125) (fun _ => n_126))))) (x_TI 133 (x_TI 129 (x_TI 127 (fun _ => n_127) (x_TI 128 (fun _ => n_128) (fun _ => n_129))) (x_TI 131 (x_TI 130 (fun _ => n_130) (fun _ => n_131)) (x_TI 132 (fun _ => n_132) (fun _ => n_133)))) (x_TI 136 (x_TI 134 (fun _ => n_134) (x_TI 135 (fun _ => n_135) (fun _ => n_136))) (x_TI 138 (x_TI 137 (fun _ => n_137) (fun _ => n_138)) (x_TI 139 (fun _ => n_139) (fun _ => n_140)))))) (x_TI 154 (x_TI 147 (x_TI 143 (x_TI 141 (fun _ => n_141) (x_TI 142 (fun _ => n_142) (fun _ => n_143))) (x_TI 145 (x_TI 144 (fun _ => n_144) (fun _ => n_145)) (x_TI 146 (fun _ => n_146) (fun _ => n_147)))) (x_TI 150 (x_TI 148 (fun _ => n_148) (x_TI 149 (fun _ => n_149) (fun _ => n_150))) (x_TI 152 (x_TI 151 (fun _ => n_151) (fun _ => n_152)) (x_TI 153 (fun _ => n_153) (fun _ => n_154))))) (x_TI 161 (x_TI 157 (x_TI 155 (fun _ => n_155) (x_TI 156 (fun _ => n_156) (fun _ => n_157))) (x_TI 159 (x_TI 158 (fun _ => n_158) (fun _ => n_159)) (x_TI 160 (fun _ => n_160) (fun _ => n_161)))) (x_TI 164 (x_TI 162 (fun _ => n_162) (x_TI 163 (fun _ => n_163) (fun _ => n_164))) (x_TI 166 (x_TI 165 (fun _ => n_165) (fun _ => n_166)) (x_TI 167 (fun _ => n_167) (fun _ => n_168))))))) (x_TI 196 (x_TI 182 (x_TI 175 (x_TI 171 (x_TI 169 (fun _ => n_169) (x_TI 170 (fun _ => n_170) (fun _ => n_171))) (x_TI 173 (x_TI 172 (fun _ => n_172) (fun _ => n_173)) (x_TI 174 (fun _ => n_174) (fun _ => n_175)))) (x_TI 178 (x_TI 176 (fun _ => n_176) (x_TI 177 (fun _ => n_177) (fun _ => n_178))) (x_TI 180 (x_TI 179 (fun _ => n_179) (fun _ => n_180)) (x_TI 181 (fun _ => n_181) (fun _ => n_182))))) (x_TI 189 (x_TI 185 (x_TI 183 (fun _ => n_183) (x_TI 184 (fun _ => n_184) (fun _ => n_185))) (x_TI 187 (x_TI 186 (fun _ => n_186) (fun _ => n_187)) (x_TI 188 (fun _ => n_188) (fun _ => n_189)))) (x_TI 192 (x_TI 190 (fun _ => n_190) (x_TI 191 (fun _ => n_191) (fun _ => n_192))) (x_TI 194 (x_TI 193 (fun _ => n_193) (fun _ => n_194)) (x_TI 195 (fun _ => n_195) (fun _ => n_196)))))) (x_TI 210 (x_TI 203 (x_TI 199 (x_TI 197 (fun _ => n_197) (x_TI 198 (fun _ => n_198) (fun _ => n_199))) (x_TI 201 (x_TI 200 (fun _ => n_200) (fun _ => n_201)) (x_TI 202 (fun _ => n_202) (fun _ => n_203)))) (x_TI 206 (x_TI 204 (fun _ => n_204) (x_TI 205 (fun _ => n_205) (fun _ => n_206))) (x_TI 208 (x_TI 207 (fun _ => n_207) (fun _ => n_208)) (x_TI 209 (fun _ => n_209) (fun _ => n_210))))) (x_TI 217 (x_TI 213 (x_TI 211 (fun _ => n_211) (x_TI 212 (fun _ => n_212) (fun _ => n_213))) (x_TI 215 (x_TI 214 (fun _ => n_214) (fun _ => n_215)) (x_TI 216 (fun _ => n_216) (fun _ => n_217)))) (x_TI 221 (x_TI 219 (x_TI 218 (fun _ => n_218) (fun _ => n_219)) (x_TI 220 (fun _ => n_220) (fun _ => n_221))) (x_TI 223 (x_TI 222 (fun _ => n_222) (fun _ => n_223)) (x_TI 224 (fun _ => n_224) (fun _ => n_225))))))))) (x_TI 338 (x_TI 281 (x_TI 253 (x_TI 239 (x_TI 232 (x_TI 228 (x_TI 226 (fun _ => n_226) (x_TI 227 (fun _ => n_227) (fun _ => n_228))) (x_TI 230 (x_TI 229 (fun _ => n_229) (fun _ => n_230)) (x_TI 231 (fun _ => n_231) (fun _ => n_232)))) (x_TI 235 (x_TI 233 (fun _ => n_233) (x_TI 234 (fun _ => n_234) (fun _ => n_235))) (x_TI 237 (x_TI 236 (fun _ => n_236) (fun _ => n_237)) (x_TI 238 (fun _ => n_238) (fun _ => n_239))))) (x_TI 246 (x_TI 242 (x_TI 240 (fun _ => n_240) (x_TI 241 (fun _ => n_241) (fun _ => n_242))) (x_TI 244 (x_TI 243 (fun _ => n_243) (fun _ => n_244)) (x_TI 245 (fun _ => n_245) (fun _ => n_246)))) (x_TI 249 (x_TI 247 (fun _ => n_247) (x_TI 248 (fun _ => n_248) (fun _ => n_249))) (x_TI 251 (x_TI 250 (fun _ => n_250) (fun _ => n_251)) (x_TI 252 (fun _ => n_252) (fun _ => n_253)))))) (x_TI 267 (x_TI 260 (x_TI 256 (x_TI 254 (fun _ => n_254) (x_TI 255 (fun _ => n_255) (fun _ => n_256))) (x_TI 258 (x_TI 257 (fun _ => n_257) (fun _ => n_258)) (x_TI 259 (fun _ => n_259) (fun _ => n_260)))) (x_TI 263 (x_TI 261 (fun _ => n_261) (x_TI 262 (fun _ => n_262) (fun _ => n_263))) (x_TI 265 (x_TI 264 (fun _ => n_264) (fun _ => n_265)) (x_TI 266 (fun _ => n_266) (fun _ => n_267))))) (x_TI 274 (x_TI 270 (x_TI 268 (fun _ => n_268) (x_TI 269 (fun _ => n_269) (fun _ => n_270))) (x_TI 272 (x_TI 271 (fun _ => n_271) (fun _ => n_272)) (x_TI 273 (fun _ => n_273) (fun _ => n_274)))) (x_TI 277 (x_TI 275 (fun _ => n_275) (x_TI 276 (fun _ => n_276) (fun _ => n_277))) (x_TI 279 (x_TI 278 (fun _ => n_278) (fun _ => n_279)) (x_TI 280 (fun _ => n_280) (fun _ => n_281))))))) (x_TI 309 (x_TI 295 (x_TI 288 (x_TI 284 (x_TI 282 (fun _ => n_282) (x_TI 283 (fun _ => n_283) (fun _ => n_284))) (x_TI 286 (x_TI 285 (fun _ => n_285) (fun _ => n_286)) (x_TI 287 (fun _ => n_287) (fun _ => n_288)))) (x_TI 291 (x_TI 289 (fun _ => n_289) (x_TI 290 (fun _ => n_290) (fun _ => n_291))) (x_TI 293 (x_TI 292 (fun _ => n_292) (fun _ => n_293)) (x_TI 294 (fun _ => n_294) (fun _ => n_295))))) (x_TI 302 (x_TI 298 (x_TI 296 (fun _ => n_296) (x_TI 297 (fun _ => n_297) (fun _ => n_298))) (x_TI 300 (x_TI 299 (fun _ => n_299) (fun _ => n_300)) (x_TI 301 (fun _ => n_301) (fun _ => n_302)))) (x_TI 305 (x_TI 303 (fun _ => n_303) (x_TI 304 (fun _ => n_304) (fun _ => n_305))) (x_TI 307 (x_TI 306 (fun _ => n_306) (fun _ => n_307)) (x_TI 308 (fun _ => n_308) (fun _ => n_309)))))) (x_TI 323 (x_TI 316 (x_TI 312 (x_TI 310 (fun _ => n_310) (x_TI 311 (fun _ => n_311) (fun _ => n_312))) (x_TI 314 (x_TI 313 (fun _ => n_313) (fun _ => n_314)) (x_TI 315 (fun _ => n_315) (fun _ => n_316)))) (x_TI 319 (x_TI 317 (fun _ => n_317) (x_TI 318 (fun _ => n_318) (fun _ => n_319))) (x_TI 321 (x_TI 320 (fun _ => n_320) (fun _ => n_321)) (x_TI 322 (fun _ => n_322) (fun _ => n_323))))) (x_TI 330 (x_TI 326 (x_TI 324 (fun _ => n_324) (x_TI 325 (fun _ => n_325) (fun _ => n_326))) (x_TI 328 (x_TI 327 (fun _ => n_327) (fun _ => n_328)) (x_TI 329 (fun _ => n_329) (fun _ => n_330)))) (x_TI 334 (x_TI 332 (x_TI 331 (fun _ => n_331) (fun _ => n_332)) (x_TI 333 (fun _ => n_333) (fun _ => n_334))) (x_TI 336 (x_TI 335 (fun _ => n_335) (fun _ => n_336)) (x_TI 337 (fun _ => n_337) (fun _ => n_338)))))))) (x_TI 395 (x_TI 366 (x_TI 352 (x_TI 345 (x_TI 341 (x_TI 339 (fun _ => n_339) (x_TI 340 (fun _ => n_340) (fun _ => n_341))) (x_TI 343 (x_TI 342 (fun _ => n_342) (fun _ => n_343)) (x_TI 344 (fun _ => n_344) (fun _ => n_345)))) (x_TI 348 (x_TI 346 (fun _ => n_346) (x_TI 347 (fun _ => n_347) (fun _ => n_348))) (x_TI 350 (x_TI 349 (fun _ => n_349) (fun _ => n_350)) (x_TI 351 (fun _ => n_351) (fun _ => n_352))))) (x_TI 359 (x_TI 355 (x_TI 353 (fun _ => n_353) (x_TI 354 (fun _ => n_354) (fun _ => n_355))) (x_TI 357 (x_TI 356 (fun _ => n_356) (fun _ => n_357)) (x_TI 358 (fun _ => n_358) (fun _ => n_359)))) (x_TI 362 (x_TI 360 (fun _ => n_360) (x_TI 361 (fun _ => n_361) (fun _ => n_362))) (x_TI 364 (x_TI 363 (fun _ => n_363) (fun _ => n_364)) (x_TI 365 (fun _ => n_365) (fun _ => n_366)))))) (x_TI 380 (x_TI 373 (x_TI 369 (x_TI 367 (fun _ => n_367) (x_TI 368 (fun _ => n_368) (fun _ => n_369))) (x_TI 371 (x_TI 370 (fun _ => n_370) (fun _ => n_371)) (x_TI 372 (fun _ => n_372) (fun _ => n_373)))) (x_TI 376 (x_TI 374 (fun _ => n_374) (x_TI 375 (fun _ => n_375) (fun _ => n_376))) (x_TI 378 (x_TI 377 (fun _ => n_377) (fun _ => n_378)) (x_TI 379 (fun _ => n_379) (fun _ => n_380))))) (x_TI 387 (x_TI 383 (x_TI 381 (fun _ => n_381) (x_TI 382 (fun _ => n_382) (fun _ => n_383))) (x_TI 385 (x_TI 384 (fun _ => n_384) (fun _ => n_385)) (x_TI 386 (fun _ => n_386) (fun _ => n_387)))) (x_TI 391 (x_TI 389 (x_TI 388 (fun _ => n_388) (fun _ => n_389)) (x_TI 390 (fun _ => n_390) (fun _ => n_391))) (x_TI 393 (x_TI 392 (fun _ => n_392) (fun _ => n_393)) (x_TI 394 (fun _ => n_394) (fun _ => n_395))))))) (x_TI 423 (x_TI 409 (x_TI 402 (x_TI 398 (x_TI 396 (fun _ => n_396) (x_TI 397 (fun _ => n_397) (fun _ => n_398))) (x_TI 400 (x_TI 399 (fun _ => n_399) (fun _ => n_400)) (x_TI 401 (fun _ => n_401) (fun _ => n_402)))) (x_TI 405 (x_TI 403 (fun _ => n_403) (x_TI 404 (fun _ => n_404) (fun _ => n_405))) (x_TI 407 (x_TI 406 (fun _ => n_406) (fun _ => n_407)) (x_TI 408 (fun _ => n_408) (fun _ => n_409))))) (x_TI 416 (x_TI 412 (x_TI 410 (fun _ => n_410) (x_TI 411 (fun _ => n_411) (fun _ => n_412))) (x_TI 414 (x_TI 413 (fun _ => n_413) (fun _ => n_414)) (x_TI 415 (fun _ => n_415) (fun _ => n_416)))) (x_TI 419 (x_TI 417 (fun _ => n_417) (x_TI 418 (fun _ => n_418) (fun _ => n_419))) (x_TI 421 (x_TI 420 (fun _ => n_420) (fun _ => n_421)) (x_TI 422 (fun _ => n_422) (fun _ => n_423)))))) (x_TI 437 (x_TI 430 (x_TI 426 (x_TI 424 (fun _ => n_424) (x_TI 425 (fun _ => n_425) (fun _ => n_426))) (x_TI 428 (x_TI 427 (fun _ => n_427) (fun _ => n_428)) (x_TI 429 (fun _ => n_429) (fun _ => n_430)))) (x_TI 433 (x_TI 431 (fun _ => n_431) (x_TI 432 (fun _ => n_432) (fun _ => n_433))) (x_TI 435 (x_TI 434 (fun _ => n_434) (fun _ => n_435)) (x_TI 436 (fun _ => n_436) (fun _ => n_437))))) (x_TI 444 (x_TI 440 (x_TI 438 (fun _ => n_438) (x_TI 439 (fun _ => n_439) (fun _ => n_440))) (x_TI 442 (x_TI 441 (fun _ => n_441) (fun _ => n_442)) (x_TI 443 (fun _ => n_443) (fun _ => n_444)))) (x_TI 448 (x_TI 446 (x_TI 445 (fun _ => n_445) (fun _ => n_446)) (x_TI 447 (fun _ => n_447) (fun _ => n_448))) (x_TI 450 (x_TI 449 (fun _ => n_449) (fun _ => n_450)) (x_TI 451 (fun _ => n_451) (fun _ => n_452))))))))))
def e_nof : eS → Option eS := fun _ => none
def e_e7 : eE := (7, e_nof, 0, 0)
def e_T (k : Nat) (a b : Nat → eE) : Nat → eE := fun pc => bif Nat.ble pc k then a pc else b pc
def e_L (k : Nat) (e : eE) : Nat → eE := fun pc => bif Nat.beq pc k then e else e_e7
theorem e_Lok {ft : Nat → Nat → Nat} {cl : List vw_C} {lay : List eY} {I : Nat → xM} {q : xM} {k : Nat} {e : eE} (h : e_EOq ft cl lay I q k e) : ∀ pc, e_EOq ft cl lay I q pc (e_L k e pc) := fun pc => by
  unfold e_L
  cases hb : Nat.beq pc k with
  | true =>
    have := Nat.eq_of_beq_eq_true hb
    subst this
    exact h
  | false => exact trivial
theorem e_Tok2 {ft : Nat → Nat → Nat} {cl : List vw_C} {lay : List eY} {I : Nat → xM} {q : xM} {k : Nat} {a b : Nat → eE} (ha : ∀ pc, e_EOq ft cl lay I q pc (a pc)) (hb : ∀ pc, e_EOq ft cl lay I q pc (b pc)) : ∀ pc, e_EOq ft cl lay I q pc (e_T k a b pc) := fun pc => by
  unfold e_T
  cases Nat.ble pc k with
  | true => exact ha pc
  | false => exact hb pc
theorem e_st {ft : Nat → Nat → Nat} {cl : List vw_C} {lay : List eY} {I : Nat → xM} {q : xM} {pc : Nat} {f : eS → Option eS} (h : e_Snd ft cl lay (xm_b q) (xm_y q).cls (xm_l q) (xm_y q).name (xm_c q) (xm_s q) pc f) (hn : e_NI lay f ∧ e_IN ft lay f) : e_EOq ft cl lay I q pc (0, f, 0, 0) := ⟨h, hn⟩
theorem e_rt {ft : Nat → Nat → Nat} {cl : List vw_C} {lay : List eY} {I : Nat → xM} {q : xM} {pc k : Nat} (h : x_Rt (xm_b q) (xm_r q) pc k) : e_EOq ft cl lay I q pc (1, e_nof, k, 0) := h
theorem e_ca {ft : Nat → Nat → Nat} {cl : List vw_C} {lay : List eY} {I : Nat → xM} {q q' : xM} {pc M' na : Nat} (e : I M' = q') (h : x_Cl (xm_b q) (xm_y q).cls (xm_l q) (xm_y q).name (xm_c q) (xm_s q) pc q' na) : e_EOq ft cl lay I q pc (2, e_nof, M', na) := by
  show x_Cl _ _ _ _ _ _ _ (I M') na
  rw [e]
  exact h
end
end
-- part 40b
section
noncomputable section
/-! rows that the tables share -/
theorem ld_aload_n_0 {q : xM} {pc : Nat} (d : decode (xm_b q) pc = .ok (.aload_n 0, 1)) : e_EOq eft cls elay eI q pc (0, ei_load 0 2 (pc + 1), 0, 0) := e_st (I := eI) (er_aload_n (i := 0) d) nx_load
theorem ps_iconst_0 {q : xM} {pc : Nat} (d : decode (xm_b q) pc = .ok (.iconst 0, 1)) : e_EOq eft cls elay eI q pc (0, ei_push (0, 0) (pc + 1), 0, 0) := e_st (I := eI) (er_iconst (n := 0) (z := 0) (v := 0) d (by decide) (by decide)) (nx_push (Or.inl rfl))
theorem ld_iload_n_1 {q : xM} {pc : Nat} (d : decode (xm_b q) pc = .ok (.iload_n 1, 1)) : e_EOq eft cls elay eI q pc (0, ei_load 1 0 (pc + 1), 0, 0) := e_st (I := eI) (er_iload_n (i := 1) d) nx_load
theorem sm_iastore {q : xM} {pc : Nat} (d : decode (xm_b q) pc = .ok (.iastore, 1)) : e_EOq eft cls elay eI q pc (0, ei_ast elay false (pc + 1), 0, 0) := e_st (I := eI) (er_iastore d) nx_ast
theorem ld_iload_n_2 {q : xM} {pc : Nat} (d : decode (xm_b q) pc = .ok (.iload_n 2, 1)) : e_EOq eft cls elay eI q pc (0, ei_load 2 0 (pc + 1), 0, 0) := e_st (I := eI) (er_iload_n (i := 2) d) nx_load
theorem ld_iload_n_3 {q : xM} {pc : Nat} (d : decode (xm_b q) pc = .ok (.iload_n 3, 1)) : e_EOq eft cls elay eI q pc (0, ei_load 3 0 (pc + 1), 0, 0) := e_st (I := eI) (er_iload_n (i := 3) d) nx_load
theorem ld_iload_4 {q : xM} {pc : Nat} (d : decode (xm_b q) pc = .ok (.iload 4, 2)) : e_EOq eft cls elay eI q pc (0, ei_load 4 0 (pc + 2), 0, 0) := e_st (I := eI) (er_iload (i := 4) d) nx_load
theorem ld_aload_5 {q : xM} {pc : Nat} (d : decode (xm_b q) pc = .ok (.aload 5, 2)) : e_EOq eft cls elay eI q pc (0, ei_load 5 2 (pc + 2), 0, 0) := e_st (I := eI) (er_aload (i := 5) d) nx_load
theorem ps_bipush_100 {q : xM} {pc : Nat} (d : decode (xm_b q) pc = .ok (.bipush 100, 2)) : e_EOq eft cls elay eI q pc (0, ei_push (0, 100) (pc + 2), 0, 0) := e_st (I := eI) (er_bipush (n := 100) (z := 100) (v := 100) d (by decide) (by decide)) (nx_push (Or.inl rfl))
theorem ps_bipush_10 {q : xM} {pc : Nat} (d : decode (xm_b q) pc = .ok (.bipush 10, 2)) : e_EOq eft cls elay eI q pc (0, ei_push (0, 10) (pc + 2), 0, 0) := e_st (I := eI) (er_bipush (n := 10) (z := 10) (v := 10) d (by decide) (by decide)) (nx_push (Or.inl rfl))
theorem ps_iconst_1 {q : xM} {pc : Nat} (d : decode (xm_b q) pc = .ok (.iconst 1, 1)) : e_EOq eft cls elay eI q pc (0, ei_push (0, 1) (pc + 1), 0, 0) := e_st (I := eI) (er_iconst (n := 1) (z := 1) (v := 1) d (by decide) (by decide)) (nx_push (Or.inl rfl))
theorem sm_iadd {q : xM} {pc : Nat} (d : decode (xm_b q) pc = .ok (.iadd, 1)) : e_EOq eft cls elay eI q pc (0, ei_bin eF_add (pc + 1), 0, 0) := e_st (I := eI) (er_iadd d) nx_bin
theorem sm_isub {q : xM} {pc : Nat} (d : decode (xm_b q) pc = .ok (.isub, 1)) : e_EOq eft cls elay eI q pc (0, ei_bin eF_sub (pc + 1), 0, 0) := e_st (I := eI) (er_isub d) nx_bin
theorem ps_bipush_6 {q : xM} {pc : Nat} (d : decode (xm_b q) pc = .ok (.bipush 6, 2)) : e_EOq eft cls elay eI q pc (0, ei_push (0, 6) (pc + 2), 0, 0) := e_st (I := eI) (er_bipush (n := 6) (z := 6) (v := 6) d (by decide) (by decide)) (nx_push (Or.inl rfl))
theorem ps_iconst_m1 {q : xM} {pc : Nat} (d : decode (xm_b q) pc = .ok (.iconst (-1), 1)) : e_EOq eft cls elay eI q pc (0, ei_push (0, (-1)) (pc + 1), 0, 0) := e_st (I := eI) (er_iconst (n := (-1)) (z := (-1)) (v := (-1)) d (by decide) (by decide)) (nx_push (Or.inl rfl))
theorem ld_aload_n_1 {q : xM} {pc : Nat} (d : decode (xm_b q) pc = .ok (.aload_n 1, 1)) : e_EOq eft cls elay eI q pc (0, ei_load 1 2 (pc + 1), 0, 0) := e_st (I := eI) (er_aload_n (i := 1) d) nx_load
theorem ld_aload_n_2 {q : xM} {pc : Nat} (d : decode (xm_b q) pc = .ok (.aload_n 2, 1)) : e_EOq eft cls elay eI q pc (0, ei_load 2 2 (pc + 1), 0, 0) := e_st (I := eI) (er_aload_n (i := 2) d) nx_load
theorem sm_iaload {q : xM} {pc : Nat} (d : decode (xm_b q) pc = .ok (.iaload, 1)) : e_EOq eft cls elay eI q pc (0, ei_ald elay false (pc + 1), 0, 0) := e_st (I := eI) (er_iaload d) nx_ald
theorem ps_bipush_20 {q : xM} {pc : Nat} (d : decode (xm_b q) pc = .ok (.bipush 20, 2)) : e_EOq eft cls elay eI q pc (0, ei_push (0, 20) (pc + 2), 0, 0) := e_st (I := eI) (er_bipush (n := 20) (z := 20) (v := 20) d (by decide) (by decide)) (nx_push (Or.inl rfl))
theorem ld_iload_6 {q : xM} {pc : Nat} (d : decode (xm_b q) pc = .ok (.iload 6, 2)) : e_EOq eft cls elay eI q pc (0, ei_load 6 0 (pc + 2), 0, 0) := e_st (I := eI) (er_iload (i := 6) d) nx_load
theorem ld_iload_5 {q : xM} {pc : Nat} (d : decode (xm_b q) pc = .ok (.iload 5, 2)) : e_EOq eft cls elay eI q pc (0, ei_load 5 0 (pc + 2), 0, 0) := e_st (I := eI) (er_iload (i := 5) d) nx_load
theorem ld_iload_7 {q : xM} {pc : Nat} (d : decode (xm_b q) pc = .ok (.iload 7, 2)) : e_EOq eft cls elay eI q pc (0, ei_load 7 0 (pc + 2), 0, 0) := e_st (I := eI) (er_iload (i := 7) d) nx_load
theorem ld_lload_n_1 {q : xM} {pc : Nat} (d : decode (xm_b q) pc = .ok (.lload_n 1, 1)) : e_EOq eft cls elay eI q pc (0, ei_load 1 1 (pc + 1), 0, 0) := e_st (I := eI) (er_lload_n (i := 1) d) nx_load
theorem ld_lload_n_3 {q : xM} {pc : Nat} (d : decode (xm_b q) pc = .ok (.lload_n 3, 1)) : e_EOq eft cls elay eI q pc (0, ei_load 3 1 (pc + 1), 0, 0) := e_st (I := eI) (er_lload_n (i := 3) d) nx_load
theorem ld_aload_n_3 {q : xM} {pc : Nat} (d : decode (xm_b q) pc = .ok (.aload_n 3, 1)) : e_EOq eft cls elay eI q pc (0, ei_load 3 2 (pc + 1), 0, 0) := e_st (I := eI) (er_aload_n (i := 3) d) nx_load
theorem ps_iconst_2 {q : xM} {pc : Nat} (d : decode (xm_b q) pc = .ok (.iconst 2, 1)) : e_EOq eft cls elay eI q pc (0, ei_push (0, 2) (pc + 1), 0, 0) := e_st (I := eI) (er_iconst (n := 2) (z := 2) (v := 2) d (by decide) (by decide)) (nx_push (Or.inl rfl))
theorem ps_sipush_4000 {q : xM} {pc : Nat} (d : decode (xm_b q) pc = .ok (.sipush 4000, 3)) : e_EOq eft cls elay eI q pc (0, ei_push (0, 4000) (pc + 3), 0, 0) := e_st (I := eI) (er_sipush (n := 4000) (z := 4000) (v := 4000) d (by decide) (by decide)) (nx_push (Or.inl rfl))
theorem ps_bipush_63 {q : xM} {pc : Nat} (d : decode (xm_b q) pc = .ok (.bipush 63, 2)) : e_EOq eft cls elay eI q pc (0, ei_push (0, 63) (pc + 2), 0, 0) := e_st (I := eI) (er_bipush (n := 63) (z := 63) (v := 63) d (by decide) (by decide)) (nx_push (Or.inl rfl))
theorem ps_bipush_43 {q : xM} {pc : Nat} (d : decode (xm_b q) pc = .ok (.bipush 43, 2)) : e_EOq eft cls elay eI q pc (0, ei_push (0, 43) (pc + 2), 0, 0) := e_st (I := eI) (er_bipush (n := 43) (z := 43) (v := 43) d (by decide) (by decide)) (nx_push (Or.inl rfl))
theorem ps_bipush_8 {q : xM} {pc : Nat} (d : decode (xm_b q) pc = .ok (.bipush 8, 2)) : e_EOq eft cls elay eI q pc (0, ei_push (0, 8) (pc + 2), 0, 0) := e_st (I := eI) (er_bipush (n := 8) (z := 8) (v := 8) d (by decide) (by decide)) (nx_push (Or.inl rfl))
theorem ps_sipush_2000 {q : xM} {pc : Nat} (d : decode (xm_b q) pc = .ok (.sipush 2000, 3)) : e_EOq eft cls elay eI q pc (0, ei_push (0, 2000) (pc + 3), 0, 0) := e_st (I := eI) (er_sipush (n := 2000) (z := 2000) (v := 2000) d (by decide) (by decide)) (nx_push (Or.inl rfl))
theorem ps_iconst_4 {q : xM} {pc : Nat} (d : decode (xm_b q) pc = .ok (.iconst 4, 1)) : e_EOq eft cls elay eI q pc (0, ei_push (0, 4) (pc + 1), 0, 0) := e_st (I := eI) (er_iconst (n := 4) (z := 4) (v := 4) d (by decide) (by decide)) (nx_push (Or.inl rfl))
theorem sm_imul {q : xM} {pc : Nat} (d : decode (xm_b q) pc = .ok (.imul, 1)) : e_EOq eft cls elay eI q pc (0, ei_bin eF_mul (pc + 1), 0, 0) := e_st (I := eI) (er_imul d) nx_bin
theorem ps_iconst_3 {q : xM} {pc : Nat} (d : decode (xm_b q) pc = .ok (.iconst 3, 1)) : e_EOq eft cls elay eI q pc (0, ei_push (0, 3) (pc + 1), 0, 0) := e_st (I := eI) (er_iconst (n := 3) (z := 3) (v := 3) d (by decide) (by decide)) (nx_push (Or.inl rfl))
theorem ps_bipush_16 {q : xM} {pc : Nat} (d : decode (xm_b q) pc = .ok (.bipush 16, 2)) : e_EOq eft cls elay eI q pc (0, ei_push (0, 16) (pc + 2), 0, 0) := e_st (I := eI) (er_bipush (n := 16) (z := 16) (v := 16) d (by decide) (by decide)) (nx_push (Or.inl rfl))
theorem ps_bipush_m2 {q : xM} {pc : Nat} (d : decode (xm_b q) pc = .ok (.bipush (-2), 2)) : e_EOq eft cls elay eI q pc (0, ei_push (0, (-2)) (pc + 2), 0, 0) := e_st (I := eI) (er_bipush (n := (-2)) (z := (-2)) (v := (-2)) d (by decide) (by decide)) (nx_push (Or.inl rfl))
theorem ps_bipush_9 {q : xM} {pc : Nat} (d : decode (xm_b q) pc = .ok (.bipush 9, 2)) : e_EOq eft cls elay eI q pc (0, ei_push (0, 9) (pc + 2), 0, 0) := e_st (I := eI) (er_bipush (n := 9) (z := 9) (v := 9) d (by decide) (by decide)) (nx_push (Or.inl rfl))
theorem ps_iconst_5 {q : xM} {pc : Nat} (d : decode (xm_b q) pc = .ok (.iconst 5, 1)) : e_EOq eft cls elay eI q pc (0, ei_push (0, 5) (pc + 1), 0, 0) := e_st (I := eI) (er_iconst (n := 5) (z := 5) (v := 5) d (by decide) (by decide)) (nx_push (Or.inl rfl))
theorem ps_bipush_50 {q : xM} {pc : Nat} (d : decode (xm_b q) pc = .ok (.bipush 50, 2)) : e_EOq eft cls elay eI q pc (0, ei_push (0, 50) (pc + 2), 0, 0) := e_st (I := eI) (er_bipush (n := 50) (z := 50) (v := 50) d (by decide) (by decide)) (nx_push (Or.inl rfl))
theorem ps_bipush_13 {q : xM} {pc : Nat} (d : decode (xm_b q) pc = .ok (.bipush 13, 2)) : e_EOq eft cls elay eI q pc (0, ei_push (0, 13) (pc + 2), 0, 0) := e_st (I := eI) (er_bipush (n := 13) (z := 13) (v := 13) d (by decide) (by decide)) (nx_push (Or.inl rfl))
theorem ps_bipush_24 {q : xM} {pc : Nat} (d : decode (xm_b q) pc = .ok (.bipush 24, 2)) : e_EOq eft cls elay eI q pc (0, ei_push (0, 24) (pc + 2), 0, 0) := e_st (I := eI) (er_bipush (n := 24) (z := 24) (v := 24) d (by decide) (by decide)) (nx_push (Or.inl rfl))
theorem ps_bipush_39 {q : xM} {pc : Nat} (d : decode (xm_b q) pc = .ok (.bipush 39, 2)) : e_EOq eft cls elay eI q pc (0, ei_push (0, 39) (pc + 2), 0, 0) := e_st (I := eI) (er_bipush (n := 39) (z := 39) (v := 39) d (by decide) (by decide)) (nx_push (Or.inl rfl))
theorem ps_bipush_7 {q : xM} {pc : Nat} (d : decode (xm_b q) pc = .ok (.bipush 7, 2)) : e_EOq eft cls elay eI q pc (0, ei_push (0, 7) (pc + 2), 0, 0) := e_st (I := eI) (er_bipush (n := 7) (z := 7) (v := 7) d (by decide) (by decide)) (nx_push (Or.inl rfl))
theorem ld_aload_4 {q : xM} {pc : Nat} (d : decode (xm_b q) pc = .ok (.aload 4, 2)) : e_EOq eft cls elay eI q pc (0, ei_load 4 2 (pc + 2), 0, 0) := e_st (I := eI) (er_aload (i := 4) d) nx_load
theorem ps_bipush_17 {q : xM} {pc : Nat} (d : decode (xm_b q) pc = .ok (.bipush 17, 2)) : e_EOq eft cls elay eI q pc (0, ei_push (0, 17) (pc + 2), 0, 0) := e_st (I := eI) (er_bipush (n := 17) (z := 17) (v := 17) d (by decide) (by decide)) (nx_push (Or.inl rfl))
theorem ps_bipush_18 {q : xM} {pc : Nat} (d : decode (xm_b q) pc = .ok (.bipush 18, 2)) : e_EOq eft cls elay eI q pc (0, ei_push (0, 18) (pc + 2), 0, 0) := e_st (I := eI) (er_bipush (n := 18) (z := 18) (v := 18) d (by decide) (by decide)) (nx_push (Or.inl rfl))
theorem ld_iload_n_0 {q : xM} {pc : Nat} (d : decode (xm_b q) pc = .ok (.iload_n 0, 1)) : e_EOq eft cls elay eI q pc (0, ei_load 0 0 (pc + 1), 0, 0) := e_st (I := eI) (er_iload_n (i := 0) d) nx_load
theorem ps_bipush_32 {q : xM} {pc : Nat} (d : decode (xm_b q) pc = .ok (.bipush 32, 2)) : e_EOq eft cls elay eI q pc (0, ei_push (0, 32) (pc + 2), 0, 0) := e_st (I := eI) (er_bipush (n := 32) (z := 32) (v := 32) d (by decide) (by decide)) (nx_push (Or.inl rfl))
theorem ps_bipush_m3 {q : xM} {pc : Nat} (d : decode (xm_b q) pc = .ok (.bipush (-3), 2)) : e_EOq eft cls elay eI q pc (0, ei_push (0, (-3)) (pc + 2), 0, 0) := e_st (I := eI) (er_bipush (n := (-3)) (z := (-3)) (v := (-3)) d (by decide) (by decide)) (nx_push (Or.inl rfl))
theorem ld_lload_8 {q : xM} {pc : Nat} (d : decode (xm_b q) pc = .ok (.lload 8, 2)) : e_EOq eft cls elay eI q pc (0, ei_load 8 1 (pc + 2), 0, 0) := e_st (I := eI) (er_lload (i := 8) d) nx_load
theorem ld_lload_5 {q : xM} {pc : Nat} (d : decode (xm_b q) pc = .ok (.lload 5, 2)) : e_EOq eft cls elay eI q pc (0, ei_load 5 1 (pc + 2), 0, 0) := e_st (I := eI) (er_lload (i := 5) d) nx_load
theorem ld_iload_8 {q : xM} {pc : Nat} (d : decode (xm_b q) pc = .ok (.iload 8, 2)) : e_EOq eft cls elay eI q pc (0, ei_load 8 0 (pc + 2), 0, 0) := e_st (I := eI) (er_iload (i := 8) d) nx_load
theorem ps_bipush_12 {q : xM} {pc : Nat} (d : decode (xm_b q) pc = .ok (.bipush 12, 2)) : e_EOq eft cls elay eI q pc (0, ei_push (0, 12) (pc + 2), 0, 0) := e_st (I := eI) (er_bipush (n := 12) (z := 12) (v := 12) d (by decide) (by decide)) (nx_push (Or.inl rfl))
theorem ps_sipush_6000 {q : xM} {pc : Nat} (d : decode (xm_b q) pc = .ok (.sipush 6000, 3)) : e_EOq eft cls elay eI q pc (0, ei_push (0, 6000) (pc + 3), 0, 0) := e_st (I := eI) (er_sipush (n := 6000) (z := 6000) (v := 6000) d (by decide) (by decide)) (nx_push (Or.inl rfl))
theorem ps_bipush_59 {q : xM} {pc : Nat} (d : decode (xm_b q) pc = .ok (.bipush 59, 2)) : e_EOq eft cls elay eI q pc (0, ei_push (0, 59) (pc + 2), 0, 0) := e_st (I := eI) (er_bipush (n := 59) (z := 59) (v := 59) d (by decide) (by decide)) (nx_push (Or.inl rfl))
theorem ps_sipush_1000 {q : xM} {pc : Nat} (d : decode (xm_b q) pc = .ok (.sipush 1000, 3)) : e_EOq eft cls elay eI q pc (0, ei_push (0, 1000) (pc + 3), 0, 0) := e_st (I := eI) (er_sipush (n := 1000) (z := 1000) (v := 1000) d (by decide) (by decide)) (nx_push (Or.inl rfl))
theorem ld_aload_6 {q : xM} {pc : Nat} (d : decode (xm_b q) pc = .ok (.aload 6, 2)) : e_EOq eft cls elay eI q pc (0, ei_load 6 2 (pc + 2), 0, 0) := e_st (I := eI) (er_aload (i := 6) d) nx_load
theorem ld_iload_9 {q : xM} {pc : Nat} (d : decode (xm_b q) pc = .ok (.iload 9, 2)) : e_EOq eft cls elay eI q pc (0, ei_load 9 0 (pc + 2), 0, 0) := e_st (I := eI) (er_iload (i := 9) d) nx_load
theorem ld_iload_10 {q : xM} {pc : Nat} (d : decode (xm_b q) pc = .ok (.iload 10, 2)) : e_EOq eft cls elay eI q pc (0, ei_load 10 0 (pc + 2), 0, 0) := e_st (I := eI) (er_iload (i := 10) d) nx_load
theorem ld_aload_7 {q : xM} {pc : Nat} (d : decode (xm_b q) pc = .ok (.aload 7, 2)) : e_EOq eft cls elay eI q pc (0, ei_load 7 2 (pc + 2), 0, 0) := e_st (I := eI) (er_aload (i := 7) d) nx_load
theorem ps_bipush_11 {q : xM} {pc : Nat} (d : decode (xm_b q) pc = .ok (.bipush 11, 2)) : e_EOq eft cls elay eI q pc (0, ei_push (0, 11) (pc + 2), 0, 0) := e_st (I := eI) (er_bipush (n := 11) (z := 11) (v := 11) d (by decide) (by decide)) (nx_push (Or.inl rfl))
theorem ps_bipush_64 {q : xM} {pc : Nat} (d : decode (xm_b q) pc = .ok (.bipush 64, 2)) : e_EOq eft cls elay eI q pc (0, ei_push (0, 64) (pc + 2), 0, 0) := e_st (I := eI) (er_bipush (n := 64) (z := 64) (v := 64) d (by decide) (by decide)) (nx_push (Or.inl rfl))
theorem ps_bipush_21 {q : xM} {pc : Nat} (d : decode (xm_b q) pc = .ok (.bipush 21, 2)) : e_EOq eft cls elay eI q pc (0, ei_push (0, 21) (pc + 2), 0, 0) := e_st (I := eI) (er_bipush (n := 21) (z := 21) (v := 21) d (by decide) (by decide)) (nx_push (Or.inl rfl))
theorem ps_bipush_22 {q : xM} {pc : Nat} (d : decode (xm_b q) pc = .ok (.bipush 22, 2)) : e_EOq eft cls elay eI q pc (0, ei_push (0, 22) (pc + 2), 0, 0) := e_st (I := eI) (er_bipush (n := 22) (z := 22) (v := 22) d (by decide) (by decide)) (nx_push (Or.inl rfl))
theorem ps_sipush_255 {q : xM} {pc : Nat} (d : decode (xm_b q) pc = .ok (.sipush 255, 3)) : e_EOq eft cls elay eI q pc (0, ei_push (0, 255) (pc + 3), 0, 0) := e_st (I := eI) (er_sipush (n := 255) (z := 255) (v := 255) d (by decide) (by decide)) (nx_push (Or.inl rfl))
theorem ps_bipush_48 {q : xM} {pc : Nat} (d : decode (xm_b q) pc = .ok (.bipush 48, 2)) : e_EOq eft cls elay eI q pc (0, ei_push (0, 48) (pc + 2), 0, 0) := e_st (I := eI) (er_bipush (n := 48) (z := 48) (v := 48) d (by decide) (by decide)) (nx_push (Or.inl rfl))
theorem ps_bipush_57 {q : xM} {pc : Nat} (d : decode (xm_b q) pc = .ok (.bipush 57, 2)) : e_EOq eft cls elay eI q pc (0, ei_push (0, 57) (pc + 2), 0, 0) := e_st (I := eI) (er_bipush (n := 57) (z := 57) (v := 57) d (by decide) (by decide)) (nx_push (Or.inl rfl))
theorem ps_bipush_97 {q : xM} {pc : Nat} (d : decode (xm_b q) pc = .ok (.bipush 97, 2)) : e_EOq eft cls elay eI q pc (0, ei_push (0, 97) (pc + 2), 0, 0) := e_st (I := eI) (er_bipush (n := 97) (z := 97) (v := 97) d (by decide) (by decide)) (nx_push (Or.inl rfl))
theorem ps_bipush_122 {q : xM} {pc : Nat} (d : decode (xm_b q) pc = .ok (.bipush 122, 2)) : e_EOq eft cls elay eI q pc (0, ei_push (0, 122) (pc + 2), 0, 0) := e_st (I := eI) (er_bipush (n := 122) (z := 122) (v := 122) d (by decide) (by decide)) (nx_push (Or.inl rfl))
theorem ps_bipush_65 {q : xM} {pc : Nat} (d : decode (xm_b q) pc = .ok (.bipush 65, 2)) : e_EOq eft cls elay eI q pc (0, ei_push (0, 65) (pc + 2), 0, 0) := e_st (I := eI) (er_bipush (n := 65) (z := 65) (v := 65) d (by decide) (by decide)) (nx_push (Or.inl rfl))
theorem ps_bipush_90 {q : xM} {pc : Nat} (d : decode (xm_b q) pc = .ok (.bipush 90, 2)) : e_EOq eft cls elay eI q pc (0, ei_push (0, 90) (pc + 2), 0, 0) := e_st (I := eI) (er_bipush (n := 90) (z := 90) (v := 90) d (by decide) (by decide)) (nx_push (Or.inl rfl))
theorem ps_bipush_35 {q : xM} {pc : Nat} (d : decode (xm_b q) pc = .ok (.bipush 35, 2)) : e_EOq eft cls elay eI q pc (0, ei_push (0, 35) (pc + 2), 0, 0) := e_st (I := eI) (er_bipush (n := 35) (z := 35) (v := 35) d (by decide) (by decide)) (nx_push (Or.inl rfl))
theorem ps_bipush_30 {q : xM} {pc : Nat} (d : decode (xm_b q) pc = .ok (.bipush 30, 2)) : e_EOq eft cls elay eI q pc (0, ei_push (0, 30) (pc + 2), 0, 0) := e_st (I := eI) (er_bipush (n := 30) (z := 30) (v := 30) d (by decide) (by decide)) (nx_push (Or.inl rfl))
theorem ps_bipush_33 {q : xM} {pc : Nat} (d : decode (xm_b q) pc = .ok (.bipush 33, 2)) : e_EOq eft cls elay eI q pc (0, ei_push (0, 33) (pc + 2), 0, 0) := e_st (I := eI) (er_bipush (n := 33) (z := 33) (v := 33) d (by decide) (by decide)) (nx_push (Or.inl rfl))
theorem ps_bipush_34 {q : xM} {pc : Nat} (d : decode (xm_b q) pc = .ok (.bipush 34, 2)) : e_EOq eft cls elay eI q pc (0, ei_push (0, 34) (pc + 2), 0, 0) := e_st (I := eI) (er_bipush (n := 34) (z := 34) (v := 34) d (by decide) (by decide)) (nx_push (Or.inl rfl))
theorem ps_bipush_31 {q : xM} {pc : Nat} (d : decode (xm_b q) pc = .ok (.bipush 31, 2)) : e_EOq eft cls elay eI q pc (0, ei_push (0, 31) (pc + 2), 0, 0) := e_st (I := eI) (er_bipush (n := 31) (z := 31) (v := 31) d (by decide) (by decide)) (nx_push (Or.inl rfl))
theorem ps_bipush_19 {q : xM} {pc : Nat} (d : decode (xm_b q) pc = .ok (.bipush 19, 2)) : e_EOq eft cls elay eI q pc (0, ei_push (0, 19) (pc + 2), 0, 0) := e_st (I := eI) (er_bipush (n := 19) (z := 19) (v := 19) d (by decide) (by decide)) (nx_push (Or.inl rfl))
theorem ps_sipush_500 {q : xM} {pc : Nat} (d : decode (xm_b q) pc = .ok (.sipush 500, 3)) : e_EOq eft cls elay eI q pc (0, ei_push (0, 500) (pc + 3), 0, 0) := e_st (I := eI) (er_sipush (n := 500) (z := 500) (v := 500) d (by decide) (by decide)) (nx_push (Or.inl rfl))
theorem ps_bipush_23 {q : xM} {pc : Nat} (d : decode (xm_b q) pc = .ok (.bipush 23, 2)) : e_EOq eft cls elay eI q pc (0, ei_push (0, 23) (pc + 2), 0, 0) := e_st (I := eI) (er_bipush (n := 23) (z := 23) (v := 23) d (by decide) (by decide)) (nx_push (Or.inl rfl))
theorem ps_bipush_41 {q : xM} {pc : Nat} (d : decode (xm_b q) pc = .ok (.bipush 41, 2)) : e_EOq eft cls elay eI q pc (0, ei_push (0, 41) (pc + 2), 0, 0) := e_st (I := eI) (er_bipush (n := 41) (z := 41) (v := 41) d (by decide) (by decide)) (nx_push (Or.inl rfl))
theorem ps_bipush_42 {q : xM} {pc : Nat} (d : decode (xm_b q) pc = .ok (.bipush 42, 2)) : e_EOq eft cls elay eI q pc (0, ei_push (0, 42) (pc + 2), 0, 0) := e_st (I := eI) (er_bipush (n := 42) (z := 42) (v := 42) d (by decide) (by decide)) (nx_push (Or.inl rfl))
theorem ps_bipush_28 {q : xM} {pc : Nat} (d : decode (xm_b q) pc = .ok (.bipush 28, 2)) : e_EOq eft cls elay eI q pc (0, ei_push (0, 28) (pc + 2), 0, 0) := e_st (I := eI) (er_bipush (n := 28) (z := 28) (v := 28) d (by decide) (by decide)) (nx_push (Or.inl rfl))
theorem ps_bipush_29 {q : xM} {pc : Nat} (d : decode (xm_b q) pc = .ok (.bipush 29, 2)) : e_EOq eft cls elay eI q pc (0, ei_push (0, 29) (pc + 2), 0, 0) := e_st (I := eI) (er_bipush (n := 29) (z := 29) (v := 29) d (by decide) (by decide)) (nx_push (Or.inl rfl))
theorem ps_bipush_36 {q : xM} {pc : Nat} (d : decode (xm_b q) pc = .ok (.bipush 36, 2)) : e_EOq eft cls elay eI q pc (0, ei_push (0, 36) (pc + 2), 0, 0) := e_st (I := eI) (er_bipush (n := 36) (z := 36) (v := 36) d (by decide) (by decide)) (nx_push (Or.inl rfl))
theorem ps_bipush_37 {q : xM} {pc : Nat} (d : decode (xm_b q) pc = .ok (.bipush 37, 2)) : e_EOq eft cls elay eI q pc (0, ei_push (0, 37) (pc + 2), 0, 0) := e_st (I := eI) (er_bipush (n := 37) (z := 37) (v := 37) d (by decide) (by decide)) (nx_push (Or.inl rfl))
theorem ps_bipush_38 {q : xM} {pc : Nat} (d : decode (xm_b q) pc = .ok (.bipush 38, 2)) : e_EOq eft cls elay eI q pc (0, ei_push (0, 38) (pc + 2), 0, 0) := e_st (I := eI) (er_bipush (n := 38) (z := 38) (v := 38) d (by decide) (by decide)) (nx_push (Or.inl rfl))
theorem ps_bipush_25 {q : xM} {pc : Nat} (d : decode (xm_b q) pc = .ok (.bipush 25, 2)) : e_EOq eft cls elay eI q pc (0, ei_push (0, 25) (pc + 2), 0, 0) := e_st (I := eI) (er_bipush (n := 25) (z := 25) (v := 25) d (by decide) (by decide)) (nx_push (Or.inl rfl))
theorem ps_bipush_26 {q : xM} {pc : Nat} (d : decode (xm_b q) pc = .ok (.bipush 26, 2)) : e_EOq eft cls elay eI q pc (0, ei_push (0, 26) (pc + 2), 0, 0) := e_st (I := eI) (er_bipush (n := 26) (z := 26) (v := 26) d (by decide) (by decide)) (nx_push (Or.inl rfl))
theorem ps_bipush_27 {q : xM} {pc : Nat} (d : decode (xm_b q) pc = .ok (.bipush 27, 2)) : e_EOq eft cls elay eI q pc (0, ei_push (0, 27) (pc + 2), 0, 0) := e_st (I := eI) (er_bipush (n := 27) (z := 27) (v := 27) d (by decide) (by decide)) (nx_push (Or.inl rfl))
theorem ps_bipush_44 {q : xM} {pc : Nat} (d : decode (xm_b q) pc = .ok (.bipush 44, 2)) : e_EOq eft cls elay eI q pc (0, ei_push (0, 44) (pc + 2), 0, 0) := e_st (I := eI) (er_bipush (n := 44) (z := 44) (v := 44) d (by decide) (by decide)) (nx_push (Or.inl rfl))
theorem ps_bipush_40 {q : xM} {pc : Nat} (d : decode (xm_b q) pc = .ok (.bipush 40, 2)) : e_EOq eft cls elay eI q pc (0, ei_push (0, 40) (pc + 2), 0, 0) := e_st (I := eI) (er_bipush (n := 40) (z := 40) (v := 40) d (by decide) (by decide)) (nx_push (Or.inl rfl))
theorem ps_bipush_45 {q : xM} {pc : Nat} (d : decode (xm_b q) pc = .ok (.bipush 45, 2)) : e_EOq eft cls elay eI q pc (0, ei_push (0, 45) (pc + 2), 0, 0) := e_st (I := eI) (er_bipush (n := 45) (z := 45) (v := 45) d (by decide) (by decide)) (nx_push (Or.inl rfl))
theorem ps_bipush_49 {q : xM} {pc : Nat} (d : decode (xm_b q) pc = .ok (.bipush 49, 2)) : e_EOq eft cls elay eI q pc (0, ei_push (0, 49) (pc + 2), 0, 0) := e_st (I := eI) (er_bipush (n := 49) (z := 49) (v := 49) d (by decide) (by decide)) (nx_push (Or.inl rfl))
theorem ps_bipush_46 {q : xM} {pc : Nat} (d : decode (xm_b q) pc = .ok (.bipush 46, 2)) : e_EOq eft cls elay eI q pc (0, ei_push (0, 46) (pc + 2), 0, 0) := e_st (I := eI) (er_bipush (n := 46) (z := 46) (v := 46) d (by decide) (by decide)) (nx_push (Or.inl rfl))
theorem ps_bipush_47 {q : xM} {pc : Nat} (d : decode (xm_b q) pc = .ok (.bipush 47, 2)) : e_EOq eft cls elay eI q pc (0, ei_push (0, 47) (pc + 2), 0, 0) := e_st (I := eI) (er_bipush (n := 47) (z := 47) (v := 47) d (by decide) (by decide)) (nx_push (Or.inl rfl))
theorem ps_bipush_14 {q : xM} {pc : Nat} (d : decode (xm_b q) pc = .ok (.bipush 14, 2)) : e_EOq eft cls elay eI q pc (0, ei_push (0, 14) (pc + 2), 0, 0) := e_st (I := eI) (er_bipush (n := 14) (z := 14) (v := 14) d (by decide) (by decide)) (nx_push (Or.inl rfl))
theorem ps_bipush_15 {q : xM} {pc : Nat} (d : decode (xm_b q) pc = .ok (.bipush 15, 2)) : e_EOq eft cls elay eI q pc (0, ei_push (0, 15) (pc + 2), 0, 0) := e_st (I := eI) (er_bipush (n := 15) (z := 15) (v := 15) d (by decide) (by decide)) (nx_push (Or.inl rfl))
theorem ps_bipush_53 {q : xM} {pc : Nat} (d : decode (xm_b q) pc = .ok (.bipush 53, 2)) : e_EOq eft cls elay eI q pc (0, ei_push (0, 53) (pc + 2), 0, 0) := e_st (I := eI) (er_bipush (n := 53) (z := 53) (v := 53) d (by decide) (by decide)) (nx_push (Or.inl rfl))
theorem ld_lload_4 {q : xM} {pc : Nat} (d : decode (xm_b q) pc = .ok (.lload 4, 2)) : e_EOq eft cls elay eI q pc (0, ei_load 4 1 (pc + 2), 0, 0) := e_st (I := eI) (er_lload (i := 4) d) nx_load
theorem ld_lload_6 {q : xM} {pc : Nat} (d : decode (xm_b q) pc = .ok (.lload 6, 2)) : e_EOq eft cls elay eI q pc (0, ei_load 6 1 (pc + 2), 0, 0) := e_st (I := eI) (er_lload (i := 6) d) nx_load
theorem ps_lconst_0 {q : xM} {pc : Nat} (d : decode (xm_b q) pc = .ok (.lconst 0, 1)) : e_EOq eft cls elay eI q pc (0, ei_push (4, 0) (pc + 1), 0, 0) := e_st (I := eI) (er_lconst (n := 0) (z := 0) (v := 0) d (by decide) (by decide)) (nx_push (Or.inl rfl))
theorem ld_lload_10 {q : xM} {pc : Nat} (d : decode (xm_b q) pc = .ok (.lload 10, 2)) : e_EOq eft cls elay eI q pc (0, ei_load 10 1 (pc + 2), 0, 0) := e_st (I := eI) (er_lload (i := 10) d) nx_load
theorem ld_lload_12 {q : xM} {pc : Nat} (d : decode (xm_b q) pc = .ok (.lload 12, 2)) : e_EOq eft cls elay eI q pc (0, ei_load 12 1 (pc + 2), 0, 0) := e_st (I := eI) (er_lload (i := 12) d) nx_load
theorem ld_lload_9 {q : xM} {pc : Nat} (d : decode (xm_b q) pc = .ok (.lload 9, 2)) : e_EOq eft cls elay eI q pc (0, ei_load 9 1 (pc + 2), 0, 0) := e_st (I := eI) (er_lload (i := 9) d) nx_load
theorem ld_lload_7 {q : xM} {pc : Nat} (d : decode (xm_b q) pc = .ok (.lload 7, 2)) : e_EOq eft cls elay eI q pc (0, ei_load 7 1 (pc + 2), 0, 0) := e_st (I := eI) (er_lload (i := 7) d) nx_load
theorem ld_lload_11 {q : xM} {pc : Nat} (d : decode (xm_b q) pc = .ok (.lload 11, 2)) : e_EOq eft cls elay eI q pc (0, ei_load 11 1 (pc + 2), 0, 0) := e_st (I := eI) (er_lload (i := 11) d) nx_load
theorem ld_lload_13 {q : xM} {pc : Nat} (d : decode (xm_b q) pc = .ok (.lload 13, 2)) : e_EOq eft cls elay eI q pc (0, ei_load 13 1 (pc + 2), 0, 0) := e_st (I := eI) (er_lload (i := 13) d) nx_load
theorem ps_sipush_600 {q : xM} {pc : Nat} (d : decode (xm_b q) pc = .ok (.sipush 600, 3)) : e_EOq eft cls elay eI q pc (0, ei_push (0, 600) (pc + 3), 0, 0) := e_st (I := eI) (er_sipush (n := 600) (z := 600) (v := 600) d (by decide) (by decide)) (nx_push (Or.inl rfl))
theorem ps_sipush_3980 {q : xM} {pc : Nat} (d : decode (xm_b q) pc = .ok (.sipush 3980, 3)) : e_EOq eft cls elay eI q pc (0, ei_push (0, 3980) (pc + 3), 0, 0) := e_st (I := eI) (er_sipush (n := 3980) (z := 3980) (v := 3980) d (by decide) (by decide)) (nx_push (Or.inl rfl))
theorem ps_sipush_m8000 {q : xM} {pc : Nat} (d : decode (xm_b q) pc = .ok (.sipush (-8000), 3)) : e_EOq eft cls elay eI q pc (0, ei_push (0, (-8000)) (pc + 3), 0, 0) := e_st (I := eI) (er_sipush (n := (-8000)) (z := (-8000)) (v := (-8000)) d (by decide) (by decide)) (nx_push (Or.inl rfl))
theorem ps_sipush_8000 {q : xM} {pc : Nat} (d : decode (xm_b q) pc = .ok (.sipush 8000, 3)) : e_EOq eft cls elay eI q pc (0, ei_push (0, 8000) (pc + 3), 0, 0) := e_st (I := eI) (er_sipush (n := 8000) (z := 8000) (v := 8000) d (by decide) (by decide)) (nx_push (Or.inl rfl))
theorem ps_sipush_4095 {q : xM} {pc : Nat} (d : decode (xm_b q) pc = .ok (.sipush 4095, 3)) : e_EOq eft cls elay eI q pc (0, ei_push (0, 4095) (pc + 3), 0, 0) := e_st (I := eI) (er_sipush (n := 4095) (z := 4095) (v := 4095) d (by decide) (by decide)) (nx_push (Or.inl rfl))
theorem ps_sipush_800 {q : xM} {pc : Nat} (d : decode (xm_b q) pc = .ok (.sipush 800, 3)) : e_EOq eft cls elay eI q pc (0, ei_push (0, 800) (pc + 3), 0, 0) := e_st (I := eI) (er_sipush (n := 800) (z := 800) (v := 800) d (by decide) (by decide)) (nx_push (Or.inl rfl))
theorem ps_sipush_16000 {q : xM} {pc : Nat} (d : decode (xm_b q) pc = .ok (.sipush 16000, 3)) : e_EOq eft cls elay eI q pc (0, ei_push (0, 16000) (pc + 3), 0, 0) := e_st (I := eI) (er_sipush (n := 16000) (z := 16000) (v := 16000) d (by decide) (by decide)) (nx_push (Or.inl rfl))
theorem ps_sipush_32000 {q : xM} {pc : Nat} (d : decode (xm_b q) pc = .ok (.sipush 32000, 3)) : e_EOq eft cls elay eI q pc (0, ei_push (0, 32000) (pc + 3), 0, 0) := e_st (I := eI) (er_sipush (n := 32000) (z := 32000) (v := 32000) d (by decide) (by decide)) (nx_push (Or.inl rfl))
theorem ps_bipush_m10 {q : xM} {pc : Nat} (d : decode (xm_b q) pc = .ok (.bipush (-10), 2)) : e_EOq eft cls elay eI q pc (0, ei_push (0, (-10)) (pc + 2), 0, 0) := e_st (I := eI) (er_bipush (n := (-10)) (z := (-10)) (v := (-10)) d (by decide) (by decide)) (nx_push (Or.inl rfl))
theorem ps_bipush_60 {q : xM} {pc : Nat} (d : decode (xm_b q) pc = .ok (.bipush 60, 2)) : e_EOq eft cls elay eI q pc (0, ei_push (0, 60) (pc + 2), 0, 0) := e_st (I := eI) (er_bipush (n := 60) (z := 60) (v := 60) d (by decide) (by decide)) (nx_push (Or.inl rfl))
theorem ps_sipush_m16000 {q : xM} {pc : Nat} (d : decode (xm_b q) pc = .ok (.sipush (-16000), 3)) : e_EOq eft cls elay eI q pc (0, ei_push (0, (-16000)) (pc + 3), 0, 0) := e_st (I := eI) (er_sipush (n := (-16000)) (z := (-16000)) (v := (-16000)) d (by decide) (by decide)) (nx_push (Or.inl rfl))
theorem ps_sipush_1024 {q : xM} {pc : Nat} (d : decode (xm_b q) pc = .ok (.sipush 1024, 3)) : e_EOq eft cls elay eI q pc (0, ei_push (0, 1024) (pc + 3), 0, 0) := e_st (I := eI) (er_sipush (n := 1024) (z := 1024) (v := 1024) d (by decide) (by decide)) (nx_push (Or.inl rfl))
theorem ld_lload_n_0 {q : xM} {pc : Nat} (d : decode (xm_b q) pc = .ok (.lload_n 0, 1)) : e_EOq eft cls elay eI q pc (0, ei_load 0 1 (pc + 1), 0, 0) := e_st (I := eI) (er_lload_n (i := 0) d) nx_load
theorem ld_lload_n_2 {q : xM} {pc : Nat} (d : decode (xm_b q) pc = .ok (.lload_n 2, 1)) : e_EOq eft cls elay eI q pc (0, ei_load 2 1 (pc + 1), 0, 0) := e_st (I := eI) (er_lload_n (i := 2) d) nx_load
theorem ps_sipush_20868 {q : xM} {pc : Nat} (d : decode (xm_b q) pc = .ok (.sipush 20868, 3)) : e_EOq eft cls elay eI q pc (0, ei_push (0, 20868) (pc + 3), 0, 0) := e_st (I := eI) (er_sipush (n := 20868) (z := 20868) (v := 20868) d (by decide) (by decide)) (nx_push (Or.inl rfl))
theorem ps_sipush_20836 {q : xM} {pc : Nat} (d : decode (xm_b q) pc = .ok (.sipush 20836, 3)) : e_EOq eft cls elay eI q pc (0, ei_push (0, 20836) (pc + 3), 0, 0) := e_st (I := eI) (er_sipush (n := 20836) (z := 20836) (v := 20836) d (by decide) (by decide)) (nx_push (Or.inl rfl))
theorem ps_sipush_448 {q : xM} {pc : Nat} (d : decode (xm_b q) pc = .ok (.sipush 448, 3)) : e_EOq eft cls elay eI q pc (0, ei_push (0, 448) (pc + 3), 0, 0) := e_st (I := eI) (er_sipush (n := 448) (z := 448) (v := 448) d (by decide) (by decide)) (nx_push (Or.inl rfl))
theorem ps_sipush_416 {q : xM} {pc : Nat} (d : decode (xm_b q) pc = .ok (.sipush 416, 3)) : e_EOq eft cls elay eI q pc (0, ei_push (0, 416) (pc + 3), 0, 0) := e_st (I := eI) (er_sipush (n := 416) (z := 416) (v := 416) d (by decide) (by decide)) (nx_push (Or.inl rfl))
theorem ps_sipush_1260 {q : xM} {pc : Nat} (d : decode (xm_b q) pc = .ok (.sipush 1260, 3)) : e_EOq eft cls elay eI q pc (0, ei_push (0, 1260) (pc + 3), 0, 0) := e_st (I := eI) (er_sipush (n := 1260) (z := 1260) (v := 1260) d (by decide) (by decide)) (nx_push (Or.inl rfl))
theorem ps_lconst_1 {q : xM} {pc : Nat} (d : decode (xm_b q) pc = .ok (.lconst 1, 1)) : e_EOq eft cls elay eI q pc (0, ei_push (4, 1) (pc + 1), 0, 0) := e_st (I := eI) (er_lconst (n := 1) (z := 1) (v := 1) d (by decide) (by decide)) (nx_push (Or.inl rfl))
theorem ps_bipush_112 {q : xM} {pc : Nat} (d : decode (xm_b q) pc = .ok (.bipush 112, 2)) : e_EOq eft cls elay eI q pc (0, ei_push (0, 112) (pc + 2), 0, 0) := e_st (I := eI) (er_bipush (n := 112) (z := 112) (v := 112) d (by decide) (by decide)) (nx_push (Or.inl rfl))
theorem ps_sipush_512 {q : xM} {pc : Nat} (d : decode (xm_b q) pc = .ok (.sipush 512, 3)) : e_EOq eft cls elay eI q pc (0, ei_push (0, 512) (pc + 3), 0, 0) := e_st (I := eI) (er_sipush (n := 512) (z := 512) (v := 512) d (by decide) (by decide)) (nx_push (Or.inl rfl))
theorem ps_sipush_2048 {q : xM} {pc : Nat} (d : decode (xm_b q) pc = .ok (.sipush 2048, 3)) : e_EOq eft cls elay eI q pc (0, ei_push (0, 2048) (pc + 3), 0, 0) := e_st (I := eI) (er_sipush (n := 2048) (z := 2048) (v := 2048) d (by decide) (by decide)) (nx_push (Or.inl rfl))
theorem ps_sipush_3072 {q : xM} {pc : Nat} (d : decode (xm_b q) pc = .ok (.sipush 3072, 3)) : e_EOq eft cls elay eI q pc (0, ei_push (0, 3072) (pc + 3), 0, 0) := e_st (I := eI) (er_sipush (n := 3072) (z := 3072) (v := 3072) d (by decide) (by decide)) (nx_push (Or.inl rfl))
theorem ps_sipush_4096 {q : xM} {pc : Nat} (d : decode (xm_b q) pc = .ok (.sipush 4096, 3)) : e_EOq eft cls elay eI q pc (0, ei_push (0, 4096) (pc + 3), 0, 0) := e_st (I := eI) (er_sipush (n := 4096) (z := 4096) (v := 4096) d (by decide) (by decide)) (nx_push (Or.inl rfl))
theorem ld_iload_11 {q : xM} {pc : Nat} (d : decode (xm_b q) pc = .ok (.iload 11, 2)) : e_EOq eft cls elay eI q pc (0, ei_load 11 0 (pc + 2), 0, 0) := e_st (I := eI) (er_iload (i := 11) d) nx_load
theorem ps_sipush_20876 {q : xM} {pc : Nat} (d : decode (xm_b q) pc = .ok (.sipush 20876, 3)) : e_EOq eft cls elay eI q pc (0, ei_push (0, 20876) (pc + 3), 0, 0) := e_st (I := eI) (er_sipush (n := 20876) (z := 20876) (v := 20876) d (by decide) (by decide)) (nx_push (Or.inl rfl))
theorem ld_lload_14 {q : xM} {pc : Nat} (d : decode (xm_b q) pc = .ok (.lload 14, 2)) : e_EOq eft cls elay eI q pc (0, ei_load 14 1 (pc + 2), 0, 0) := e_st (I := eI) (er_lload (i := 14) d) nx_load
theorem ld_lload_18 {q : xM} {pc : Nat} (d : decode (xm_b q) pc = .ok (.lload 18, 2)) : e_EOq eft cls elay eI q pc (0, ei_load 18 1 (pc + 2), 0, 0) := e_st (I := eI) (er_lload (i := 18) d) nx_load
theorem ld_lload_16 {q : xM} {pc : Nat} (d : decode (xm_b q) pc = .ok (.lload 16, 2)) : e_EOq eft cls elay eI q pc (0, ei_load 16 1 (pc + 2), 0, 0) := e_st (I := eI) (er_lload (i := 16) d) nx_load
theorem ld_lload_20 {q : xM} {pc : Nat} (d : decode (xm_b q) pc = .ok (.lload 20, 2)) : e_EOq eft cls elay eI q pc (0, ei_load 20 1 (pc + 2), 0, 0) := e_st (I := eI) (er_lload (i := 20) d) nx_load
theorem ld_lload_22 {q : xM} {pc : Nat} (d : decode (xm_b q) pc = .ok (.lload 22, 2)) : e_EOq eft cls elay eI q pc (0, ei_load 22 1 (pc + 2), 0, 0) := e_st (I := eI) (er_lload (i := 22) d) nx_load
theorem ld_lload_24 {q : xM} {pc : Nat} (d : decode (xm_b q) pc = .ok (.lload 24, 2)) : e_EOq eft cls elay eI q pc (0, ei_load 24 1 (pc + 2), 0, 0) := e_st (I := eI) (er_lload (i := 24) d) nx_load
theorem ld_lload_26 {q : xM} {pc : Nat} (d : decode (xm_b q) pc = .ok (.lload 26, 2)) : e_EOq eft cls elay eI q pc (0, ei_load 26 1 (pc + 2), 0, 0) := e_st (I := eI) (er_lload (i := 26) d) nx_load
theorem ld_iload_13 {q : xM} {pc : Nat} (d : decode (xm_b q) pc = .ok (.iload 13, 2)) : e_EOq eft cls elay eI q pc (0, ei_load 13 0 (pc + 2), 0, 0) := e_st (I := eI) (er_iload (i := 13) d) nx_load
theorem ld_iload_12 {q : xM} {pc : Nat} (d : decode (xm_b q) pc = .ok (.iload 12, 2)) : e_EOq eft cls elay eI q pc (0, ei_load 12 0 (pc + 2), 0, 0) := e_st (I := eI) (er_iload (i := 12) d) nx_load
theorem ps_sipush_25060 {q : xM} {pc : Nat} (d : decode (xm_b q) pc = .ok (.sipush 25060, 3)) : e_EOq eft cls elay eI q pc (0, ei_push (0, 25060) (pc + 3), 0, 0) := e_st (I := eI) (er_sipush (n := 25060) (z := 25060) (v := 25060) d (by decide) (by decide)) (nx_push (Or.inl rfl))
theorem ps_sipush_224 {q : xM} {pc : Nat} (d : decode (xm_b q) pc = .ok (.sipush 224, 3)) : e_EOq eft cls elay eI q pc (0, ei_push (0, 224) (pc + 3), 0, 0) := e_st (I := eI) (er_sipush (n := 224) (z := 224) (v := 224) d (by decide) (by decide)) (nx_push (Or.inl rfl))
theorem ps_sipush_288 {q : xM} {pc : Nat} (d : decode (xm_b q) pc = .ok (.sipush 288, 3)) : e_EOq eft cls elay eI q pc (0, ei_push (0, 288) (pc + 3), 0, 0) := e_st (I := eI) (er_sipush (n := 288) (z := 288) (v := 288) d (by decide) (by decide)) (nx_push (Or.inl rfl))
theorem ps_sipush_160 {q : xM} {pc : Nat} (d : decode (xm_b q) pc = .ok (.sipush 160, 3)) : e_EOq eft cls elay eI q pc (0, ei_push (0, 160) (pc + 3), 0, 0) := e_st (I := eI) (er_sipush (n := 160) (z := 160) (v := 160) d (by decide) (by decide)) (nx_push (Or.inl rfl))
theorem ps_sipush_352 {q : xM} {pc : Nat} (d : decode (xm_b q) pc = .ok (.sipush 352, 3)) : e_EOq eft cls elay eI q pc (0, ei_push (0, 352) (pc + 3), 0, 0) := e_st (I := eI) (er_sipush (n := 352) (z := 352) (v := 352) d (by decide) (by decide)) (nx_push (Or.inl rfl))
theorem ps_sipush_m1000 {q : xM} {pc : Nat} (d : decode (xm_b q) pc = .ok (.sipush (-1000), 3)) : e_EOq eft cls elay eI q pc (0, ei_push (0, (-1000)) (pc + 3), 0, 0) := e_st (I := eI) (er_sipush (n := (-1000)) (z := (-1000)) (v := (-1000)) d (by decide) (by decide)) (nx_push (Or.inl rfl))
theorem ps_bipush_61 {q : xM} {pc : Nat} (d : decode (xm_b q) pc = .ok (.bipush 61, 2)) : e_EOq eft cls elay eI q pc (0, ei_push (0, 61) (pc + 2), 0, 0) := e_st (I := eI) (er_bipush (n := 61) (z := 61) (v := 61) d (by decide) (by decide)) (nx_push (Or.inl rfl))
theorem ps_bipush_62 {q : xM} {pc : Nat} (d : decode (xm_b q) pc = .ok (.bipush 62, 2)) : e_EOq eft cls elay eI q pc (0, ei_push (0, 62) (pc + 2), 0, 0) := e_st (I := eI) (er_bipush (n := 62) (z := 62) (v := 62) d (by decide) (by decide)) (nx_push (Or.inl rfl))
theorem ps_bipush_110 {q : xM} {pc : Nat} (d : decode (xm_b q) pc = .ok (.bipush 110, 2)) : e_EOq eft cls elay eI q pc (0, ei_push (0, 110) (pc + 2), 0, 0) := e_st (I := eI) (er_bipush (n := 110) (z := 110) (v := 110) d (by decide) (by decide)) (nx_push (Or.inl rfl))
theorem ps_bipush_108 {q : xM} {pc : Nat} (d : decode (xm_b q) pc = .ok (.bipush 108, 2)) : e_EOq eft cls elay eI q pc (0, ei_push (0, 108) (pc + 2), 0, 0) := e_st (I := eI) (er_bipush (n := 108) (z := 108) (v := 108) d (by decide) (by decide)) (nx_push (Or.inl rfl))
theorem ps_bipush_103 {q : xM} {pc : Nat} (d : decode (xm_b q) pc = .ok (.bipush 103, 2)) : e_EOq eft cls elay eI q pc (0, ei_push (0, 103) (pc + 2), 0, 0) := e_st (I := eI) (er_bipush (n := 103) (z := 103) (v := 103) d (by decide) (by decide)) (nx_push (Or.inl rfl))
theorem ps_bipush_58 {q : xM} {pc : Nat} (d : decode (xm_b q) pc = .ok (.bipush 58, 2)) : e_EOq eft cls elay eI q pc (0, ei_push (0, 58) (pc + 2), 0, 0) := e_st (I := eI) (er_bipush (n := 58) (z := 58) (v := 58) d (by decide) (by decide)) (nx_push (Or.inl rfl))
theorem ps_sipush_3600 {q : xM} {pc : Nat} (d : decode (xm_b q) pc = .ok (.sipush 3600, 3)) : e_EOq eft cls elay eI q pc (0, ei_push (0, 3600) (pc + 3), 0, 0) := e_st (I := eI) (er_sipush (n := 3600) (z := 3600) (v := 3600) d (by decide) (by decide)) (nx_push (Or.inl rfl))
theorem ps_bipush_51 {q : xM} {pc : Nat} (d : decode (xm_b q) pc = .ok (.bipush 51, 2)) : e_EOq eft cls elay eI q pc (0, ei_push (0, 51) (pc + 2), 0, 0) := e_st (I := eI) (er_bipush (n := 51) (z := 51) (v := 51) d (by decide) (by decide)) (nx_push (Or.inl rfl))
theorem ps_sipush_128 {q : xM} {pc : Nat} (d : decode (xm_b q) pc = .ok (.sipush 128, 3)) : e_EOq eft cls elay eI q pc (0, ei_push (0, 128) (pc + 3), 0, 0) := e_st (I := eI) (er_sipush (n := 128) (z := 128) (v := 128) d (by decide) (by decide)) (nx_push (Or.inl rfl))
theorem ps_sipush_10000 {q : xM} {pc : Nat} (d : decode (xm_b q) pc = .ok (.sipush 10000, 3)) : e_EOq eft cls elay eI q pc (0, ei_push (0, 10000) (pc + 3), 0, 0) := e_st (I := eI) (er_sipush (n := 10000) (z := 10000) (v := 10000) d (by decide) (by decide)) (nx_push (Or.inl rfl))
theorem ps_sipush_900 {q : xM} {pc : Nat} (d : decode (xm_b q) pc = .ok (.sipush 900, 3)) : e_EOq eft cls elay eI q pc (0, ei_push (0, 900) (pc + 3), 0, 0) := e_st (I := eI) (er_sipush (n := 900) (z := 900) (v := 900) d (by decide) (by decide)) (nx_push (Or.inl rfl))
theorem ps_sipush_20932 {q : xM} {pc : Nat} (d : decode (xm_b q) pc = .ok (.sipush 20932, 3)) : e_EOq eft cls elay eI q pc (0, ei_push (0, 20932) (pc + 3), 0, 0) := e_st (I := eI) (er_sipush (n := 20932) (z := 20932) (v := 20932) d (by decide) (by decide)) (nx_push (Or.inl rfl))
theorem ps_sipush_6001 {q : xM} {pc : Nat} (d : decode (xm_b q) pc = .ok (.sipush 6001, 3)) : e_EOq eft cls elay eI q pc (0, ei_push (0, 6001) (pc + 3), 0, 0) := e_st (I := eI) (er_sipush (n := 6001) (z := 6001) (v := 6001) d (by decide) (by decide)) (nx_push (Or.inl rfl))
theorem ps_sipush_21060 {q : xM} {pc : Nat} (d : decode (xm_b q) pc = .ok (.sipush 21060, 3)) : e_EOq eft cls elay eI q pc (0, ei_push (0, 21060) (pc + 3), 0, 0) := e_st (I := eI) (er_sipush (n := 21060) (z := 21060) (v := 21060) d (by decide) (by decide)) (nx_push (Or.inl rfl))
theorem ps_sipush_20576 {q : xM} {pc : Nat} (d : decode (xm_b q) pc = .ok (.sipush 20576, 3)) : e_EOq eft cls elay eI q pc (0, ei_push (0, 20576) (pc + 3), 0, 0) := e_st (I := eI) (er_sipush (n := 20576) (z := 20576) (v := 20576) d (by decide) (by decide)) (nx_push (Or.inl rfl))
theorem ps_sipush_20704 {q : xM} {pc : Nat} (d : decode (xm_b q) pc = .ok (.sipush 20704, 3)) : e_EOq eft cls elay eI q pc (0, ei_push (0, 20704) (pc + 3), 0, 0) := e_st (I := eI) (er_sipush (n := 20704) (z := 20704) (v := 20704) d (by decide) (by decide)) (nx_push (Or.inl rfl))
theorem ld_iload_14 {q : xM} {pc : Nat} (d : decode (xm_b q) pc = .ok (.iload 14, 2)) : e_EOq eft cls elay eI q pc (0, ei_load 14 0 (pc + 2), 0, 0) := e_st (I := eI) (er_iload (i := 14) d) nx_load
theorem ps_sipush_1001 {q : xM} {pc : Nat} (d : decode (xm_b q) pc = .ok (.sipush 1001, 3)) : e_EOq eft cls elay eI q pc (0, ei_push (0, 1001) (pc + 3), 0, 0) := e_st (I := eI) (er_sipush (n := 1001) (z := 1001) (v := 1001) d (by decide) (by decide)) (nx_push (Or.inl rfl))
end
end
-- part 40c
section
noncomputable section
/-! links that the tables share -/
theorem lk_0_44p {q : xM} {pc : Nat} (hq : (xm_y q).cls = "RobotCellHouse$Arm") (d : decode (xm_b q) pc = .ok (.putfield 44, 3)) : e_EOq eft cls elay eI q pc (0, ei_putf eft elay 0 8 0 (pc + 3), 0, 0) := e_st (I := eI) (by rw [hq]; exact er_putf (ci := 0) (k := 8) (ix := 44) (N := 20) (fk := 0) (C := RX0) (T := TX0) (ty0 := tyX0) (ty := .int) rfl in_X0 tyX0_ok nmX0 (by decide) (in_t2 (List.mem_of_getElem? (i := 168) rfl) rfl) rfl rfl x_fit_int d) nx_putf
theorem lk_0_17g {q : xM} {pc : Nat} (hq : (xm_y q).cls = "RobotCellHouse$Arm") (d : decode (xm_b q) pc = .ok (.getfield 17, 3)) : e_EOq eft cls elay eI q pc (0, ei_getf eft elay 0 1 (pc + 3), 0, 0) := e_st (I := eI) (by rw [hq]; exact er_getf (ci := 0) (k := 1) (ix := 17) (N := 20) (C := RX0) (T := TX0) rfl in_X0 (by decide) (in_t2 (List.mem_of_getElem? (i := 148) rfl) rfl) d) nx_getf
theorem lk_0_21g {q : xM} {pc : Nat} (hq : (xm_y q).cls = "RobotCellHouse$Arm") (d : decode (xm_b q) pc = .ok (.getfield 21, 3)) : e_EOq eft cls elay eI q pc (0, ei_getf eft elay 0 2 (pc + 3), 0, 0) := e_st (I := eI) (by rw [hq]; exact er_getf (ci := 0) (k := 2) (ix := 21) (N := 20) (C := RX0) (T := TX0) rfl in_X0 (by decide) (in_t2 (List.mem_of_getElem? (i := 152) rfl) rfl) d) nx_getf
theorem lk_0_48p {q : xM} {pc : Nat} (hq : (xm_y q).cls = "RobotCellHouse$Arm") (d : decode (xm_b q) pc = .ok (.putfield 48, 3)) : e_EOq eft cls elay eI q pc (0, ei_putf eft elay 0 9 0 (pc + 3), 0, 0) := e_st (I := eI) (by rw [hq]; exact er_putf (ci := 0) (k := 9) (ix := 48) (N := 20) (fk := 0) (C := RX0) (T := TX0) (ty0 := tyX0) (ty := .int) rfl in_X0 tyX0_ok nmX0 (by decide) (in_t2 (List.mem_of_getElem? (i := 173) rfl) rfl) rfl rfl x_fit_int d) nx_putf
theorem lk_0_51p {q : xM} {pc : Nat} (hq : (xm_y q).cls = "RobotCellHouse$Arm") (d : decode (xm_b q) pc = .ok (.putfield 51, 3)) : e_EOq eft cls elay eI q pc (0, ei_putf eft elay 0 10 0 (pc + 3), 0, 0) := e_st (I := eI) (by rw [hq]; exact er_putf (ci := 0) (k := 10) (ix := 51) (N := 20) (fk := 0) (C := RX0) (T := TX0) (ty0 := tyX0) (ty := .int) rfl in_X0 tyX0_ok nmX0 (by decide) (in_t2 (List.mem_of_getElem? (i := 174) rfl) rfl) rfl rfl x_fit_int d) nx_putf
theorem lk_0_30g {q : xM} {pc : Nat} (hq : (xm_y q).cls = "RobotCellHouse$Arm") (d : decode (xm_b q) pc = .ok (.getfield 30, 3)) : e_EOq eft cls elay eI q pc (0, ei_getf eft elay 0 5 (pc + 3), 0, 0) := e_st (I := eI) (by rw [hq]; exact er_getf (ci := 0) (k := 5) (ix := 30) (N := 20) (C := RX0) (T := TX0) rfl in_X0 (by decide) (in_t2 (List.mem_of_getElem? (i := 160) rfl) rfl) d) nx_getf
theorem lk_0_54 {q : xM} {pc : Nat} (hq : (xm_y q).cls = "RobotCellHouse$Arm") (d : decode (xm_b q) pc = .ok (.invokestatic 54, 3)) : e_EOq eft cls elay eI q pc (2, e_nof, 452, 2) := e_ca (I := eI) (q' := n_452) rfl (by rw [hq]; exact xr_callS (q' := n_452) (ix := 54) (n := 2) (in_t4 (List.mem_of_getElem? (i := 9) rfl) rfl) good_w (in_t1 (List.mem_of_getElem? (i := 13) rfl) rfl) (in_t4 (List.mem_of_getElem? (i := 7) rfl) rfl) (in_t4 (List.mem_of_getElem? (i := 8) rfl) rfl) (by decide +kernel) (by decide +kernel) d)
theorem lk_0_39g {q : xM} {pc : Nat} (hq : (xm_y q).cls = "RobotCellHouse$Arm") (d : decode (xm_b q) pc = .ok (.getfield 39, 3)) : e_EOq eft cls elay eI q pc (0, ei_getf eft elay 0 7 (pc + 3), 0, 0) := e_st (I := eI) (by rw [hq]; exact er_getf (ci := 0) (k := 7) (ix := 39) (N := 20) (C := RX0) (T := TX0) rfl in_X0 (by decide) (in_t2 (List.mem_of_getElem? (i := 165) rfl) rfl) d) nx_getf
theorem lk_0_60 {q : xM} {pc : Nat} (hq : (xm_y q).cls = "RobotCellHouse$Arm") (d : decode (xm_b q) pc = .ok (.invokevirtual 60, 3)) : e_EOq eft cls elay eI q pc (2, e_nof, 20, 1) := e_ca (I := eI) (q' := n_20) rfl (by rw [hq]; exact xr_callV (q' := n_20) (ix := 60) (n := 0) (in_t4 (List.mem_of_getElem? (i := 13) rfl) rfl) good_w (in_t1 (List.mem_of_getElem? (i := 3) rfl) rfl) (in_t4 (List.mem_of_getElem? (i := 10) rfl) rfl) (in_t4 (List.mem_of_getElem? (i := 11) rfl) rfl) (in_t4 (List.mem_of_getElem? (i := 12) rfl) rfl) (by decide +kernel) (by decide +kernel) (by decide +kernel) d)
theorem lk_0_63 {q : xM} {pc : Nat} (hq : (xm_y q).cls = "RobotCellHouse$Arm") (d : decode (xm_b q) pc = .ok (.invokevirtual 63, 3)) : e_EOq eft cls elay eI q pc (2, e_nof, 3, 1) := e_ca (I := eI) (q' := n_3) rfl (by rw [hq]; exact xr_callV (q' := n_3) (ix := 63) (n := 0) (in_t4 (List.mem_of_getElem? (i := 17) rfl) rfl) good_w (in_t1 (List.mem_of_getElem? (i := 8) rfl) rfl) (in_t4 (List.mem_of_getElem? (i := 14) rfl) rfl) (in_t4 (List.mem_of_getElem? (i := 15) rfl) rfl) (in_t4 (List.mem_of_getElem? (i := 16) rfl) rfl) (by decide +kernel) (by decide +kernel) (by decide +kernel) d)
theorem lk_0_11g {q : xM} {pc : Nat} (hq : (xm_y q).cls = "RobotCellHouse$Arm") (d : decode (xm_b q) pc = .ok (.getfield 11, 3)) : e_EOq eft cls elay eI q pc (0, ei_getf eft elay 0 0 (pc + 3), 0, 0) := e_st (I := eI) (by rw [hq]; exact er_getf (ci := 0) (k := 0) (ix := 11) (N := 20) (C := RX0) (T := TX0) rfl in_X0 (by decide) (in_t2 (List.mem_of_getElem? (i := 144) rfl) rfl) d) nx_getf
theorem lk_0_44g {q : xM} {pc : Nat} (hq : (xm_y q).cls = "RobotCellHouse$Arm") (d : decode (xm_b q) pc = .ok (.getfield 44, 3)) : e_EOq eft cls elay eI q pc (0, ei_getf eft elay 0 8 (pc + 3), 0, 0) := e_st (I := eI) (by rw [hq]; exact er_getf (ci := 0) (k := 8) (ix := 44) (N := 20) (C := RX0) (T := TX0) rfl in_X0 (by decide) (in_t2 (List.mem_of_getElem? (i := 168) rfl) rfl) d) nx_getf
theorem lk_0_66p {q : xM} {pc : Nat} (hq : (xm_y q).cls = "RobotCellHouse$Arm") (d : decode (xm_b q) pc = .ok (.putfield 66, 3)) : e_EOq eft cls elay eI q pc (0, ei_putf eft elay 5 0 0 (pc + 3), 0, 0) := e_st (I := eI) (by rw [hq]; exact er_putf (ci := 5) (k := 0) (ix := 66) (N := 12) (fk := 0) (C := RX5) (T := TX5) (ty0 := tyX5) (ty := .int) rfl in_X5 tyX5_ok nmX5 (by decide) (in_t2 (List.mem_of_getElem? (i := 88) rfl) rfl) rfl rfl x_fit_int d) nx_putf
theorem lk_0_69p {q : xM} {pc : Nat} (hq : (xm_y q).cls = "RobotCellHouse$Arm") (d : decode (xm_b q) pc = .ok (.putfield 69, 3)) : e_EOq eft cls elay eI q pc (0, ei_putf eft elay 5 1 0 (pc + 3), 0, 0) := e_st (I := eI) (by rw [hq]; exact er_putf (ci := 5) (k := 1) (ix := 69) (N := 12) (fk := 0) (C := RX5) (T := TX5) (ty0 := tyX5) (ty := .int) rfl in_X5 tyX5_ok nmX5 (by decide) (in_t2 (List.mem_of_getElem? (i := 90) rfl) rfl) rfl rfl x_fit_int d) nx_putf
theorem lk_0_72p {q : xM} {pc : Nat} (hq : (xm_y q).cls = "RobotCellHouse$Arm") (d : decode (xm_b q) pc = .ok (.putfield 72, 3)) : e_EOq eft cls elay eI q pc (0, ei_putf eft elay 5 2 0 (pc + 3), 0, 0) := e_st (I := eI) (by rw [hq]; exact er_putf (ci := 5) (k := 2) (ix := 72) (N := 12) (fk := 0) (C := RX5) (T := TX5) (ty0 := tyX5) (ty := .int) rfl in_X5 tyX5_ok nmX5 (by decide) (in_t2 (List.mem_of_getElem? (i := 93) rfl) rfl) rfl rfl x_fit_int d) nx_putf
theorem lk_0_75p {q : xM} {pc : Nat} (hq : (xm_y q).cls = "RobotCellHouse$Arm") (d : decode (xm_b q) pc = .ok (.putfield 75, 3)) : e_EOq eft cls elay eI q pc (0, ei_putf eft elay 5 3 0 (pc + 3), 0, 0) := e_st (I := eI) (by rw [hq]; exact er_putf (ci := 5) (k := 3) (ix := 75) (N := 12) (fk := 0) (C := RX5) (T := TX5) (ty0 := tyX5) (ty := .int) rfl in_X5 tyX5_ok nmX5 (by decide) (in_t2 (List.mem_of_getElem? (i := 95) rfl) rfl) rfl rfl x_fit_int d) nx_putf
theorem lk_0_78p {q : xM} {pc : Nat} (hq : (xm_y q).cls = "RobotCellHouse$Arm") (d : decode (xm_b q) pc = .ok (.putfield 78, 3)) : e_EOq eft cls elay eI q pc (0, ei_putf eft elay 5 4 0 (pc + 3), 0, 0) := e_st (I := eI) (by rw [hq]; exact er_putf (ci := 5) (k := 4) (ix := 78) (N := 12) (fk := 0) (C := RX5) (T := TX5) (ty0 := tyX5) (ty := .int) rfl in_X5 tyX5_ok nmX5 (by decide) (in_t2 (List.mem_of_getElem? (i := 96) rfl) rfl) rfl rfl x_fit_int d) nx_putf
theorem lk_0_81p {q : xM} {pc : Nat} (hq : (xm_y q).cls = "RobotCellHouse$Arm") (d : decode (xm_b q) pc = .ok (.putfield 81, 3)) : e_EOq eft cls elay eI q pc (0, ei_putf eft elay 5 5 0 (pc + 3), 0, 0) := e_st (I := eI) (by rw [hq]; exact er_putf (ci := 5) (k := 5) (ix := 81) (N := 12) (fk := 0) (C := RX5) (T := TX5) (ty0 := tyX5) (ty := .int) rfl in_X5 tyX5_ok nmX5 (by decide) (in_t2 (List.mem_of_getElem? (i := 99) rfl) rfl) rfl rfl x_fit_int d) nx_putf
theorem lk_0_84p {q : xM} {pc : Nat} (hq : (xm_y q).cls = "RobotCellHouse$Arm") (d : decode (xm_b q) pc = .ok (.putfield 84, 3)) : e_EOq eft cls elay eI q pc (0, ei_putf eft elay 5 6 0 (pc + 3), 0, 0) := e_st (I := eI) (by rw [hq]; exact er_putf (ci := 5) (k := 6) (ix := 84) (N := 12) (fk := 0) (C := RX5) (T := TX5) (ty0 := tyX5) (ty := .int) rfl in_X5 tyX5_ok nmX5 (by decide) (in_t2 (List.mem_of_getElem? (i := 102) rfl) rfl) rfl rfl x_fit_int d) nx_putf
theorem lk_0_87 {q : xM} {pc : Nat} (hq : (xm_y q).cls = "RobotCellHouse$Arm") (d : decode (xm_b q) pc = .ok (.invokevirtual 87, 3)) : e_EOq eft cls elay eI q pc (2, e_nof, 10, 1) := e_ca (I := eI) (q' := n_10) rfl (by rw [hq]; exact xr_callV (q' := n_10) (ix := 87) (n := 0) (in_t4 (List.mem_of_getElem? (i := 25) rfl) rfl) good_w (in_t1 (List.mem_of_getElem? (i := 8) rfl) rfl) (in_t4 (List.mem_of_getElem? (i := 22) rfl) rfl) (in_t4 (List.mem_of_getElem? (i := 23) rfl) rfl) (in_t4 (List.mem_of_getElem? (i := 24) rfl) rfl) (by decide +kernel) (by decide +kernel) (by decide +kernel) d)
theorem lk_0_90p {q : xM} {pc : Nat} (hq : (xm_y q).cls = "RobotCellHouse$Arm") (d : decode (xm_b q) pc = .ok (.putfield 90, 3)) : e_EOq eft cls elay eI q pc (0, ei_putf eft elay 5 7 0 (pc + 3), 0, 0) := e_st (I := eI) (by rw [hq]; exact er_putf (ci := 5) (k := 7) (ix := 90) (N := 12) (fk := 0) (C := RX5) (T := TX5) (ty0 := tyX5) (ty := .int) rfl in_X5 tyX5_ok nmX5 (by decide) (in_t2 (List.mem_of_getElem? (i := 105) rfl) rfl) rfl rfl x_fit_int d) nx_putf
theorem lk_0_93p {q : xM} {pc : Nat} (hq : (xm_y q).cls = "RobotCellHouse$Arm") (d : decode (xm_b q) pc = .ok (.putfield 93, 3)) : e_EOq eft cls elay eI q pc (0, ei_putf eft elay 5 9 0 (pc + 3), 0, 0) := e_st (I := eI) (by rw [hq]; exact er_putf (ci := 5) (k := 9) (ix := 93) (N := 12) (fk := 0) (C := RX5) (T := TX5) (ty0 := tyX5) (ty := .int) rfl in_X5 tyX5_ok nmX5 (by decide) (in_t2 (List.mem_of_getElem? (i := 112) rfl) rfl) rfl rfl x_fit_int d) nx_putf
theorem lk_0_33g {q : xM} {pc : Nat} (hq : (xm_y q).cls = "RobotCellHouse$Arm") (d : decode (xm_b q) pc = .ok (.getfield 33, 3)) : e_EOq eft cls elay eI q pc (0, ei_getf eft elay 0 6 (pc + 3), 0, 0) := e_st (I := eI) (by rw [hq]; exact er_getf (ci := 0) (k := 6) (ix := 33) (N := 20) (C := RX0) (T := TX0) rfl in_X0 (by decide) (in_t2 (List.mem_of_getElem? (i := 162) rfl) rfl) d) nx_getf
theorem lk_0_96 {q : xM} {pc : Nat} (hq : (xm_y q).cls = "RobotCellHouse$Arm") (d : decode (xm_b q) pc = .ok (.invokevirtual 96, 3)) : e_EOq eft cls elay eI q pc (2, e_nof, 17, 1) := e_ca (I := eI) (q' := n_17) rfl (by rw [hq]; exact xr_callV (q' := n_17) (ix := 96) (n := 0) (in_t4 (List.mem_of_getElem? (i := 21) rfl) rfl) good_w (in_t1 (List.mem_of_getElem? (i := 8) rfl) rfl) (in_t4 (List.mem_of_getElem? (i := 18) rfl) rfl) (in_t4 (List.mem_of_getElem? (i := 19) rfl) rfl) (in_t4 (List.mem_of_getElem? (i := 20) rfl) rfl) (by decide +kernel) (by decide +kernel) (by decide +kernel) d)
theorem lk_0_99p {q : xM} {pc : Nat} (hq : (xm_y q).cls = "RobotCellHouse$Arm") (d : decode (xm_b q) pc = .ok (.putfield 99, 3)) : e_EOq eft cls elay eI q pc (0, ei_putf eft elay 0 14 0 (pc + 3), 0, 0) := e_st (I := eI) (by rw [hq]; exact er_putf (ci := 0) (k := 14) (ix := 99) (N := 20) (fk := 0) (C := RX0) (T := TX0) (ty0 := tyX0) (ty := .int) rfl in_X0 tyX0_ok nmX0 (by decide) (in_t2 (List.mem_of_getElem? (i := 183) rfl) rfl) rfl rfl x_fit_int d) nx_putf
theorem lk_0_102p {q : xM} {pc : Nat} (hq : (xm_y q).cls = "RobotCellHouse$Arm") (d : decode (xm_b q) pc = .ok (.putfield 102, 3)) : e_EOq eft cls elay eI q pc (0, ei_putf eft elay 0 15 0 (pc + 3), 0, 0) := e_st (I := eI) (by rw [hq]; exact er_putf (ci := 0) (k := 15) (ix := 102) (N := 20) (fk := 0) (C := RX0) (T := TX0) (ty0 := tyX0) (ty := .int) rfl in_X0 tyX0_ok nmX0 (by decide) (in_t2 (List.mem_of_getElem? (i := 187) rfl) rfl) rfl rfl x_fit_int d) nx_putf
theorem lk_0_105p {q : xM} {pc : Nat} (hq : (xm_y q).cls = "RobotCellHouse$Arm") (d : decode (xm_b q) pc = .ok (.putfield 105, 3)) : e_EOq eft cls elay eI q pc (0, ei_putf eft elay 0 16 0 (pc + 3), 0, 0) := e_st (I := eI) (by rw [hq]; exact er_putf (ci := 0) (k := 16) (ix := 105) (N := 20) (fk := 0) (C := RX0) (T := TX0) (ty0 := tyX0) (ty := .int) rfl in_X0 tyX0_ok nmX0 (by decide) (in_t2 (List.mem_of_getElem? (i := 189) rfl) rfl) rfl rfl x_fit_int d) nx_putf
theorem lk_0_108p {q : xM} {pc : Nat} (hq : (xm_y q).cls = "RobotCellHouse$Arm") (d : decode (xm_b q) pc = .ok (.putfield 108, 3)) : e_EOq eft cls elay eI q pc (0, ei_putf eft elay 0 17 0 (pc + 3), 0, 0) := e_st (I := eI) (by rw [hq]; exact er_putf (ci := 0) (k := 17) (ix := 108) (N := 20) (fk := 0) (C := RX0) (T := TX0) (ty0 := tyX0) (ty := .int) rfl in_X0 tyX0_ok nmX0 (by decide) (in_t2 (List.mem_of_getElem? (i := 193) rfl) rfl) rfl rfl x_fit_int d) nx_putf
theorem lk_0_111p {q : xM} {pc : Nat} (hq : (xm_y q).cls = "RobotCellHouse$Arm") (d : decode (xm_b q) pc = .ok (.putfield 111, 3)) : e_EOq eft cls elay eI q pc (0, ei_putf eft elay 0 19 0 (pc + 3), 0, 0) := e_st (I := eI) (by rw [hq]; exact er_putf (ci := 0) (k := 19) (ix := 111) (N := 20) (fk := 0) (C := RX0) (T := TX0) (ty0 := tyX0) (ty := .int) rfl in_X0 tyX0_ok nmX0 (by decide) (in_t2 (List.mem_of_getElem? (i := 200) rfl) rfl) rfl rfl x_fit_int d) nx_putf
theorem lk_0_114 {q : xM} {pc : Nat} (hq : (xm_y q).cls = "RobotCellHouse$Arm") (d : decode (xm_b q) pc = .ok (.invokevirtual 114, 3)) : e_EOq eft cls elay eI q pc (2, e_nof, 11, 1) := e_ca (I := eI) (q' := n_11) rfl (by rw [hq]; exact xr_callV (q' := n_11) (ix := 114) (n := 0) (in_t4 (List.mem_of_getElem? (i := 39) rfl) rfl) good_w (in_t1 (List.mem_of_getElem? (i := 8) rfl) rfl) (in_t4 (List.mem_of_getElem? (i := 36) rfl) rfl) (in_t4 (List.mem_of_getElem? (i := 37) rfl) rfl) (in_t4 (List.mem_of_getElem? (i := 38) rfl) rfl) (by decide +kernel) (by decide +kernel) (by decide +kernel) d)
theorem lk_0_39p {q : xM} {pc : Nat} (hq : (xm_y q).cls = "RobotCellHouse$Arm") (d : decode (xm_b q) pc = .ok (.putfield 39, 3)) : e_EOq eft cls elay eI q pc (0, ei_putf eft elay 0 7 2 (pc + 3), 0, 0) := e_st (I := eI) (by rw [hq]; exact er_putf (ci := 0) (k := 7) (ix := 39) (N := 20) (fk := 2) (C := RX0) (T := TX0) (ty0 := tyX0) (ty := .object "RobotCellHouse$Code") rfl in_X0 tyX0_ok nmX0 (by decide) (in_t2 (List.mem_of_getElem? (i := 165) rfl) rfl) rfl rfl x_fit_obj d) nx_putf
theorem lk_0_75g {q : xM} {pc : Nat} (hq : (xm_y q).cls = "RobotCellHouse$Arm") (d : decode (xm_b q) pc = .ok (.getfield 75, 3)) : e_EOq eft cls elay eI q pc (0, ei_getf eft elay 5 3 (pc + 3), 0, 0) := e_st (I := eI) (by rw [hq]; exact er_getf (ci := 5) (k := 3) (ix := 75) (N := 12) (C := RX5) (T := TX5) rfl in_X5 (by decide) (in_t2 (List.mem_of_getElem? (i := 95) rfl) rfl) d) nx_getf
theorem lk_0_66g {q : xM} {pc : Nat} (hq : (xm_y q).cls = "RobotCellHouse$Arm") (d : decode (xm_b q) pc = .ok (.getfield 66, 3)) : e_EOq eft cls elay eI q pc (0, ei_getf eft elay 5 0 (pc + 3), 0, 0) := e_st (I := eI) (by rw [hq]; exact er_getf (ci := 5) (k := 0) (ix := 66) (N := 12) (C := RX5) (T := TX5) rfl in_X5 (by decide) (in_t2 (List.mem_of_getElem? (i := 88) rfl) rfl) d) nx_getf
theorem lk_0_72g {q : xM} {pc : Nat} (hq : (xm_y q).cls = "RobotCellHouse$Arm") (d : decode (xm_b q) pc = .ok (.getfield 72, 3)) : e_EOq eft cls elay eI q pc (0, ei_getf eft elay 5 2 (pc + 3), 0, 0) := e_st (I := eI) (by rw [hq]; exact er_getf (ci := 5) (k := 2) (ix := 72) (N := 12) (C := RX5) (T := TX5) rfl in_X5 (by decide) (in_t2 (List.mem_of_getElem? (i := 93) rfl) rfl) d) nx_getf
theorem lk_0_99g {q : xM} {pc : Nat} (hq : (xm_y q).cls = "RobotCellHouse$Arm") (d : decode (xm_b q) pc = .ok (.getfield 99, 3)) : e_EOq eft cls elay eI q pc (0, ei_getf eft elay 0 14 (pc + 3), 0, 0) := e_st (I := eI) (by rw [hq]; exact er_getf (ci := 0) (k := 14) (ix := 99) (N := 20) (C := RX0) (T := TX0) rfl in_X0 (by decide) (in_t2 (List.mem_of_getElem? (i := 183) rfl) rfl) d) nx_getf
theorem lk_0_78g {q : xM} {pc : Nat} (hq : (xm_y q).cls = "RobotCellHouse$Arm") (d : decode (xm_b q) pc = .ok (.getfield 78, 3)) : e_EOq eft cls elay eI q pc (0, ei_getf eft elay 5 4 (pc + 3), 0, 0) := e_st (I := eI) (by rw [hq]; exact er_getf (ci := 5) (k := 4) (ix := 78) (N := 12) (C := RX5) (T := TX5) rfl in_X5 (by decide) (in_t2 (List.mem_of_getElem? (i := 96) rfl) rfl) d) nx_getf
theorem lk_0_102g {q : xM} {pc : Nat} (hq : (xm_y q).cls = "RobotCellHouse$Arm") (d : decode (xm_b q) pc = .ok (.getfield 102, 3)) : e_EOq eft cls elay eI q pc (0, ei_getf eft elay 0 15 (pc + 3), 0, 0) := e_st (I := eI) (by rw [hq]; exact er_getf (ci := 0) (k := 15) (ix := 102) (N := 20) (C := RX0) (T := TX0) rfl in_X0 (by decide) (in_t2 (List.mem_of_getElem? (i := 187) rfl) rfl) d) nx_getf
theorem lk_0_108g {q : xM} {pc : Nat} (hq : (xm_y q).cls = "RobotCellHouse$Arm") (d : decode (xm_b q) pc = .ok (.getfield 108, 3)) : e_EOq eft cls elay eI q pc (0, ei_getf eft elay 0 17 (pc + 3), 0, 0) := e_st (I := eI) (by rw [hq]; exact er_getf (ci := 0) (k := 17) (ix := 108) (N := 20) (C := RX0) (T := TX0) rfl in_X0 (by decide) (in_t2 (List.mem_of_getElem? (i := 193) rfl) rfl) d) nx_getf
theorem lk_0_111g {q : xM} {pc : Nat} (hq : (xm_y q).cls = "RobotCellHouse$Arm") (d : decode (xm_b q) pc = .ok (.getfield 111, 3)) : e_EOq eft cls elay eI q pc (0, ei_getf eft elay 0 19 (pc + 3), 0, 0) := e_st (I := eI) (by rw [hq]; exact er_getf (ci := 0) (k := 19) (ix := 111) (N := 20) (C := RX0) (T := TX0) rfl in_X0 (by decide) (in_t2 (List.mem_of_getElem? (i := 200) rfl) rfl) d) nx_getf
theorem lk_0_48g {q : xM} {pc : Nat} (hq : (xm_y q).cls = "RobotCellHouse$Arm") (d : decode (xm_b q) pc = .ok (.getfield 48, 3)) : e_EOq eft cls elay eI q pc (0, ei_getf eft elay 0 9 (pc + 3), 0, 0) := e_st (I := eI) (by rw [hq]; exact er_getf (ci := 0) (k := 9) (ix := 48) (N := 20) (C := RX0) (T := TX0) rfl in_X0 (by decide) (in_t2 (List.mem_of_getElem? (i := 173) rfl) rfl) d) nx_getf
theorem lk_0_90g {q : xM} {pc : Nat} (hq : (xm_y q).cls = "RobotCellHouse$Arm") (d : decode (xm_b q) pc = .ok (.getfield 90, 3)) : e_EOq eft cls elay eI q pc (0, ei_getf eft elay 5 7 (pc + 3), 0, 0) := e_st (I := eI) (by rw [hq]; exact er_getf (ci := 5) (k := 7) (ix := 90) (N := 12) (C := RX5) (T := TX5) rfl in_X5 (by decide) (in_t2 (List.mem_of_getElem? (i := 105) rfl) rfl) d) nx_getf
theorem lk_0_117 {q : xM} {pc : Nat} (hq : (xm_y q).cls = "RobotCellHouse$Arm") (d : decode (xm_b q) pc = .ok (.invokestatic 117, 3)) : e_EOq eft cls elay eI q pc (2, e_nof, 250, 1) := e_ca (I := eI) (q' := n_250) rfl (by rw [hq]; exact xr_callSN (q' := n_250) (ix := 117) (n := 1) (host := "RobotCellHouse") (in_t4 (List.mem_of_getElem? (i := 28) rfl) rfl) good_w (in_t1 (List.mem_of_getElem? (i := 1) rfl) rfl) (List.mem_of_getElem? (i := 9) rfl) (in_t4 (List.mem_of_getElem? (i := 27) rfl) rfl) (by decide +kernel) (by decide +kernel) d)
theorem lk_0_121 {q : xM} {pc : Nat} (hq : (xm_y q).cls = "RobotCellHouse$Arm") (d : decode (xm_b q) pc = .ok (.invokestatic 121, 3)) : e_EOq eft cls elay eI q pc (2, e_nof, 249, 1) := e_ca (I := eI) (q' := n_249) rfl (by rw [hq]; exact xr_callSN (q' := n_249) (ix := 121) (n := 1) (host := "RobotCellHouse") (in_t4 (List.mem_of_getElem? (i := 31) rfl) rfl) good_w (in_t1 (List.mem_of_getElem? (i := 1) rfl) rfl) (List.mem_of_getElem? (i := 10) rfl) (in_t4 (List.mem_of_getElem? (i := 30) rfl) rfl) (by decide +kernel) (by decide +kernel) d)
theorem lk_0_24g {q : xM} {pc : Nat} (hq : (xm_y q).cls = "RobotCellHouse$Arm") (d : decode (xm_b q) pc = .ok (.getfield 24, 3)) : e_EOq eft cls elay eI q pc (0, ei_getf eft elay 0 3 (pc + 3), 0, 0) := e_st (I := eI) (by rw [hq]; exact er_getf (ci := 0) (k := 3) (ix := 24) (N := 20) (C := RX0) (T := TX0) rfl in_X0 (by decide) (in_t2 (List.mem_of_getElem? (i := 156) rfl) rfl) d) nx_getf
theorem lk_0_27g {q : xM} {pc : Nat} (hq : (xm_y q).cls = "RobotCellHouse$Arm") (d : decode (xm_b q) pc = .ok (.getfield 27, 3)) : e_EOq eft cls elay eI q pc (0, ei_getf eft elay 0 4 (pc + 3), 0, 0) := e_st (I := eI) (by rw [hq]; exact er_getf (ci := 0) (k := 4) (ix := 27) (N := 20) (C := RX0) (T := TX0) rfl in_X0 (by decide) (in_t2 (List.mem_of_getElem? (i := 158) rfl) rfl) d) nx_getf
theorem lk_0_126g {q : xM} {pc : Nat} (hq : (xm_y q).cls = "RobotCellHouse$Arm") (d : decode (xm_b q) pc = .ok (.getfield 126, 3)) : e_EOq eft cls elay eI q pc (0, ei_getf eft elay 5 8 (pc + 3), 0, 0) := e_st (I := eI) (by rw [hq]; exact er_getf (ci := 5) (k := 8) (ix := 126) (N := 12) (C := RX5) (T := TX5) rfl in_X5 (by decide) (in_t2 (List.mem_of_getElem? (i := 110) rfl) rfl) d) nx_getf
theorem lk_0_129p {q : xM} {pc : Nat} (hq : (xm_y q).cls = "RobotCellHouse$Arm") (d : decode (xm_b q) pc = .ok (.putfield 129, 3)) : e_EOq eft cls elay eI q pc (0, ei_putf eft elay 5 11 0 (pc + 3), 0, 0) := e_st (I := eI) (by rw [hq]; exact er_putf (ci := 5) (k := 11) (ix := 129) (N := 12) (fk := 0) (C := RX5) (T := TX5) (ty0 := tyX5) (ty := .int) rfl in_X5 tyX5_ok nmX5 (by decide) (in_t2 (List.mem_of_getElem? (i := 118) rfl) rfl) rfl rfl x_fit_int d) nx_putf
theorem lk_0_132p {q : xM} {pc : Nat} (hq : (xm_y q).cls = "RobotCellHouse$Arm") (d : decode (xm_b q) pc = .ok (.putfield 132, 3)) : e_EOq eft cls elay eI q pc (0, ei_putf eft elay 0 11 0 (pc + 3), 0, 0) := e_st (I := eI) (by rw [hq]; exact er_putf (ci := 0) (k := 11) (ix := 132) (N := 20) (fk := 0) (C := RX0) (T := TX0) (ty0 := tyX0) (ty := .int) rfl in_X0 tyX0_ok nmX0 (by decide) (in_t2 (List.mem_of_getElem? (i := 177) rfl) rfl) rfl rfl x_fit_int d) nx_putf
theorem lk_0_135p {q : xM} {pc : Nat} (hq : (xm_y q).cls = "RobotCellHouse$Arm") (d : decode (xm_b q) pc = .ok (.putfield 135, 3)) : e_EOq eft cls elay eI q pc (0, ei_putf eft elay 0 12 0 (pc + 3), 0, 0) := e_st (I := eI) (by rw [hq]; exact er_putf (ci := 0) (k := 12) (ix := 135) (N := 20) (fk := 0) (C := RX0) (T := TX0) (ty0 := tyX0) (ty := .int) rfl in_X0 tyX0_ok nmX0 (by decide) (in_t2 (List.mem_of_getElem? (i := 179) rfl) rfl) rfl rfl x_fit_int d) nx_putf
theorem lk_0_138p {q : xM} {pc : Nat} (hq : (xm_y q).cls = "RobotCellHouse$Arm") (d : decode (xm_b q) pc = .ok (.putfield 138, 3)) : e_EOq eft cls elay eI q pc (0, ei_putf eft elay 0 13 0 (pc + 3), 0, 0) := e_st (I := eI) (by rw [hq]; exact er_putf (ci := 0) (k := 13) (ix := 138) (N := 20) (fk := 0) (C := RX0) (T := TX0) (ty0 := tyX0) (ty := .int) rfl in_X0 tyX0_ok nmX0 (by decide) (in_t2 (List.mem_of_getElem? (i := 182) rfl) rfl) rfl rfl x_fit_int d) nx_putf
theorem lk_0_141p {q : xM} {pc : Nat} (hq : (xm_y q).cls = "RobotCellHouse$Arm") (d : decode (xm_b q) pc = .ok (.putfield 141, 3)) : e_EOq eft cls elay eI q pc (0, ei_putf eft elay 5 10 0 (pc + 3), 0, 0) := e_st (I := eI) (by rw [hq]; exact er_putf (ci := 5) (k := 10) (ix := 141) (N := 12) (fk := 0) (C := RX5) (T := TX5) (ty0 := tyX5) (ty := .int) rfl in_X5 tyX5_ok nmX5 (by decide) (in_t2 (List.mem_of_getElem? (i := 116) rfl) rfl) rfl rfl x_fit_int d) nx_putf
theorem lk_0_135g {q : xM} {pc : Nat} (hq : (xm_y q).cls = "RobotCellHouse$Arm") (d : decode (xm_b q) pc = .ok (.getfield 135, 3)) : e_EOq eft cls elay eI q pc (0, ei_getf eft elay 0 12 (pc + 3), 0, 0) := e_st (I := eI) (by rw [hq]; exact er_getf (ci := 0) (k := 12) (ix := 135) (N := 20) (C := RX0) (T := TX0) rfl in_X0 (by decide) (in_t2 (List.mem_of_getElem? (i := 179) rfl) rfl) d) nx_getf
theorem lk_0_132g {q : xM} {pc : Nat} (hq : (xm_y q).cls = "RobotCellHouse$Arm") (d : decode (xm_b q) pc = .ok (.getfield 132, 3)) : e_EOq eft cls elay eI q pc (0, ei_getf eft elay 0 11 (pc + 3), 0, 0) := e_st (I := eI) (by rw [hq]; exact er_getf (ci := 0) (k := 11) (ix := 132) (N := 20) (C := RX0) (T := TX0) rfl in_X0 (by decide) (in_t2 (List.mem_of_getElem? (i := 177) rfl) rfl) d) nx_getf
theorem lk_0_144 {q : xM} {pc : Nat} (hq : (xm_y q).cls = "RobotCellHouse$Arm") (d : decode (xm_b q) pc = .ok (.invokevirtual 144, 3)) : e_EOq eft cls elay eI q pc (2, e_nof, 91, 1) := e_ca (I := eI) (q' := n_91) rfl (by rw [hq]; exact xr_callV (q' := n_91) (ix := 144) (n := 0) (in_t8 (List.mem_of_getElem? (i := 35) rfl) rfl) good_w (in_t1 (List.mem_of_getElem? (i := 9) rfl) rfl) (in_t8 (List.mem_of_getElem? (i := 32) rfl) rfl) (in_t8 (List.mem_of_getElem? (i := 33) rfl) rfl) (in_t8 (List.mem_of_getElem? (i := 34) rfl) rfl) (by decide +kernel) (by decide +kernel) (by decide +kernel) d)
theorem lk_0_148 {q : xM} {pc : Nat} (hq : (xm_y q).cls = "RobotCellHouse$Arm") (d : decode (xm_b q) pc = .ok (.invokevirtual 148, 3)) : e_EOq eft cls elay eI q pc (2, e_nof, 90, 1) := e_ca (I := eI) (q' := n_90) rfl (by rw [hq]; exact xr_callV (q' := n_90) (ix := 148) (n := 0) (in_t8 (List.mem_of_getElem? (i := 41) rfl) rfl) good_w (in_t1 (List.mem_of_getElem? (i := 9) rfl) rfl) (in_t8 (List.mem_of_getElem? (i := 38) rfl) rfl) (in_t8 (List.mem_of_getElem? (i := 39) rfl) rfl) (in_t8 (List.mem_of_getElem? (i := 40) rfl) rfl) (by decide +kernel) (by decide +kernel) (by decide +kernel) d)
theorem lk_0_126p {q : xM} {pc : Nat} (hq : (xm_y q).cls = "RobotCellHouse$Arm") (d : decode (xm_b q) pc = .ok (.putfield 126, 3)) : e_EOq eft cls elay eI q pc (0, ei_putf eft elay 5 8 0 (pc + 3), 0, 0) := e_st (I := eI) (by rw [hq]; exact er_putf (ci := 5) (k := 8) (ix := 126) (N := 12) (fk := 0) (C := RX5) (T := TX5) (ty0 := tyX5) (ty := .int) rfl in_X5 tyX5_ok nmX5 (by decide) (in_t2 (List.mem_of_getElem? (i := 110) rfl) rfl) rfl rfl x_fit_int d) nx_putf
theorem lk_0_93g {q : xM} {pc : Nat} (hq : (xm_y q).cls = "RobotCellHouse$Arm") (d : decode (xm_b q) pc = .ok (.getfield 93, 3)) : e_EOq eft cls elay eI q pc (0, ei_getf eft elay 5 9 (pc + 3), 0, 0) := e_st (I := eI) (by rw [hq]; exact er_getf (ci := 5) (k := 9) (ix := 93) (N := 12) (C := RX5) (T := TX5) rfl in_X5 (by decide) (in_t2 (List.mem_of_getElem? (i := 112) rfl) rfl) d) nx_getf
theorem lk_0_151 {q : xM} {pc : Nat} (hq : (xm_y q).cls = "RobotCellHouse$Arm") (d : decode (xm_b q) pc = .ok (.invokevirtual 151, 3)) : e_EOq eft cls elay eI q pc (2, e_nof, 15, 1) := e_ca (I := eI) (q' := n_15) rfl (by rw [hq]; exact xr_callV (q' := n_15) (ix := 151) (n := 0) (in_t8 (List.mem_of_getElem? (i := 49) rfl) rfl) good_w (in_t1 (List.mem_of_getElem? (i := 8) rfl) rfl) (in_t8 (List.mem_of_getElem? (i := 54) rfl) rfl) (in_t8 (List.mem_of_getElem? (i := 47) rfl) rfl) (in_t8 (List.mem_of_getElem? (i := 48) rfl) rfl) (by decide +kernel) (by decide +kernel) (by decide +kernel) d)
theorem lk_0_155p {q : xM} {pc : Nat} (hq : (xm_y q).cls = "RobotCellHouse$Arm") (d : decode (xm_b q) pc = .ok (.putfield 155, 3)) : e_EOq eft cls elay eI q pc (0, ei_putf eft elay 0 18 0 (pc + 3), 0, 0) := e_st (I := eI) (by rw [hq]; exact er_putf (ci := 0) (k := 18) (ix := 155) (N := 20) (fk := 0) (C := RX0) (T := TX0) (ty0 := tyX0) (ty := .int) rfl in_X0 tyX0_ok nmX0 (by decide) (in_t2 (List.mem_of_getElem? (i := 197) rfl) rfl) rfl rfl x_fit_int d) nx_putf
theorem lk_0_158 {q : xM} {pc : Nat} (hq : (xm_y q).cls = "RobotCellHouse$Arm") (d : decode (xm_b q) pc = .ok (.invokevirtual 158, 3)) : e_EOq eft cls elay eI q pc (2, e_nof, 93, 1) := e_ca (I := eI) (q' := n_93) rfl (by rw [hq]; exact xr_callV (q' := n_93) (ix := 158) (n := 0) (in_t8 (List.mem_of_getElem? (i := 67) rfl) rfl) good_w (in_t1 (List.mem_of_getElem? (i := 9) rfl) rfl) (in_t8 (List.mem_of_getElem? (i := 64) rfl) rfl) (in_t8 (List.mem_of_getElem? (i := 65) rfl) rfl) (in_t8 (List.mem_of_getElem? (i := 66) rfl) rfl) (by decide +kernel) (by decide +kernel) (by decide +kernel) d)
theorem lk_0_167 {q : xM} {pc : Nat} (hq : (xm_y q).cls = "RobotCellHouse$Arm") (d : decode (xm_b q) pc = .ok (.invokevirtual 167, 3)) : e_EOq eft cls elay eI q pc (2, e_nof, 94, 2) := e_ca (I := eI) (q' := n_94) rfl (by rw [hq]; exact xr_callV (q' := n_94) (ix := 167) (n := 1) (in_t8 (List.mem_of_getElem? (i := 78) rfl) rfl) good_w (in_t1 (List.mem_of_getElem? (i := 9) rfl) rfl) (in_t8 (List.mem_of_getElem? (i := 75) rfl) rfl) (in_t8 (List.mem_of_getElem? (i := 76) rfl) rfl) (in_t8 (List.mem_of_getElem? (i := 77) rfl) rfl) (by decide +kernel) (by decide +kernel) (by decide +kernel) d)
theorem lk_1_18p {q : xM} {pc : Nat} (hq : (xm_y q).cls = "RobotCellHouse$Code") (d : decode (xm_b q) pc = .ok (.putfield 18, 3)) : e_EOq eft cls elay eI q pc (0, ei_putf eft elay 1 0 0 (pc + 3), 0, 0) := e_st (I := eI) (by rw [hq]; exact er_putf (ci := 1) (k := 0) (ix := 18) (N := 5) (fk := 0) (C := RX1) (T := TX1) (ty0 := tyX1) (ty := .int) rfl in_X1 tyX1_ok nmX1 (by decide) (in_t1 (List.mem_of_getElem? (i := 41) rfl) rfl) rfl rfl x_fit_int d) nx_putf
theorem lk_1_22p {q : xM} {pc : Nat} (hq : (xm_y q).cls = "RobotCellHouse$Code") (d : decode (xm_b q) pc = .ok (.putfield 22, 3)) : e_EOq eft cls elay eI q pc (0, ei_putf eft elay 1 1 0 (pc + 3), 0, 0) := e_st (I := eI) (by rw [hq]; exact er_putf (ci := 1) (k := 1) (ix := 22) (N := 5) (fk := 0) (C := RX1) (T := TX1) (ty0 := tyX1) (ty := .int) rfl in_X1 tyX1_ok nmX1 (by decide) (in_t1 (List.mem_of_getElem? (i := 43) rfl) rfl) rfl rfl x_fit_int d) nx_putf
theorem lk_1_25p {q : xM} {pc : Nat} (hq : (xm_y q).cls = "RobotCellHouse$Code") (d : decode (xm_b q) pc = .ok (.putfield 25, 3)) : e_EOq eft cls elay eI q pc (0, ei_putf eft elay 1 2 0 (pc + 3), 0, 0) := e_st (I := eI) (by rw [hq]; exact er_putf (ci := 1) (k := 2) (ix := 25) (N := 5) (fk := 0) (C := RX1) (T := TX1) (ty0 := tyX1) (ty := .int) rfl in_X1 tyX1_ok nmX1 (by decide) (in_t1 (List.mem_of_getElem? (i := 46) rfl) rfl) rfl rfl x_fit_int d) nx_putf
theorem lk_1_18g {q : xM} {pc : Nat} (hq : (xm_y q).cls = "RobotCellHouse$Code") (d : decode (xm_b q) pc = .ok (.getfield 18, 3)) : e_EOq eft cls elay eI q pc (0, ei_getf eft elay 1 0 (pc + 3), 0, 0) := e_st (I := eI) (by rw [hq]; exact er_getf (ci := 1) (k := 0) (ix := 18) (N := 5) (C := RX1) (T := TX1) rfl in_X1 (by decide) (in_t1 (List.mem_of_getElem? (i := 41) rfl) rfl) d) nx_getf
theorem lk_1_15g {q : xM} {pc : Nat} (hq : (xm_y q).cls = "RobotCellHouse$Code") (d : decode (xm_b q) pc = .ok (.getfield 15, 3)) : e_EOq eft cls elay eI q pc (0, ei_getf eft elay 1 4 (pc + 3), 0, 0) := e_st (I := eI) (by rw [hq]; exact er_getf (ci := 1) (k := 4) (ix := 15) (N := 5) (C := RX1) (T := TX1) rfl in_X1 (by decide) (in_t1 (List.mem_of_getElem? (i := 52) rfl) rfl) d) nx_getf
theorem lk_2_34p {q : xM} {pc : Nat} (hq : (xm_y q).cls = "RobotCellHouse$Core") (d : decode (xm_b q) pc = .ok (.putfield 34, 3)) : e_EOq eft cls elay eI q pc (0, ei_putf eft elay 2 2 0 (pc + 3), 0, 0) := e_st (I := eI) (by rw [hq]; exact er_putf (ci := 2) (k := 2) (ix := 34) (N := 15) (fk := 0) (C := RX2) (T := TX2) (ty0 := tyX2) (ty := .int) rfl in_X2 tyX2_ok nmX2 (by decide) (in_t2 (List.mem_of_getElem? (i := 17) rfl) rfl) rfl rfl x_fit_int d) nx_putf
theorem lk_2_18g {q : xM} {pc : Nat} (hq : (xm_y q).cls = "RobotCellHouse$Core") (d : decode (xm_b q) pc = .ok (.getfield 18, 3)) : e_EOq eft cls elay eI q pc (0, ei_getf eft elay 2 10 (pc + 3), 0, 0) := e_st (I := eI) (by rw [hq]; exact er_getf (ci := 2) (k := 10) (ix := 18) (N := 15) (C := RX2) (T := TX2) rfl in_X2 (by decide) (in_t2 (List.mem_of_getElem? (i := 35) rfl) rfl) d) nx_getf
theorem lk_2_38p {q : xM} {pc : Nat} (hq : (xm_y q).cls = "RobotCellHouse$Core") (d : decode (xm_b q) pc = .ok (.putfield 38, 3)) : e_EOq eft cls elay eI q pc (0, ei_putf eft elay 2 0 0 (pc + 3), 0, 0) := e_st (I := eI) (by rw [hq]; exact er_putf (ci := 2) (k := 0) (ix := 38) (N := 15) (fk := 0) (C := RX2) (T := TX2) (ty0 := tyX2) (ty := .int) rfl in_X2 tyX2_ok nmX2 (by decide) (in_t2 (List.mem_of_getElem? (i := 12) rfl) rfl) rfl rfl x_fit_int d) nx_putf
theorem lk_2_41p {q : xM} {pc : Nat} (hq : (xm_y q).cls = "RobotCellHouse$Core") (d : decode (xm_b q) pc = .ok (.putfield 41, 3)) : e_EOq eft cls elay eI q pc (0, ei_putf eft elay 2 1 0 (pc + 3), 0, 0) := e_st (I := eI) (by rw [hq]; exact er_putf (ci := 2) (k := 1) (ix := 41) (N := 15) (fk := 0) (C := RX2) (T := TX2) (ty0 := tyX2) (ty := .int) rfl in_X2 tyX2_ok nmX2 (by decide) (in_t2 (List.mem_of_getElem? (i := 15) rfl) rfl) rfl rfl x_fit_int d) nx_putf
theorem lk_2_44p {q : xM} {pc : Nat} (hq : (xm_y q).cls = "RobotCellHouse$Core") (d : decode (xm_b q) pc = .ok (.putfield 44, 3)) : e_EOq eft cls elay eI q pc (0, ei_putf eft elay 2 3 1 (pc + 3), 0, 0) := e_st (I := eI) (by rw [hq]; exact er_putf (ci := 2) (k := 3) (ix := 44) (N := 15) (fk := 1) (C := RX2) (T := TX2) (ty0 := tyX2) (ty := .boolean) rfl in_X2 tyX2_ok nmX2 (by decide) (in_t2 (List.mem_of_getElem? (i := 19) rfl) rfl) rfl rfl x_fit_bool d) nx_putf
theorem lk_2_48p {q : xM} {pc : Nat} (hq : (xm_y q).cls = "RobotCellHouse$Core") (d : decode (xm_b q) pc = .ok (.putfield 48, 3)) : e_EOq eft cls elay eI q pc (0, ei_putf eft elay 2 4 0 (pc + 3), 0, 0) := e_st (I := eI) (by rw [hq]; exact er_putf (ci := 2) (k := 4) (ix := 48) (N := 15) (fk := 0) (C := RX2) (T := TX2) (ty0 := tyX2) (ty := .int) rfl in_X2 tyX2_ok nmX2 (by decide) (in_t2 (List.mem_of_getElem? (i := 22) rfl) rfl) rfl rfl x_fit_int d) nx_putf
theorem lk_2_51p {q : xM} {pc : Nat} (hq : (xm_y q).cls = "RobotCellHouse$Core") (d : decode (xm_b q) pc = .ok (.putfield 51, 3)) : e_EOq eft cls elay eI q pc (0, ei_putf eft elay 2 5 0 (pc + 3), 0, 0) := e_st (I := eI) (by rw [hq]; exact er_putf (ci := 2) (k := 5) (ix := 51) (N := 15) (fk := 0) (C := RX2) (T := TX2) (ty0 := tyX2) (ty := .int) rfl in_X2 tyX2_ok nmX2 (by decide) (in_t2 (List.mem_of_getElem? (i := 24) rfl) rfl) rfl rfl x_fit_int d) nx_putf
theorem lk_2_54p {q : xM} {pc : Nat} (hq : (xm_y q).cls = "RobotCellHouse$Core") (d : decode (xm_b q) pc = .ok (.putfield 54, 3)) : e_EOq eft cls elay eI q pc (0, ei_putf eft elay 2 6 0 (pc + 3), 0, 0) := e_st (I := eI) (by rw [hq]; exact er_putf (ci := 2) (k := 6) (ix := 54) (N := 15) (fk := 0) (C := RX2) (T := TX2) (ty0 := tyX2) (ty := .int) rfl in_X2 tyX2_ok nmX2 (by decide) (in_t2 (List.mem_of_getElem? (i := 26) rfl) rfl) rfl rfl x_fit_int d) nx_putf
theorem lk_2_57p {q : xM} {pc : Nat} (hq : (xm_y q).cls = "RobotCellHouse$Core") (d : decode (xm_b q) pc = .ok (.putfield 57, 3)) : e_EOq eft cls elay eI q pc (0, ei_putf eft elay 2 7 1 (pc + 3), 0, 0) := e_st (I := eI) (by rw [hq]; exact er_putf (ci := 2) (k := 7) (ix := 57) (N := 15) (fk := 1) (C := RX2) (T := TX2) (ty0 := tyX2) (ty := .boolean) rfl in_X2 tyX2_ok nmX2 (by decide) (in_t2 (List.mem_of_getElem? (i := 28) rfl) rfl) rfl rfl x_fit_bool d) nx_putf
theorem lk_2_22g {q : xM} {pc : Nat} (hq : (xm_y q).cls = "RobotCellHouse$Core") (d : decode (xm_b q) pc = .ok (.getfield 22, 3)) : e_EOq eft cls elay eI q pc (0, ei_getf eft elay 2 11 (pc + 3), 0, 0) := e_st (I := eI) (by rw [hq]; exact er_getf (ci := 2) (k := 11) (ix := 22) (N := 15) (C := RX2) (T := TX2) rfl in_X2 (by decide) (in_t2 (List.mem_of_getElem? (i := 37) rfl) rfl) d) nx_getf
theorem lk_2_25g {q : xM} {pc : Nat} (hq : (xm_y q).cls = "RobotCellHouse$Core") (d : decode (xm_b q) pc = .ok (.getfield 25, 3)) : e_EOq eft cls elay eI q pc (0, ei_getf eft elay 2 12 (pc + 3), 0, 0) := e_st (I := eI) (by rw [hq]; exact er_getf (ci := 2) (k := 12) (ix := 25) (N := 15) (C := RX2) (T := TX2) rfl in_X2 (by decide) (in_t2 (List.mem_of_getElem? (i := 38) rfl) rfl) d) nx_getf
theorem lk_2_28g {q : xM} {pc : Nat} (hq : (xm_y q).cls = "RobotCellHouse$Core") (d : decode (xm_b q) pc = .ok (.getfield 28, 3)) : e_EOq eft cls elay eI q pc (0, ei_getf eft elay 2 13 (pc + 3), 0, 0) := e_st (I := eI) (by rw [hq]; exact er_getf (ci := 2) (k := 13) (ix := 28) (N := 15) (C := RX2) (T := TX2) rfl in_X2 (by decide) (in_t2 (List.mem_of_getElem? (i := 39) rfl) rfl) d) nx_getf
theorem lk_2_31g {q : xM} {pc : Nat} (hq : (xm_y q).cls = "RobotCellHouse$Core") (d : decode (xm_b q) pc = .ok (.getfield 31, 3)) : e_EOq eft cls elay eI q pc (0, ei_getf eft elay 2 14 (pc + 3), 0, 0) := e_st (I := eI) (by rw [hq]; exact er_getf (ci := 2) (k := 14) (ix := 31) (N := 15) (C := RX2) (T := TX2) rfl in_X2 (by decide) (in_t2 (List.mem_of_getElem? (i := 40) rfl) rfl) d) nx_getf
theorem lk_2_41g {q : xM} {pc : Nat} (hq : (xm_y q).cls = "RobotCellHouse$Core") (d : decode (xm_b q) pc = .ok (.getfield 41, 3)) : e_EOq eft cls elay eI q pc (0, ei_getf eft elay 2 1 (pc + 3), 0, 0) := e_st (I := eI) (by rw [hq]; exact er_getf (ci := 2) (k := 1) (ix := 41) (N := 15) (C := RX2) (T := TX2) rfl in_X2 (by decide) (in_t2 (List.mem_of_getElem? (i := 15) rfl) rfl) d) nx_getf
theorem lk_2_11g {q : xM} {pc : Nat} (hq : (xm_y q).cls = "RobotCellHouse$Core") (d : decode (xm_b q) pc = .ok (.getfield 11, 3)) : e_EOq eft cls elay eI q pc (0, ei_getf eft elay 2 8 (pc + 3), 0, 0) := e_st (I := eI) (by rw [hq]; exact er_getf (ci := 2) (k := 8) (ix := 11) (N := 15) (C := RX2) (T := TX2) rfl in_X2 (by decide) (in_t2 (List.mem_of_getElem? (i := 31) rfl) rfl) d) nx_getf
theorem lk_2_38g {q : xM} {pc : Nat} (hq : (xm_y q).cls = "RobotCellHouse$Core") (d : decode (xm_b q) pc = .ok (.getfield 38, 3)) : e_EOq eft cls elay eI q pc (0, ei_getf eft elay 2 0 (pc + 3), 0, 0) := e_st (I := eI) (by rw [hq]; exact er_getf (ci := 2) (k := 0) (ix := 38) (N := 15) (C := RX2) (T := TX2) rfl in_X2 (by decide) (in_t2 (List.mem_of_getElem? (i := 12) rfl) rfl) d) nx_getf
theorem lk_2_60 {q : xM} {pc : Nat} (hq : (xm_y q).cls = "RobotCellHouse$Core") (d : decode (xm_b q) pc = .ok (.invokevirtual 60, 3)) : e_EOq eft cls elay eI q pc (2, e_nof, 29, 2) := e_ca (I := eI) (q' := n_29) rfl (by rw [hq]; exact xr_callV (q' := n_29) (ix := 60) (n := 1) (in_t7 (List.mem_of_getElem? (i := 58) rfl) rfl) good_w (in_t1 (List.mem_of_getElem? (i := 7) rfl) rfl) (in_t7 (List.mem_of_getElem? (i := 55) rfl) rfl) (in_t7 (List.mem_of_getElem? (i := 57) rfl) rfl) (in_s5 (List.mem_of_getElem? (i := 0) rfl)) (by decide +kernel) (by decide +kernel) (by decide +kernel) d)
theorem lk_2_34g {q : xM} {pc : Nat} (hq : (xm_y q).cls = "RobotCellHouse$Core") (d : decode (xm_b q) pc = .ok (.getfield 34, 3)) : e_EOq eft cls elay eI q pc (0, ei_getf eft elay 2 2 (pc + 3), 0, 0) := e_st (I := eI) (by rw [hq]; exact er_getf (ci := 2) (k := 2) (ix := 34) (N := 15) (C := RX2) (T := TX2) rfl in_X2 (by decide) (in_t2 (List.mem_of_getElem? (i := 17) rfl) rfl) d) nx_getf
theorem lk_2_15g {q : xM} {pc : Nat} (hq : (xm_y q).cls = "RobotCellHouse$Core") (d : decode (xm_b q) pc = .ok (.getfield 15, 3)) : e_EOq eft cls elay eI q pc (0, ei_getf eft elay 2 9 (pc + 3), 0, 0) := e_st (I := eI) (by rw [hq]; exact er_getf (ci := 2) (k := 9) (ix := 15) (N := 15) (C := RX2) (T := TX2) rfl in_X2 (by decide) (in_t2 (List.mem_of_getElem? (i := 33) rfl) rfl) d) nx_getf
theorem lk_2_64 {q : xM} {pc : Nat} (hq : (xm_y q).cls = "RobotCellHouse$Core") (d : decode (xm_b q) pc = .ok (.invokevirtual 64, 3)) : e_EOq eft cls elay eI q pc (2, e_nof, 27, 4) := e_ca (I := eI) (q' := n_27) rfl (by rw [hq]; exact xr_callV (q' := n_27) (ix := 64) (n := 3) (in_t6 (List.mem_of_getElem? (i := 220) rfl) rfl) good_w (in_t1 (List.mem_of_getElem? (i := 7) rfl) rfl) (in_t6 (List.mem_of_getElem? (i := 217) rfl) rfl) (in_t6 (List.mem_of_getElem? (i := 218) rfl) rfl) (in_t6 (List.mem_of_getElem? (i := 219) rfl) rfl) (by decide +kernel) (by decide +kernel) (by decide +kernel) d)
theorem lk_3_40g {q : xM} {pc : Nat} (hq : (xm_y q).cls = "RobotCellHouse$Doer") (d : decode (xm_b q) pc = .ok (.getfield 40, 3)) : e_EOq eft cls elay eI q pc (0, ei_getf eft elay 3 4 (pc + 3), 0, 0) := e_st (I := eI) (by rw [hq]; exact er_getf (ci := 3) (k := 4) (ix := 40) (N := 12) (C := RX3) (T := TX3) rfl in_X3 (by decide) (in_t3 (List.mem_of_getElem? (i := 96) rfl) rfl) d) nx_getf
theorem lk_3_58 {q : xM} {pc : Nat} (hq : (xm_y q).cls = "RobotCellHouse$Doer") (d : decode (xm_b q) pc = .ok (.invokevirtual 58, 3)) : e_EOq eft cls elay eI q pc (2, e_nof, 179, 1) := e_ca (I := eI) (q' := n_179) rfl (by rw [hq]; exact xr_callV (q' := n_179) (ix := 58) (n := 0) (in_t4 (List.mem_of_getElem? (i := 98) rfl) rfl) good_w (in_t1 (List.mem_of_getElem? (i := 10) rfl) rfl) (in_t4 (List.mem_of_getElem? (i := 95) rfl) rfl) (in_t4 (List.mem_of_getElem? (i := 96) rfl) rfl) (in_t4 (List.mem_of_getElem? (i := 97) rfl) rfl) (by decide +kernel) (by decide +kernel) (by decide +kernel) d)
theorem lk_3_44g {q : xM} {pc : Nat} (hq : (xm_y q).cls = "RobotCellHouse$Doer") (d : decode (xm_b q) pc = .ok (.getfield 44, 3)) : e_EOq eft cls elay eI q pc (0, ei_getf eft elay 3 5 (pc + 3), 0, 0) := e_st (I := eI) (by rw [hq]; exact er_getf (ci := 3) (k := 5) (ix := 44) (N := 12) (C := RX3) (T := TX3) rfl in_X3 (by decide) (in_t3 (List.mem_of_getElem? (i := 98) rfl) rfl) d) nx_getf
theorem lk_3_61 {q : xM} {pc : Nat} (hq : (xm_y q).cls = "RobotCellHouse$Doer") (d : decode (xm_b q) pc = .ok (.invokestatic 61, 3)) : e_EOq eft cls elay eI q pc (2, e_nof, 452, 2) := e_ca (I := eI) (q' := n_452) rfl (by rw [hq]; exact xr_callS (q' := n_452) (ix := 61) (n := 2) (in_t4 (List.mem_of_getElem? (i := 9) rfl) rfl) good_w (in_t1 (List.mem_of_getElem? (i := 13) rfl) rfl) (in_t4 (List.mem_of_getElem? (i := 107) rfl) rfl) (in_t4 (List.mem_of_getElem? (i := 8) rfl) rfl) (by decide +kernel) (by decide +kernel) d)
theorem lk_3_67p {q : xM} {pc : Nat} (hq : (xm_y q).cls = "RobotCellHouse$Doer") (d : decode (xm_b q) pc = .ok (.putfield 67, 3)) : e_EOq eft cls elay eI q pc (0, ei_putf eft elay 3 9 0 (pc + 3), 0, 0) := e_st (I := eI) (by rw [hq]; exact er_putf (ci := 3) (k := 9) (ix := 67) (N := 12) (fk := 0) (C := RX3) (T := TX3) (ty0 := tyX3) (ty := .int) rfl in_X3 tyX3_ok nmX3 (by decide) (in_t3 (List.mem_of_getElem? (i := 103) rfl) rfl) rfl rfl x_fit_int d) nx_putf
theorem lk_3_71g {q : xM} {pc : Nat} (hq : (xm_y q).cls = "RobotCellHouse$Doer") (d : decode (xm_b q) pc = .ok (.getfield 71, 3)) : e_EOq eft cls elay eI q pc (0, ei_getf eft elay 10 1 (pc + 3), 0, 0) := e_st (I := eI) (by rw [hq]; exact er_getf (ci := 10) (k := 1) (ix := 71) (N := 21) (C := RX10) (T := TX10) rfl in_X10 (by decide) (in_t3 (List.mem_of_getElem? (i := 12) rfl) rfl) d) nx_getf
theorem lk_3_74 {q : xM} {pc : Nat} (hq : (xm_y q).cls = "RobotCellHouse$Doer") (d : decode (xm_b q) pc = .ok (.invokevirtual 74, 3)) : e_EOq eft cls elay eI q pc (2, e_nof, 36, 1) := e_ca (I := eI) (q' := n_36) rfl (by rw [hq]; exact xr_callV (q' := n_36) (ix := 74) (n := 0) (in_t6 (List.mem_of_getElem? (i := 178) rfl) rfl) good_w (in_t1 (List.mem_of_getElem? (i := 4) rfl) rfl) (in_t6 (List.mem_of_getElem? (i := 199) rfl) rfl) (in_t6 (List.mem_of_getElem? (i := 176) rfl) rfl) (in_t6 (List.mem_of_getElem? (i := 177) rfl) rfl) (by decide +kernel) (by decide +kernel) (by decide +kernel) d)
theorem lk_3_11g {q : xM} {pc : Nat} (hq : (xm_y q).cls = "RobotCellHouse$Doer") (d : decode (xm_b q) pc = .ok (.getfield 11, 3)) : e_EOq eft cls elay eI q pc (0, ei_getf eft elay 3 0 (pc + 3), 0, 0) := e_st (I := eI) (by rw [hq]; exact er_getf (ci := 3) (k := 0) (ix := 11) (N := 12) (C := RX3) (T := TX3) rfl in_X3 (by decide) (in_t3 (List.mem_of_getElem? (i := 88) rfl) rfl) d) nx_getf
theorem lk_3_78g {q : xM} {pc : Nat} (hq : (xm_y q).cls = "RobotCellHouse$Doer") (d : decode (xm_b q) pc = .ok (.getfield 78, 3)) : e_EOq eft cls elay eI q pc (0, ei_getf eft elay 0 7 (pc + 3), 0, 0) := e_st (I := eI) (by rw [hq]; exact er_getf (ci := 0) (k := 7) (ix := 78) (N := 20) (C := RX0) (T := TX0) rfl in_X0 (by decide) (in_t2 (List.mem_of_getElem? (i := 166) rfl) rfl) d) nx_getf
theorem lk_3_82g {q : xM} {pc : Nat} (hq : (xm_y q).cls = "RobotCellHouse$Doer") (d : decode (xm_b q) pc = .ok (.getfield 82, 3)) : e_EOq eft cls elay eI q pc (0, ei_getf eft elay 1 3 (pc + 3), 0, 0) := e_st (I := eI) (by rw [hq]; exact er_getf (ci := 1) (k := 3) (ix := 82) (N := 5) (C := RX1) (T := TX1) rfl in_X1 (by decide) (in_t1 (List.mem_of_getElem? (i := 50) rfl) rfl) d) nx_getf
theorem lk_3_34g {q : xM} {pc : Nat} (hq : (xm_y q).cls = "RobotCellHouse$Doer") (d : decode (xm_b q) pc = .ok (.getfield 34, 3)) : e_EOq eft cls elay eI q pc (0, ei_getf eft elay 3 3 (pc + 3), 0, 0) := e_st (I := eI) (by rw [hq]; exact er_getf (ci := 3) (k := 3) (ix := 34) (N := 12) (C := RX3) (T := TX3) rfl in_X3 (by decide) (in_t3 (List.mem_of_getElem? (i := 94) rfl) rfl) d) nx_getf
theorem lk_3_87g {q : xM} {pc : Nat} (hq : (xm_y q).cls = "RobotCellHouse$Doer") (d : decode (xm_b q) pc = .ok (.getfield 87, 3)) : e_EOq eft cls elay eI q pc (0, ei_getf eft elay 2 0 (pc + 3), 0, 0) := e_st (I := eI) (by rw [hq]; exact er_getf (ci := 2) (k := 0) (ix := 87) (N := 15) (C := RX2) (T := TX2) rfl in_X2 (by decide) (in_t2 (List.mem_of_getElem? (i := 14) rfl) rfl) d) nx_getf
theorem lk_3_90 {q : xM} {pc : Nat} (hq : (xm_y q).cls = "RobotCellHouse$Doer") (d : decode (xm_b q) pc = .ok (.invokevirtual 90, 3)) : e_EOq eft cls elay eI q pc (2, e_nof, 180, 4) := e_ca (I := eI) (q' := n_180) rfl (by rw [hq]; exact xr_callV (q' := n_180) (ix := 90) (n := 3) (in_t4 (List.mem_of_getElem? (i := 102) rfl) rfl) good_w (in_t1 (List.mem_of_getElem? (i := 10) rfl) rfl) (in_t6 (List.mem_of_getElem? (i := 200) rfl) rfl) (in_t4 (List.mem_of_getElem? (i := 100) rfl) rfl) (in_t4 (List.mem_of_getElem? (i := 101) rfl) rfl) (by decide +kernel) (by decide +kernel) (by decide +kernel) d)
theorem lk_3_94g {q : xM} {pc : Nat} (hq : (xm_y q).cls = "RobotCellHouse$Doer") (d : decode (xm_b q) pc = .ok (.getfield 94, 3)) : e_EOq eft cls elay eI q pc (0, ei_getf eft elay 0 16 (pc + 3), 0, 0) := e_st (I := eI) (by rw [hq]; exact er_getf (ci := 0) (k := 16) (ix := 94) (N := 20) (C := RX0) (T := TX0) rfl in_X0 (by decide) (in_t2 (List.mem_of_getElem? (i := 190) rfl) rfl) d) nx_getf
theorem lk_3_71p {q : xM} {pc : Nat} (hq : (xm_y q).cls = "RobotCellHouse$Doer") (d : decode (xm_b q) pc = .ok (.putfield 71, 3)) : e_EOq eft cls elay eI q pc (0, ei_putf eft elay 10 1 0 (pc + 3), 0, 0) := e_st (I := eI) (by rw [hq]; exact er_putf (ci := 10) (k := 1) (ix := 71) (N := 21) (fk := 0) (C := RX10) (T := TX10) (ty0 := tyX10) (ty := .int) rfl in_X10 tyX10_ok nmX10 (by decide) (in_t3 (List.mem_of_getElem? (i := 12) rfl) rfl) rfl rfl x_fit_int d) nx_putf
theorem lk_3_94p {q : xM} {pc : Nat} (hq : (xm_y q).cls = "RobotCellHouse$Doer") (d : decode (xm_b q) pc = .ok (.putfield 94, 3)) : e_EOq eft cls elay eI q pc (0, ei_putf eft elay 0 16 0 (pc + 3), 0, 0) := e_st (I := eI) (by rw [hq]; exact er_putf (ci := 0) (k := 16) (ix := 94) (N := 20) (fk := 0) (C := RX0) (T := TX0) (ty0 := tyX0) (ty := .int) rfl in_X0 tyX0_ok nmX0 (by decide) (in_t2 (List.mem_of_getElem? (i := 190) rfl) rfl) rfl rfl x_fit_int d) nx_putf
theorem lk_3_97g {q : xM} {pc : Nat} (hq : (xm_y q).cls = "RobotCellHouse$Doer") (d : decode (xm_b q) pc = .ok (.getfield 97, 3)) : e_EOq eft cls elay eI q pc (0, ei_getf eft elay 0 19 (pc + 3), 0, 0) := e_st (I := eI) (by rw [hq]; exact er_getf (ci := 0) (k := 19) (ix := 97) (N := 20) (C := RX0) (T := TX0) rfl in_X0 (by decide) (in_t2 (List.mem_of_getElem? (i := 201) rfl) rfl) d) nx_getf
theorem lk_3_97p {q : xM} {pc : Nat} (hq : (xm_y q).cls = "RobotCellHouse$Doer") (d : decode (xm_b q) pc = .ok (.putfield 97, 3)) : e_EOq eft cls elay eI q pc (0, ei_putf eft elay 0 19 0 (pc + 3), 0, 0) := e_st (I := eI) (by rw [hq]; exact er_putf (ci := 0) (k := 19) (ix := 97) (N := 20) (fk := 0) (C := RX0) (T := TX0) (ty0 := tyX0) (ty := .int) rfl in_X0 tyX0_ok nmX0 (by decide) (in_t2 (List.mem_of_getElem? (i := 201) rfl) rfl) rfl rfl x_fit_int d) nx_putf
theorem lk_3_100p {q : xM} {pc : Nat} (hq : (xm_y q).cls = "RobotCellHouse$Doer") (d : decode (xm_b q) pc = .ok (.putfield 100, 3)) : e_EOq eft cls elay eI q pc (0, ei_putf eft elay 2 7 1 (pc + 3), 0, 0) := e_st (I := eI) (by rw [hq]; exact er_putf (ci := 2) (k := 7) (ix := 100) (N := 15) (fk := 1) (C := RX2) (T := TX2) (ty0 := tyX2) (ty := .boolean) rfl in_X2 tyX2_ok nmX2 (by decide) (in_t2 (List.mem_of_getElem? (i := 29) rfl) rfl) rfl rfl x_fit_bool d) nx_putf
theorem lk_3_104g {q : xM} {pc : Nat} (hq : (xm_y q).cls = "RobotCellHouse$Doer") (d : decode (xm_b q) pc = .ok (.getfield 104, 3)) : e_EOq eft cls elay eI q pc (0, ei_getf eft elay 0 11 (pc + 3), 0, 0) := e_st (I := eI) (by rw [hq]; exact er_getf (ci := 0) (k := 11) (ix := 104) (N := 20) (C := RX0) (T := TX0) rfl in_X0 (by decide) (in_t2 (List.mem_of_getElem? (i := 176) rfl) rfl) d) nx_getf
theorem lk_3_105 {q : xM} {pc : Nat} (hq : (xm_y q).cls = "RobotCellHouse$Doer") (d : decode (xm_b q) pc = .ok (.invokevirtual 105, 3)) : e_EOq eft cls elay eI q pc (2, e_nof, 41, 2) := e_ca (I := eI) (q' := n_41) rfl (by rw [hq]; exact xr_callV (q' := n_41) (ix := 105) (n := 1) (in_t6 (List.mem_of_getElem? (i := 236) rfl) rfl) good_w (in_t1 (List.mem_of_getElem? (i := 4) rfl) rfl) (in_t7 (List.mem_of_getElem? (i := 3) rfl) rfl) (in_t6 (List.mem_of_getElem? (i := 234) rfl) rfl) (in_t6 (List.mem_of_getElem? (i := 235) rfl) rfl) (by decide +kernel) (by decide +kernel) (by decide +kernel) d)
theorem lk_3_104p {q : xM} {pc : Nat} (hq : (xm_y q).cls = "RobotCellHouse$Doer") (d : decode (xm_b q) pc = .ok (.putfield 104, 3)) : e_EOq eft cls elay eI q pc (0, ei_putf eft elay 0 11 0 (pc + 3), 0, 0) := e_st (I := eI) (by rw [hq]; exact er_putf (ci := 0) (k := 11) (ix := 104) (N := 20) (fk := 0) (C := RX0) (T := TX0) (ty0 := tyX0) (ty := .int) rfl in_X0 tyX0_ok nmX0 (by decide) (in_t2 (List.mem_of_getElem? (i := 176) rfl) rfl) rfl rfl x_fit_int d) nx_putf
theorem lk_3_108 {q : xM} {pc : Nat} (hq : (xm_y q).cls = "RobotCellHouse$Doer") (d : decode (xm_b q) pc = .ok (.invokevirtual 108, 3)) : e_EOq eft cls elay eI q pc (2, e_nof, 27, 4) := e_ca (I := eI) (q' := n_27) rfl (by rw [hq]; exact xr_callV (q' := n_27) (ix := 108) (n := 3) (in_t6 (List.mem_of_getElem? (i := 220) rfl) rfl) good_w (in_t1 (List.mem_of_getElem? (i := 7) rfl) rfl) (in_t6 (List.mem_of_getElem? (i := 237) rfl) rfl) (in_t6 (List.mem_of_getElem? (i := 218) rfl) rfl) (in_t6 (List.mem_of_getElem? (i := 219) rfl) rfl) (by decide +kernel) (by decide +kernel) (by decide +kernel) d)
theorem lk_3_111g {q : xM} {pc : Nat} (hq : (xm_y q).cls = "RobotCellHouse$Doer") (d : decode (xm_b q) pc = .ok (.getfield 111, 3)) : e_EOq eft cls elay eI q pc (0, ei_getf eft elay 0 13 (pc + 3), 0, 0) := e_st (I := eI) (by rw [hq]; exact er_getf (ci := 0) (k := 13) (ix := 111) (N := 20) (C := RX0) (T := TX0) rfl in_X0 (by decide) (in_t2 (List.mem_of_getElem? (i := 181) rfl) rfl) d) nx_getf
theorem lk_3_114p {q : xM} {pc : Nat} (hq : (xm_y q).cls = "RobotCellHouse$Doer") (d : decode (xm_b q) pc = .ok (.putfield 114, 3)) : e_EOq eft cls elay eI q pc (0, ei_putf eft elay 10 10 1 (pc + 3), 0, 0) := e_st (I := eI) (by rw [hq]; exact er_putf (ci := 10) (k := 10) (ix := 114) (N := 21) (fk := 1) (C := RX10) (T := TX10) (ty0 := tyX10) (ty := .boolean) rfl in_X10 tyX10_ok nmX10 (by decide) (in_t3 (List.mem_of_getElem? (i := 32) rfl) rfl) rfl rfl x_fit_bool d) nx_putf
theorem lk_3_111p {q : xM} {pc : Nat} (hq : (xm_y q).cls = "RobotCellHouse$Doer") (d : decode (xm_b q) pc = .ok (.putfield 111, 3)) : e_EOq eft cls elay eI q pc (0, ei_putf eft elay 0 13 0 (pc + 3), 0, 0) := e_st (I := eI) (by rw [hq]; exact er_putf (ci := 0) (k := 13) (ix := 111) (N := 20) (fk := 0) (C := RX0) (T := TX0) (ty0 := tyX0) (ty := .int) rfl in_X0 tyX0_ok nmX0 (by decide) (in_t2 (List.mem_of_getElem? (i := 181) rfl) rfl) rfl rfl x_fit_int d) nx_putf
theorem lk_3_117p {q : xM} {pc : Nat} (hq : (xm_y q).cls = "RobotCellHouse$Doer") (d : decode (xm_b q) pc = .ok (.putfield 117, 3)) : e_EOq eft cls elay eI q pc (0, ei_putf eft elay 0 18 0 (pc + 3), 0, 0) := e_st (I := eI) (by rw [hq]; exact er_putf (ci := 0) (k := 18) (ix := 117) (N := 20) (fk := 0) (C := RX0) (T := TX0) (ty0 := tyX0) (ty := .int) rfl in_X0 tyX0_ok nmX0 (by decide) (in_t2 (List.mem_of_getElem? (i := 195) rfl) rfl) rfl rfl x_fit_int d) nx_putf
theorem lk_3_120 {q : xM} {pc : Nat} (hq : (xm_y q).cls = "RobotCellHouse$Doer") (d : decode (xm_b q) pc = .ok (.invokestatic 120, 3)) : e_EOq eft cls elay eI q pc (2, e_nof, 242, 3) := e_ca (I := eI) (q' := n_242) rfl (by rw [hq]; exact xr_callSN (q' := n_242) (ix := 120) (n := 3) (host := "RobotCellHouse") (in_t4 (List.mem_of_getElem? (i := 168) rfl) rfl) good_w (in_t1 (List.mem_of_getElem? (i := 1) rfl) rfl) (List.mem_of_getElem? (i := 13) rfl) (in_t4 (List.mem_of_getElem? (i := 167) rfl) rfl) (by decide +kernel) (by decide +kernel) d)
theorem lk_3_124g {q : xM} {pc : Nat} (hq : (xm_y q).cls = "RobotCellHouse$Doer") (d : decode (xm_b q) pc = .ok (.getfield 124, 3)) : e_EOq eft cls elay eI q pc (0, ei_getf eft elay 10 7 (pc + 3), 0, 0) := e_st (I := eI) (by rw [hq]; exact er_getf (ci := 10) (k := 7) (ix := 124) (N := 21) (C := RX10) (T := TX10) rfl in_X10 (by decide) (in_t3 (List.mem_of_getElem? (i := 28) rfl) rfl) d) nx_getf
theorem lk_3_127g {q : xM} {pc : Nat} (hq : (xm_y q).cls = "RobotCellHouse$Doer") (d : decode (xm_b q) pc = .ok (.getfield 127, 3)) : e_EOq eft cls elay eI q pc (0, ei_getf eft elay 10 2 (pc + 3), 0, 0) := e_st (I := eI) (by rw [hq]; exact er_getf (ci := 10) (k := 2) (ix := 127) (N := 21) (C := RX10) (T := TX10) rfl in_X10 (by decide) (in_t3 (List.mem_of_getElem? (i := 15) rfl) rfl) d) nx_getf
theorem lk_3_130p {q : xM} {pc : Nat} (hq : (xm_y q).cls = "RobotCellHouse$Doer") (d : decode (xm_b q) pc = .ok (.putfield 130, 3)) : e_EOq eft cls elay eI q pc (0, ei_putf eft elay 3 11 1 (pc + 3), 0, 0) := e_st (I := eI) (by rw [hq]; exact er_putf (ci := 3) (k := 11) (ix := 130) (N := 12) (fk := 1) (C := RX3) (T := TX3) (ty0 := tyX3) (ty := .boolean) rfl in_X3 tyX3_ok nmX3 (by decide) (in_t3 (List.mem_of_getElem? (i := 105) rfl) rfl) rfl rfl x_fit_bool d) nx_putf
theorem lk_3_133p {q : xM} {pc : Nat} (hq : (xm_y q).cls = "RobotCellHouse$Doer") (d : decode (xm_b q) pc = .ok (.putfield 133, 3)) : e_EOq eft cls elay eI q pc (0, ei_putf eft elay 3 8 0 (pc + 3), 0, 0) := e_st (I := eI) (by rw [hq]; exact er_putf (ci := 3) (k := 8) (ix := 133) (N := 12) (fk := 0) (C := RX3) (T := TX3) (ty0 := tyX3) (ty := .int) rfl in_X3 tyX3_ok nmX3 (by decide) (in_t3 (List.mem_of_getElem? (i := 102) rfl) rfl) rfl rfl x_fit_int d) nx_putf
theorem lk_3_136 {q : xM} {pc : Nat} (hq : (xm_y q).cls = "RobotCellHouse$Doer") (d : decode (xm_b q) pc = .ok (.invokevirtual 136, 3)) : e_EOq eft cls elay eI q pc (2, e_nof, 45, 2) := e_ca (I := eI) (q' := n_45) rfl (by rw [hq]; exact xr_callV (q' := n_45) (ix := 136) (n := 1) (in_t7 (List.mem_of_getElem? (i := 71) rfl) rfl) good_w (in_t1 (List.mem_of_getElem? (i := 4) rfl) rfl) (in_t7 (List.mem_of_getElem? (i := 68) rfl) rfl) (in_t7 (List.mem_of_getElem? (i := 70) rfl) rfl) (in_s5 (List.mem_of_getElem? (i := 1) rfl)) (by decide +kernel) (by decide +kernel) (by decide +kernel) d)
theorem lk_3_141g {q : xM} {pc : Nat} (hq : (xm_y q).cls = "RobotCellHouse$Doer") (d : decode (xm_b q) pc = .ok (.getfield 141, 3)) : e_EOq eft cls elay eI q pc (0, ei_getf eft elay 10 3 (pc + 3), 0, 0) := e_st (I := eI) (by rw [hq]; exact er_getf (ci := 10) (k := 3) (ix := 141) (N := 21) (C := RX10) (T := TX10) rfl in_X10 (by decide) (in_t3 (List.mem_of_getElem? (i := 18) rfl) rfl) d) nx_getf
theorem lk_3_144 {q : xM} {pc : Nat} (hq : (xm_y q).cls = "RobotCellHouse$Doer") (d : decode (xm_b q) pc = .ok (.invokevirtual 144, 3)) : e_EOq eft cls elay eI q pc (2, e_nof, 23, 2) := e_ca (I := eI) (q' := n_23) rfl (by rw [hq]; exact xr_callV (q' := n_23) (ix := 144) (n := 1) (in_t6 (List.mem_of_getElem? (i := 154) rfl) rfl) good_w (in_t1 (List.mem_of_getElem? (i := 3) rfl) rfl) (in_t7 (List.mem_of_getElem? (i := 77) rfl) rfl) (in_t6 (List.mem_of_getElem? (i := 152) rfl) rfl) (in_t6 (List.mem_of_getElem? (i := 153) rfl) rfl) (by decide +kernel) (by decide +kernel) (by decide +kernel) d)
theorem lk_3_148 {q : xM} {pc : Nat} (hq : (xm_y q).cls = "RobotCellHouse$Doer") (d : decode (xm_b q) pc = .ok (.invokevirtual 148, 3)) : e_EOq eft cls elay eI q pc (2, e_nof, 24, 2) := e_ca (I := eI) (q' := n_24) rfl (by rw [hq]; exact xr_callV (q' := n_24) (ix := 148) (n := 1) (in_t6 (List.mem_of_getElem? (i := 158) rfl) rfl) good_w (in_t1 (List.mem_of_getElem? (i := 3) rfl) rfl) (in_t7 (List.mem_of_getElem? (i := 78) rfl) rfl) (in_t6 (List.mem_of_getElem? (i := 156) rfl) rfl) (in_t6 (List.mem_of_getElem? (i := 157) rfl) rfl) (by decide +kernel) (by decide +kernel) (by decide +kernel) d)
theorem lk_3_130g {q : xM} {pc : Nat} (hq : (xm_y q).cls = "RobotCellHouse$Doer") (d : decode (xm_b q) pc = .ok (.getfield 130, 3)) : e_EOq eft cls elay eI q pc (0, ei_getf eft elay 3 11 (pc + 3), 0, 0) := e_st (I := eI) (by rw [hq]; exact er_getf (ci := 3) (k := 11) (ix := 130) (N := 12) (C := RX3) (T := TX3) rfl in_X3 (by decide) (in_t3 (List.mem_of_getElem? (i := 105) rfl) rfl) d) nx_getf
theorem lk_3_151 {q : xM} {pc : Nat} (hq : (xm_y q).cls = "RobotCellHouse$Doer") (d : decode (xm_b q) pc = .ok (.invokevirtual 151, 3)) : e_EOq eft cls elay eI q pc (2, e_nof, 44, 3) := e_ca (I := eI) (q' := n_44) rfl (by rw [hq]; exact xr_callV (q' := n_44) (ix := 151) (n := 2) (in_t7 (List.mem_of_getElem? (i := 82) rfl) rfl) good_w (in_t1 (List.mem_of_getElem? (i := 4) rfl) rfl) (in_t7 (List.mem_of_getElem? (i := 79) rfl) rfl) (in_t7 (List.mem_of_getElem? (i := 81) rfl) rfl) (in_s5 (List.mem_of_getElem? (i := 3) rfl)) (by decide +kernel) (by decide +kernel) (by decide +kernel) d)
theorem lk_3_155 {q : xM} {pc : Nat} (hq : (xm_y q).cls = "RobotCellHouse$Doer") (d : decode (xm_b q) pc = .ok (.invokevirtual 155, 3)) : e_EOq eft cls elay eI q pc (2, e_nof, 47, 3) := e_ca (I := eI) (q' := n_47) rfl (by rw [hq]; exact xr_callV (q' := n_47) (ix := 155) (n := 2) (in_t7 (List.mem_of_getElem? (i := 116) rfl) rfl) good_w (in_t1 (List.mem_of_getElem? (i := 4) rfl) rfl) (in_t7 (List.mem_of_getElem? (i := 113) rfl) rfl) (in_t7 (List.mem_of_getElem? (i := 115) rfl) rfl) (in_s5 (List.mem_of_getElem? (i := 8) rfl)) (by decide +kernel) (by decide +kernel) (by decide +kernel) d)
theorem lk_3_141p {q : xM} {pc : Nat} (hq : (xm_y q).cls = "RobotCellHouse$Doer") (d : decode (xm_b q) pc = .ok (.putfield 141, 3)) : e_EOq eft cls elay eI q pc (0, ei_putf eft elay 10 3 0 (pc + 3), 0, 0) := e_st (I := eI) (by rw [hq]; exact er_putf (ci := 10) (k := 3) (ix := 141) (N := 21) (fk := 0) (C := RX10) (T := TX10) (ty0 := tyX10) (ty := .int) rfl in_X10 tyX10_ok nmX10 (by decide) (in_t3 (List.mem_of_getElem? (i := 18) rfl) rfl) rfl rfl x_fit_int d) nx_putf
theorem lk_3_159 {q : xM} {pc : Nat} (hq : (xm_y q).cls = "RobotCellHouse$Doer") (d : decode (xm_b q) pc = .ok (.invokevirtual 159, 3)) : e_EOq eft cls elay eI q pc (2, e_nof, 54, 4) := e_ca (I := eI) (q' := n_54) rfl (by rw [hq]; exact xr_callV (q' := n_54) (ix := 159) (n := 3) (in_t7 (List.mem_of_getElem? (i := 121) rfl) rfl) good_w (in_t1 (List.mem_of_getElem? (i := 4) rfl) rfl) (in_t7 (List.mem_of_getElem? (i := 118) rfl) rfl) (in_t7 (List.mem_of_getElem? (i := 120) rfl) rfl) (in_s5 (List.mem_of_getElem? (i := 9) rfl)) (by decide +kernel) (by decide +kernel) (by decide +kernel) d)
theorem lk_3_163 {q : xM} {pc : Nat} (hq : (xm_y q).cls = "RobotCellHouse$Doer") (d : decode (xm_b q) pc = .ok (.invokevirtual 163, 3)) : e_EOq eft cls elay eI q pc (2, e_nof, 57, 4) := e_ca (I := eI) (q' := n_57) rfl (by rw [hq]; exact xr_callV (q' := n_57) (ix := 163) (n := 3) (in_t7 (List.mem_of_getElem? (i := 142) rfl) rfl) good_w (in_t1 (List.mem_of_getElem? (i := 4) rfl) rfl) (in_t7 (List.mem_of_getElem? (i := 139) rfl) rfl) (in_t7 (List.mem_of_getElem? (i := 141) rfl) rfl) (in_s5 (List.mem_of_getElem? (i := 14) rfl)) (by decide +kernel) (by decide +kernel) (by decide +kernel) d)
theorem lk_3_166 {q : xM} {pc : Nat} (hq : (xm_y q).cls = "RobotCellHouse$Doer") (d : decode (xm_b q) pc = .ok (.invokevirtual 166, 3)) : e_EOq eft cls elay eI q pc (2, e_nof, 53, 1) := e_ca (I := eI) (q' := n_53) rfl (by rw [hq]; exact xr_callV (q' := n_53) (ix := 166) (n := 0) (in_t7 (List.mem_of_getElem? (i := 129) rfl) rfl) good_w (in_t1 (List.mem_of_getElem? (i := 4) rfl) rfl) (in_t7 (List.mem_of_getElem? (i := 126) rfl) rfl) (in_t7 (List.mem_of_getElem? (i := 128) rfl) rfl) (in_s5 (List.mem_of_getElem? (i := 11) rfl)) (by decide +kernel) (by decide +kernel) (by decide +kernel) d)
theorem lk_3_169 {q : xM} {pc : Nat} (hq : (xm_y q).cls = "RobotCellHouse$Doer") (d : decode (xm_b q) pc = .ok (.invokevirtual 169, 3)) : e_EOq eft cls elay eI q pc (2, e_nof, 58, 4) := e_ca (I := eI) (q' := n_58) rfl (by rw [hq]; exact xr_callV (q' := n_58) (ix := 169) (n := 3) (in_t7 (List.mem_of_getElem? (i := 146) rfl) rfl) good_w (in_t1 (List.mem_of_getElem? (i := 4) rfl) rfl) (in_t7 (List.mem_of_getElem? (i := 143) rfl) rfl) (in_t7 (List.mem_of_getElem? (i := 145) rfl) rfl) (in_s5 (List.mem_of_getElem? (i := 15) rfl)) (by decide +kernel) (by decide +kernel) (by decide +kernel) d)
theorem lk_3_172 {q : xM} {pc : Nat} (hq : (xm_y q).cls = "RobotCellHouse$Doer") (d : decode (xm_b q) pc = .ok (.invokevirtual 172, 3)) : e_EOq eft cls elay eI q pc (2, e_nof, 59, 5) := e_ca (I := eI) (q' := n_59) rfl (by rw [hq]; exact xr_callV (q' := n_59) (ix := 172) (n := 4) (in_t7 (List.mem_of_getElem? (i := 150) rfl) rfl) good_w (in_t1 (List.mem_of_getElem? (i := 4) rfl) rfl) (in_t7 (List.mem_of_getElem? (i := 147) rfl) rfl) (in_t7 (List.mem_of_getElem? (i := 149) rfl) rfl) (in_s6 (List.mem_of_getElem? (i := 0) rfl)) (by decide +kernel) (by decide +kernel) (by decide +kernel) d)
theorem lk_3_176 {q : xM} {pc : Nat} (hq : (xm_y q).cls = "RobotCellHouse$Doer") (d : decode (xm_b q) pc = .ok (.invokevirtual 176, 3)) : e_EOq eft cls elay eI q pc (2, e_nof, 71, 5) := e_ca (I := eI) (q' := n_71) rfl (by rw [hq]; exact xr_callV (q' := n_71) (ix := 176) (n := 4) (in_t7 (List.mem_of_getElem? (i := 234) rfl) rfl) good_w (in_t1 (List.mem_of_getElem? (i := 4) rfl) rfl) (in_t7 (List.mem_of_getElem? (i := 231) rfl) rfl) (in_t7 (List.mem_of_getElem? (i := 233) rfl) rfl) (in_s6 (List.mem_of_getElem? (i := 12) rfl)) (by decide +kernel) (by decide +kernel) (by decide +kernel) d)
theorem lk_3_179g {q : xM} {pc : Nat} (hq : (xm_y q).cls = "RobotCellHouse$Doer") (d : decode (xm_b q) pc = .ok (.getfield 179, 3)) : e_EOq eft cls elay eI q pc (0, ei_getf eft elay 3 10 (pc + 3), 0, 0) := e_st (I := eI) (by rw [hq]; exact er_getf (ci := 3) (k := 10) (ix := 179) (N := 12) (C := RX3) (T := TX3) rfl in_X3 (by decide) (in_t3 (List.mem_of_getElem? (i := 104) rfl) rfl) d) nx_getf
theorem lk_3_182 {q : xM} {pc : Nat} (hq : (xm_y q).cls = "RobotCellHouse$Doer") (d : decode (xm_b q) pc = .ok (.invokevirtual 182, 3)) : e_EOq eft cls elay eI q pc (2, e_nof, 188, 4) := e_ca (I := eI) (q' := n_188) rfl (by rw [hq]; exact xr_callV (q' := n_188) (ix := 182) (n := 3) (in_t7 (List.mem_of_getElem? (i := 86) rfl) rfl) good_w (in_t1 (List.mem_of_getElem? (i := 10) rfl) rfl) (in_t7 (List.mem_of_getElem? (i := 83) rfl) rfl) (in_t7 (List.mem_of_getElem? (i := 84) rfl) rfl) (in_t7 (List.mem_of_getElem? (i := 85) rfl) rfl) (by decide +kernel) (by decide +kernel) (by decide +kernel) d)
theorem lk_3_186 {q : xM} {pc : Nat} (hq : (xm_y q).cls = "RobotCellHouse$Doer") (d : decode (xm_b q) pc = .ok (.invokevirtual 186, 3)) : e_EOq eft cls elay eI q pc (2, e_nof, 48, 3) := e_ca (I := eI) (q' := n_48) rfl (by rw [hq]; exact xr_callV (q' := n_48) (ix := 186) (n := 2) (in_t7 (List.mem_of_getElem? (i := 99) rfl) rfl) good_w (in_t1 (List.mem_of_getElem? (i := 4) rfl) rfl) (in_t7 (List.mem_of_getElem? (i := 96) rfl) rfl) (in_t7 (List.mem_of_getElem? (i := 98) rfl) rfl) (in_s5 (List.mem_of_getElem? (i := 5) rfl)) (by decide +kernel) (by decide +kernel) (by decide +kernel) d)
theorem lk_3_190g {q : xM} {pc : Nat} (hq : (xm_y q).cls = "RobotCellHouse$Doer") (d : decode (xm_b q) pc = .ok (.getfield 190, 3)) : e_EOq eft cls elay eI q pc (0, ei_getf eft elay 10 9 (pc + 3), 0, 0) := e_st (I := eI) (by rw [hq]; exact er_getf (ci := 10) (k := 9) (ix := 190) (N := 21) (C := RX10) (T := TX10) rfl in_X10 (by decide) (in_t3 (List.mem_of_getElem? (i := 30) rfl) rfl) d) nx_getf
theorem lk_3_193g {q : xM} {pc : Nat} (hq : (xm_y q).cls = "RobotCellHouse$Doer") (d : decode (xm_b q) pc = .ok (.getfield 193, 3)) : e_EOq eft cls elay eI q pc (0, ei_getf eft elay 10 8 (pc + 3), 0, 0) := e_st (I := eI) (by rw [hq]; exact er_getf (ci := 10) (k := 8) (ix := 193) (N := 21) (C := RX10) (T := TX10) rfl in_X10 (by decide) (in_t3 (List.mem_of_getElem? (i := 29) rfl) rfl) d) nx_getf
theorem lk_3_196g {q : xM} {pc : Nat} (hq : (xm_y q).cls = "RobotCellHouse$Doer") (d : decode (xm_b q) pc = .ok (.getfield 196, 3)) : e_EOq eft cls elay eI q pc (0, ei_getf eft elay 10 0 (pc + 3), 0, 0) := e_st (I := eI) (by rw [hq]; exact er_getf (ci := 10) (k := 0) (ix := 196) (N := 21) (C := RX10) (T := TX10) rfl in_X10 (by decide) (in_t3 (List.mem_of_getElem? (i := 10) rfl) rfl) d) nx_getf
theorem lk_3_114g {q : xM} {pc : Nat} (hq : (xm_y q).cls = "RobotCellHouse$Doer") (d : decode (xm_b q) pc = .ok (.getfield 114, 3)) : e_EOq eft cls elay eI q pc (0, ei_getf eft elay 10 10 (pc + 3), 0, 0) := e_st (I := eI) (by rw [hq]; exact er_getf (ci := 10) (k := 10) (ix := 114) (N := 21) (C := RX10) (T := TX10) rfl in_X10 (by decide) (in_t3 (List.mem_of_getElem? (i := 32) rfl) rfl) d) nx_getf
theorem lk_3_199 {q : xM} {pc : Nat} (hq : (xm_y q).cls = "RobotCellHouse$Doer") (d : decode (xm_b q) pc = .ok (.invokevirtual 199, 3)) : e_EOq eft cls elay eI q pc (2, e_nof, 46, 2) := e_ca (I := eI) (q' := n_46) rfl (by rw [hq]; exact xr_callV (q' := n_46) (ix := 199) (n := 1) (in_t7 (List.mem_of_getElem? (i := 75) rfl) rfl) good_w (in_t1 (List.mem_of_getElem? (i := 4) rfl) rfl) (in_t7 (List.mem_of_getElem? (i := 72) rfl) rfl) (in_t7 (List.mem_of_getElem? (i := 74) rfl) rfl) (in_s5 (List.mem_of_getElem? (i := 2) rfl)) (by decide +kernel) (by decide +kernel) (by decide +kernel) d)
theorem lk_3_179p {q : xM} {pc : Nat} (hq : (xm_y q).cls = "RobotCellHouse$Doer") (d : decode (xm_b q) pc = .ok (.putfield 179, 3)) : e_EOq eft cls elay eI q pc (0, ei_putf eft elay 3 10 0 (pc + 3), 0, 0) := e_st (I := eI) (by rw [hq]; exact er_putf (ci := 3) (k := 10) (ix := 179) (N := 12) (fk := 0) (C := RX3) (T := TX3) (ty0 := tyX3) (ty := .int) rfl in_X3 tyX3_ok nmX3 (by decide) (in_t3 (List.mem_of_getElem? (i := 104) rfl) rfl) rfl rfl x_fit_int d) nx_putf
theorem lk_3_202g {q : xM} {pc : Nat} (hq : (xm_y q).cls = "RobotCellHouse$Doer") (d : decode (xm_b q) pc = .ok (.getfield 202, 3)) : e_EOq eft cls elay eI q pc (0, ei_getf eft elay 10 14 (pc + 3), 0, 0) := e_st (I := eI) (by rw [hq]; exact er_getf (ci := 10) (k := 14) (ix := 202) (N := 21) (C := RX10) (T := TX10) rfl in_X10 (by decide) (in_t3 (List.mem_of_getElem? (i := 38) rfl) rfl) d) nx_getf
theorem lk_3_205g {q : xM} {pc : Nat} (hq : (xm_y q).cls = "RobotCellHouse$Doer") (d : decode (xm_b q) pc = .ok (.getfield 205, 3)) : e_EOq eft cls elay eI q pc (0, ei_getf eft elay 10 4 (pc + 3), 0, 0) := e_st (I := eI) (by rw [hq]; exact er_getf (ci := 10) (k := 4) (ix := 205) (N := 21) (C := RX10) (T := TX10) rfl in_X10 (by decide) (in_t3 (List.mem_of_getElem? (i := 20) rfl) rfl) d) nx_getf
theorem lk_3_202p {q : xM} {pc : Nat} (hq : (xm_y q).cls = "RobotCellHouse$Doer") (d : decode (xm_b q) pc = .ok (.putfield 202, 3)) : e_EOq eft cls elay eI q pc (0, ei_putf eft elay 10 14 0 (pc + 3), 0, 0) := e_st (I := eI) (by rw [hq]; exact er_putf (ci := 10) (k := 14) (ix := 202) (N := 21) (fk := 0) (C := RX10) (T := TX10) (ty0 := tyX10) (ty := .int) rfl in_X10 tyX10_ok nmX10 (by decide) (in_t3 (List.mem_of_getElem? (i := 38) rfl) rfl) rfl rfl x_fit_int d) nx_putf
theorem lk_3_208g {q : xM} {pc : Nat} (hq : (xm_y q).cls = "RobotCellHouse$Doer") (d : decode (xm_b q) pc = .ok (.getfield 208, 3)) : e_EOq eft cls elay eI q pc (0, ei_getf eft elay 10 11 (pc + 3), 0, 0) := e_st (I := eI) (by rw [hq]; exact er_getf (ci := 10) (k := 11) (ix := 208) (N := 21) (C := RX10) (T := TX10) rfl in_X10 (by decide) (in_t3 (List.mem_of_getElem? (i := 34) rfl) rfl) d) nx_getf
theorem lk_3_20g {q : xM} {pc : Nat} (hq : (xm_y q).cls = "RobotCellHouse$Doer") (d : decode (xm_b q) pc = .ok (.getfield 20, 3)) : e_EOq eft cls elay eI q pc (0, ei_getf eft elay 3 1 (pc + 3), 0, 0) := e_st (I := eI) (by rw [hq]; exact er_getf (ci := 3) (k := 1) (ix := 20) (N := 12) (C := RX3) (T := TX3) rfl in_X3 (by decide) (in_t3 (List.mem_of_getElem? (i := 90) rfl) rfl) d) nx_getf
theorem lk_3_211g {q : xM} {pc : Nat} (hq : (xm_y q).cls = "RobotCellHouse$Doer") (d : decode (xm_b q) pc = .ok (.getfield 211, 3)) : e_EOq eft cls elay eI q pc (0, ei_getf eft elay 7 2 (pc + 3), 0, 0) := e_st (I := eI) (by rw [hq]; exact er_getf (ci := 7) (k := 2) (ix := 211) (N := 8) (C := RX7) (T := TX7) rfl in_X7 (by decide) (in_t1 (List.mem_of_getElem? (i := 142) rfl) rfl) d) nx_getf
theorem lk_3_214g {q : xM} {pc : Nat} (hq : (xm_y q).cls = "RobotCellHouse$Doer") (d : decode (xm_b q) pc = .ok (.getfield 214, 3)) : e_EOq eft cls elay eI q pc (0, ei_getf eft elay 10 13 (pc + 3), 0, 0) := e_st (I := eI) (by rw [hq]; exact er_getf (ci := 10) (k := 13) (ix := 214) (N := 21) (C := RX10) (T := TX10) rfl in_X10 (by decide) (in_t3 (List.mem_of_getElem? (i := 36) rfl) rfl) d) nx_getf
theorem lk_3_214p {q : xM} {pc : Nat} (hq : (xm_y q).cls = "RobotCellHouse$Doer") (d : decode (xm_b q) pc = .ok (.putfield 214, 3)) : e_EOq eft cls elay eI q pc (0, ei_putf eft elay 10 13 0 (pc + 3), 0, 0) := e_st (I := eI) (by rw [hq]; exact er_putf (ci := 10) (k := 13) (ix := 214) (N := 21) (fk := 0) (C := RX10) (T := TX10) (ty0 := tyX10) (ty := .int) rfl in_X10 tyX10_ok nmX10 (by decide) (in_t3 (List.mem_of_getElem? (i := 36) rfl) rfl) rfl rfl x_fit_int d) nx_putf
theorem lk_3_217g {q : xM} {pc : Nat} (hq : (xm_y q).cls = "RobotCellHouse$Doer") (d : decode (xm_b q) pc = .ok (.getfield 217, 3)) : e_EOq eft cls elay eI q pc (0, ei_getf eft elay 10 12 (pc + 3), 0, 0) := e_st (I := eI) (by rw [hq]; exact er_getf (ci := 10) (k := 12) (ix := 217) (N := 21) (C := RX10) (T := TX10) rfl in_X10 (by decide) (in_t3 (List.mem_of_getElem? (i := 35) rfl) rfl) d) nx_getf
theorem lk_3_220 {q : xM} {pc : Nat} (hq : (xm_y q).cls = "RobotCellHouse$Doer") (d : decode (xm_b q) pc = .ok (.invokevirtual 220, 3)) : e_EOq eft cls elay eI q pc (2, e_nof, 182, 2) := e_ca (I := eI) (q' := n_182) rfl (by rw [hq]; exact xr_callV (q' := n_182) (ix := 220) (n := 1) (in_t4 (List.mem_of_getElem? (i := 106) rfl) rfl) good_w (in_t1 (List.mem_of_getElem? (i := 10) rfl) rfl) (in_t7 (List.mem_of_getElem? (i := 117) rfl) rfl) (in_t4 (List.mem_of_getElem? (i := 104) rfl) rfl) (in_t4 (List.mem_of_getElem? (i := 105) rfl) rfl) (by decide +kernel) (by decide +kernel) (by decide +kernel) d)
theorem lk_3_224 {q : xM} {pc : Nat} (hq : (xm_y q).cls = "RobotCellHouse$Doer") (d : decode (xm_b q) pc = .ok (.invokevirtual 224, 3)) : e_EOq eft cls elay eI q pc (2, e_nof, 181, 2) := e_ca (I := eI) (q' := n_181) rfl (by rw [hq]; exact xr_callV (q' := n_181) (ix := 224) (n := 1) (in_t7 (List.mem_of_getElem? (i := 103) rfl) rfl) good_w (in_t1 (List.mem_of_getElem? (i := 10) rfl) rfl) (in_t7 (List.mem_of_getElem? (i := 100) rfl) rfl) (in_t7 (List.mem_of_getElem? (i := 101) rfl) rfl) (in_t7 (List.mem_of_getElem? (i := 102) rfl) rfl) (by decide +kernel) (by decide +kernel) (by decide +kernel) d)
theorem lk_3_227p {q : xM} {pc : Nat} (hq : (xm_y q).cls = "RobotCellHouse$Doer") (d : decode (xm_b q) pc = .ok (.putfield 227, 3)) : e_EOq eft cls elay eI q pc (0, ei_putf eft elay 10 5 0 (pc + 3), 0, 0) := e_st (I := eI) (by rw [hq]; exact er_putf (ci := 10) (k := 5) (ix := 227) (N := 21) (fk := 0) (C := RX10) (T := TX10) (ty0 := tyX10) (ty := .int) rfl in_X10 tyX10_ok nmX10 (by decide) (in_t3 (List.mem_of_getElem? (i := 23) rfl) rfl) rfl rfl x_fit_int d) nx_putf
theorem lk_3_230 {q : xM} {pc : Nat} (hq : (xm_y q).cls = "RobotCellHouse$Doer") (d : decode (xm_b q) pc = .ok (.invokevirtual 230, 3)) : e_EOq eft cls elay eI q pc (2, e_nof, 50, 2) := e_ca (I := eI) (q' := n_50) rfl (by rw [hq]; exact xr_callV (q' := n_50) (ix := 230) (n := 1) (in_t7 (List.mem_of_getElem? (i := 107) rfl) rfl) good_w (in_t1 (List.mem_of_getElem? (i := 4) rfl) rfl) (in_t7 (List.mem_of_getElem? (i := 104) rfl) rfl) (in_t7 (List.mem_of_getElem? (i := 106) rfl) rfl) (in_s5 (List.mem_of_getElem? (i := 6) rfl)) (by decide +kernel) (by decide +kernel) (by decide +kernel) d)
theorem lk_3_233 {q : xM} {pc : Nat} (hq : (xm_y q).cls = "RobotCellHouse$Doer") (d : decode (xm_b q) pc = .ok (.invokevirtual 233, 3)) : e_EOq eft cls elay eI q pc (2, e_nof, 40, 2) := e_ca (I := eI) (q' := n_40) rfl (by rw [hq]; exact xr_callV (q' := n_40) (ix := 233) (n := 1) (in_t7 (List.mem_of_getElem? (i := 2) rfl) rfl) good_w (in_t1 (List.mem_of_getElem? (i := 4) rfl) rfl) (in_t7 (List.mem_of_getElem? (i := 112) rfl) rfl) (in_t7 (List.mem_of_getElem? (i := 0) rfl) rfl) (in_t7 (List.mem_of_getElem? (i := 1) rfl) rfl) (by decide +kernel) (by decide +kernel) (by decide +kernel) d)
theorem lk_3_236 {q : xM} {pc : Nat} (hq : (xm_y q).cls = "RobotCellHouse$Doer") (d : decode (xm_b q) pc = .ok (.invokevirtual 236, 3)) : e_EOq eft cls elay eI q pc (2, e_nof, 51, 2) := e_ca (I := eI) (q' := n_51) rfl (by rw [hq]; exact xr_callV (q' := n_51) (ix := 236) (n := 1) (in_t7 (List.mem_of_getElem? (i := 111) rfl) rfl) good_w (in_t1 (List.mem_of_getElem? (i := 4) rfl) rfl) (in_t7 (List.mem_of_getElem? (i := 108) rfl) rfl) (in_t7 (List.mem_of_getElem? (i := 110) rfl) rfl) (in_s5 (List.mem_of_getElem? (i := 7) rfl)) (by decide +kernel) (by decide +kernel) (by decide +kernel) d)
theorem lk_3_133g {q : xM} {pc : Nat} (hq : (xm_y q).cls = "RobotCellHouse$Doer") (d : decode (xm_b q) pc = .ok (.getfield 133, 3)) : e_EOq eft cls elay eI q pc (0, ei_getf eft elay 3 8 (pc + 3), 0, 0) := e_st (I := eI) (by rw [hq]; exact er_getf (ci := 3) (k := 8) (ix := 133) (N := 12) (C := RX3) (T := TX3) rfl in_X3 (by decide) (in_t3 (List.mem_of_getElem? (i := 102) rfl) rfl) d) nx_getf
theorem lk_3_48g {q : xM} {pc : Nat} (hq : (xm_y q).cls = "RobotCellHouse$Doer") (d : decode (xm_b q) pc = .ok (.getfield 48, 3)) : e_EOq eft cls elay eI q pc (0, ei_getf eft elay 3 6 (pc + 3), 0, 0) := e_st (I := eI) (by rw [hq]; exact er_getf (ci := 3) (k := 6) (ix := 48) (N := 12) (C := RX3) (T := TX3) rfl in_X3 (by decide) (in_t3 (List.mem_of_getElem? (i := 100) rfl) rfl) d) nx_getf
theorem lk_3_239 {q : xM} {pc : Nat} (hq : (xm_y q).cls = "RobotCellHouse$Doer") (d : decode (xm_b q) pc = .ok (.invokevirtual 239, 3)) : e_EOq eft cls elay eI q pc (2, e_nof, 52, 2) := e_ca (I := eI) (q' := n_52) rfl (by rw [hq]; exact xr_callV (q' := n_52) (ix := 239) (n := 1) (in_t7 (List.mem_of_getElem? (i := 125) rfl) rfl) good_w (in_t1 (List.mem_of_getElem? (i := 4) rfl) rfl) (in_t7 (List.mem_of_getElem? (i := 122) rfl) rfl) (in_t7 (List.mem_of_getElem? (i := 124) rfl) rfl) (in_s5 (List.mem_of_getElem? (i := 10) rfl)) (by decide +kernel) (by decide +kernel) (by decide +kernel) d)
theorem lk_3_242g {q : xM} {pc : Nat} (hq : (xm_y q).cls = "RobotCellHouse$Doer") (d : decode (xm_b q) pc = .ok (.getfield 242, 3)) : e_EOq eft cls elay eI q pc (0, ei_getf eft elay 0 6 (pc + 3), 0, 0) := e_st (I := eI) (by rw [hq]; exact er_getf (ci := 0) (k := 6) (ix := 242) (N := 20) (C := RX0) (T := TX0) rfl in_X0 (by decide) (in_t2 (List.mem_of_getElem? (i := 163) rfl) rfl) d) nx_getf
theorem lk_3_245 {q : xM} {pc : Nat} (hq : (xm_y q).cls = "RobotCellHouse$Doer") (d : decode (xm_b q) pc = .ok (.invokevirtual 245, 3)) : e_EOq eft cls elay eI q pc (2, e_nof, 55, 2) := e_ca (I := eI) (q' := n_55) rfl (by rw [hq]; exact xr_callV (q' := n_55) (ix := 245) (n := 1) (in_t7 (List.mem_of_getElem? (i := 133) rfl) rfl) good_w (in_t1 (List.mem_of_getElem? (i := 4) rfl) rfl) (in_t7 (List.mem_of_getElem? (i := 130) rfl) rfl) (in_t7 (List.mem_of_getElem? (i := 132) rfl) rfl) (in_s5 (List.mem_of_getElem? (i := 12) rfl)) (by decide +kernel) (by decide +kernel) (by decide +kernel) d)
theorem lk_3_248 {q : xM} {pc : Nat} (hq : (xm_y q).cls = "RobotCellHouse$Doer") (d : decode (xm_b q) pc = .ok (.invokevirtual 248, 3)) : e_EOq eft cls elay eI q pc (2, e_nof, 56, 3) := e_ca (I := eI) (q' := n_56) rfl (by rw [hq]; exact xr_callV (q' := n_56) (ix := 248) (n := 2) (in_t7 (List.mem_of_getElem? (i := 138) rfl) rfl) good_w (in_t1 (List.mem_of_getElem? (i := 4) rfl) rfl) (in_t7 (List.mem_of_getElem? (i := 135) rfl) rfl) (in_t7 (List.mem_of_getElem? (i := 137) rfl) rfl) (in_s5 (List.mem_of_getElem? (i := 13) rfl)) (by decide +kernel) (by decide +kernel) (by decide +kernel) d)
theorem lk_3_252g {q : xM} {pc : Nat} (hq : (xm_y q).cls = "RobotCellHouse$Doer") (d : decode (xm_b q) pc = .ok (.getfield 252, 3)) : e_EOq eft cls elay eI q pc (0, ei_getf eft elay 10 6 (pc + 3), 0, 0) := e_st (I := eI) (by rw [hq]; exact er_getf (ci := 10) (k := 6) (ix := 252) (N := 21) (C := RX10) (T := TX10) rfl in_X10 (by decide) (in_t3 (List.mem_of_getElem? (i := 26) rfl) rfl) d) nx_getf
theorem lk_3_255g {q : xM} {pc : Nat} (hq : (xm_y q).cls = "RobotCellHouse$Doer") (d : decode (xm_b q) pc = .ok (.getfield 255, 3)) : e_EOq eft cls elay eI q pc (0, ei_getf eft elay 2 3 (pc + 3), 0, 0) := e_st (I := eI) (by rw [hq]; exact er_getf (ci := 2) (k := 3) (ix := 255) (N := 15) (C := RX2) (T := TX2) rfl in_X2 (by decide) (in_t2 (List.mem_of_getElem? (i := 20) rfl) rfl) d) nx_getf
theorem lk_3_258g {q : xM} {pc : Nat} (hq : (xm_y q).cls = "RobotCellHouse$Doer") (d : decode (xm_b q) pc = .ok (.getfield 258, 3)) : e_EOq eft cls elay eI q pc (0, ei_getf eft elay 0 14 (pc + 3), 0, 0) := e_st (I := eI) (by rw [hq]; exact er_getf (ci := 0) (k := 14) (ix := 258) (N := 20) (C := RX0) (T := TX0) rfl in_X0 (by decide) (in_t2 (List.mem_of_getElem? (i := 185) rfl) rfl) d) nx_getf
theorem lk_3_261 {q : xM} {pc : Nat} (hq : (xm_y q).cls = "RobotCellHouse$Doer") (d : decode (xm_b q) pc = .ok (.invokestatic 261, 3)) : e_EOq eft cls elay eI q pc (2, e_nof, 245, 1) := e_ca (I := eI) (q' := n_245) rfl (by rw [hq]; exact xr_callSN (q' := n_245) (ix := 261) (n := 1) (host := "RobotCellHouse") (in_t5 (List.mem_of_getElem? (i := 22) rfl) rfl) good_w (in_t1 (List.mem_of_getElem? (i := 1) rfl) rfl) (List.mem_of_getElem? (i := 14) rfl) (in_t5 (List.mem_of_getElem? (i := 21) rfl) rfl) (by decide +kernel) (by decide +kernel) d)
theorem lk_3_264g {q : xM} {pc : Nat} (hq : (xm_y q).cls = "RobotCellHouse$Doer") (d : decode (xm_b q) pc = .ok (.getfield 264, 3)) : e_EOq eft cls elay eI q pc (0, ei_getf eft elay 7 1 (pc + 3), 0, 0) := e_st (I := eI) (by rw [hq]; exact er_getf (ci := 7) (k := 1) (ix := 264) (N := 8) (C := RX7) (T := TX7) rfl in_X7 (by decide) (in_t1 (List.mem_of_getElem? (i := 139) rfl) rfl) d) nx_getf
theorem lk_3_267g {q : xM} {pc : Nat} (hq : (xm_y q).cls = "RobotCellHouse$Doer") (d : decode (xm_b q) pc = .ok (.getfield 267, 3)) : e_EOq eft cls elay eI q pc (0, ei_getf eft elay 0 8 (pc + 3), 0, 0) := e_st (I := eI) (by rw [hq]; exact er_getf (ci := 0) (k := 8) (ix := 267) (N := 20) (C := RX0) (T := TX0) rfl in_X0 (by decide) (in_t2 (List.mem_of_getElem? (i := 172) rfl) rfl) d) nx_getf
theorem lk_3_270g {q : xM} {pc : Nat} (hq : (xm_y q).cls = "RobotCellHouse$Doer") (d : decode (xm_b q) pc = .ok (.getfield 270, 3)) : e_EOq eft cls elay eI q pc (0, ei_getf eft elay 0 0 (pc + 3), 0, 0) := e_st (I := eI) (by rw [hq]; exact er_getf (ci := 0) (k := 0) (ix := 270) (N := 20) (C := RX0) (T := TX0) rfl in_X0 (by decide) (in_t2 (List.mem_of_getElem? (i := 147) rfl) rfl) d) nx_getf
theorem lk_3_274g {q : xM} {pc : Nat} (hq : (xm_y q).cls = "RobotCellHouse$Doer") (d : decode (xm_b q) pc = .ok (.getfield 274, 3)) : e_EOq eft cls elay eI q pc (0, ei_getf eft elay 5 7 (pc + 3), 0, 0) := e_st (I := eI) (by rw [hq]; exact er_getf (ci := 5) (k := 7) (ix := 274) (N := 12) (C := RX5) (T := TX5) rfl in_X5 (by decide) (in_t2 (List.mem_of_getElem? (i := 107) rfl) rfl) d) nx_getf
theorem lk_3_278 {q : xM} {pc : Nat} (hq : (xm_y q).cls = "RobotCellHouse$Doer") (d : decode (xm_b q) pc = .ok (.invokevirtual 278, 3)) : e_EOq eft cls elay eI q pc (2, e_nof, 60, 3) := e_ca (I := eI) (q' := n_60) rfl (by rw [hq]; exact xr_callV (q' := n_60) (ix := 278) (n := 2) (in_t7 (List.mem_of_getElem? (i := 154) rfl) rfl) good_w (in_t1 (List.mem_of_getElem? (i := 4) rfl) rfl) (in_t7 (List.mem_of_getElem? (i := 151) rfl) rfl) (in_t7 (List.mem_of_getElem? (i := 153) rfl) rfl) (in_s6 (List.mem_of_getElem? (i := 1) rfl)) (by decide +kernel) (by decide +kernel) (by decide +kernel) d)
theorem lk_3_282 {q : xM} {pc : Nat} (hq : (xm_y q).cls = "RobotCellHouse$Doer") (d : decode (xm_b q) pc = .ok (.invokevirtual 282, 3)) : e_EOq eft cls elay eI q pc (2, e_nof, 61, 3) := e_ca (I := eI) (q' := n_61) rfl (by rw [hq]; exact xr_callV (q' := n_61) (ix := 282) (n := 2) (in_t7 (List.mem_of_getElem? (i := 158) rfl) rfl) good_w (in_t1 (List.mem_of_getElem? (i := 4) rfl) rfl) (in_t7 (List.mem_of_getElem? (i := 155) rfl) rfl) (in_t7 (List.mem_of_getElem? (i := 157) rfl) rfl) (in_s6 (List.mem_of_getElem? (i := 2) rfl)) (by decide +kernel) (by decide +kernel) (by decide +kernel) d)
theorem lk_3_285 {q : xM} {pc : Nat} (hq : (xm_y q).cls = "RobotCellHouse$Doer") (d : decode (xm_b q) pc = .ok (.invokevirtual 285, 3)) : e_EOq eft cls elay eI q pc (2, e_nof, 63, 3) := e_ca (I := eI) (q' := n_63) rfl (by rw [hq]; exact xr_callV (q' := n_63) (ix := 285) (n := 2) (in_t7 (List.mem_of_getElem? (i := 172) rfl) rfl) good_w (in_t1 (List.mem_of_getElem? (i := 4) rfl) rfl) (in_t7 (List.mem_of_getElem? (i := 169) rfl) rfl) (in_t7 (List.mem_of_getElem? (i := 171) rfl) rfl) (in_s6 (List.mem_of_getElem? (i := 4) rfl)) (by decide +kernel) (by decide +kernel) (by decide +kernel) d)
theorem lk_3_288 {q : xM} {pc : Nat} (hq : (xm_y q).cls = "RobotCellHouse$Doer") (d : decode (xm_b q) pc = .ok (.invokevirtual 288, 3)) : e_EOq eft cls elay eI q pc (2, e_nof, 64, 4) := e_ca (I := eI) (q' := n_64) rfl (by rw [hq]; exact xr_callV (q' := n_64) (ix := 288) (n := 3) (in_t7 (List.mem_of_getElem? (i := 176) rfl) rfl) good_w (in_t1 (List.mem_of_getElem? (i := 4) rfl) rfl) (in_t7 (List.mem_of_getElem? (i := 173) rfl) rfl) (in_t7 (List.mem_of_getElem? (i := 175) rfl) rfl) (in_s6 (List.mem_of_getElem? (i := 5) rfl)) (by decide +kernel) (by decide +kernel) (by decide +kernel) d)
theorem lk_3_291 {q : xM} {pc : Nat} (hq : (xm_y q).cls = "RobotCellHouse$Doer") (d : decode (xm_b q) pc = .ok (.invokevirtual 291, 3)) : e_EOq eft cls elay eI q pc (2, e_nof, 65, 3) := e_ca (I := eI) (q' := n_65) rfl (by rw [hq]; exact xr_callV (q' := n_65) (ix := 291) (n := 2) (in_t7 (List.mem_of_getElem? (i := 180) rfl) rfl) good_w (in_t1 (List.mem_of_getElem? (i := 4) rfl) rfl) (in_t7 (List.mem_of_getElem? (i := 177) rfl) rfl) (in_t7 (List.mem_of_getElem? (i := 179) rfl) rfl) (in_s6 (List.mem_of_getElem? (i := 6) rfl)) (by decide +kernel) (by decide +kernel) (by decide +kernel) d)
theorem lk_3_294 {q : xM} {pc : Nat} (hq : (xm_y q).cls = "RobotCellHouse$Doer") (d : decode (xm_b q) pc = .ok (.invokevirtual 294, 3)) : e_EOq eft cls elay eI q pc (2, e_nof, 66, 3) := e_ca (I := eI) (q' := n_66) rfl (by rw [hq]; exact xr_callV (q' := n_66) (ix := 294) (n := 2) (in_t7 (List.mem_of_getElem? (i := 185) rfl) rfl) good_w (in_t1 (List.mem_of_getElem? (i := 4) rfl) rfl) (in_t7 (List.mem_of_getElem? (i := 182) rfl) rfl) (in_t7 (List.mem_of_getElem? (i := 184) rfl) rfl) (in_s6 (List.mem_of_getElem? (i := 7) rfl)) (by decide +kernel) (by decide +kernel) (by decide +kernel) d)
theorem lk_3_297 {q : xM} {pc : Nat} (hq : (xm_y q).cls = "RobotCellHouse$Doer") (d : decode (xm_b q) pc = .ok (.invokevirtual 297, 3)) : e_EOq eft cls elay eI q pc (2, e_nof, 67, 3) := e_ca (I := eI) (q' := n_67) rfl (by rw [hq]; exact xr_callV (q' := n_67) (ix := 297) (n := 2) (in_t7 (List.mem_of_getElem? (i := 189) rfl) rfl) good_w (in_t1 (List.mem_of_getElem? (i := 4) rfl) rfl) (in_t7 (List.mem_of_getElem? (i := 186) rfl) rfl) (in_t7 (List.mem_of_getElem? (i := 188) rfl) rfl) (in_s6 (List.mem_of_getElem? (i := 8) rfl)) (by decide +kernel) (by decide +kernel) (by decide +kernel) d)
theorem lk_3_300 {q : xM} {pc : Nat} (hq : (xm_y q).cls = "RobotCellHouse$Doer") (d : decode (xm_b q) pc = .ok (.invokevirtual 300, 3)) : e_EOq eft cls elay eI q pc (2, e_nof, 37, 3) := e_ca (I := eI) (q' := n_37) rfl (by rw [hq]; exact xr_callV (q' := n_37) (ix := 300) (n := 2) (in_t6 (List.mem_of_getElem? (i := 198) rfl) rfl) good_w (in_t1 (List.mem_of_getElem? (i := 4) rfl) rfl) (in_t7 (List.mem_of_getElem? (i := 190) rfl) rfl) (in_t6 (List.mem_of_getElem? (i := 196) rfl) rfl) (in_t6 (List.mem_of_getElem? (i := 197) rfl) rfl) (by decide +kernel) (by decide +kernel) (by decide +kernel) d)
theorem lk_3_303 {q : xM} {pc : Nat} (hq : (xm_y q).cls = "RobotCellHouse$Doer") (d : decode (xm_b q) pc = .ok (.invokevirtual 303, 3)) : e_EOq eft cls elay eI q pc (2, e_nof, 68, 2) := e_ca (I := eI) (q' := n_68) rfl (by rw [hq]; exact xr_callV (q' := n_68) (ix := 303) (n := 1) (in_t7 (List.mem_of_getElem? (i := 194) rfl) rfl) good_w (in_t1 (List.mem_of_getElem? (i := 4) rfl) rfl) (in_t7 (List.mem_of_getElem? (i := 191) rfl) rfl) (in_t7 (List.mem_of_getElem? (i := 193) rfl) rfl) (in_s6 (List.mem_of_getElem? (i := 9) rfl)) (by decide +kernel) (by decide +kernel) (by decide +kernel) d)
theorem lk_3_306 {q : xM} {pc : Nat} (hq : (xm_y q).cls = "RobotCellHouse$Doer") (d : decode (xm_b q) pc = .ok (.invokevirtual 306, 3)) : e_EOq eft cls elay eI q pc (2, e_nof, 69, 2) := e_ca (I := eI) (q' := n_69) rfl (by rw [hq]; exact xr_callV (q' := n_69) (ix := 306) (n := 1) (in_t7 (List.mem_of_getElem? (i := 218) rfl) rfl) good_w (in_t1 (List.mem_of_getElem? (i := 4) rfl) rfl) (in_t7 (List.mem_of_getElem? (i := 215) rfl) rfl) (in_t7 (List.mem_of_getElem? (i := 217) rfl) rfl) (in_s6 (List.mem_of_getElem? (i := 10) rfl)) (by decide +kernel) (by decide +kernel) (by decide +kernel) d)
theorem lk_3_309 {q : xM} {pc : Nat} (hq : (xm_y q).cls = "RobotCellHouse$Doer") (d : decode (xm_b q) pc = .ok (.invokevirtual 309, 3)) : e_EOq eft cls elay eI q pc (2, e_nof, 70, 4) := e_ca (I := eI) (q' := n_70) rfl (by rw [hq]; exact xr_callV (q' := n_70) (ix := 309) (n := 3) (in_t7 (List.mem_of_getElem? (i := 230) rfl) rfl) good_w (in_t1 (List.mem_of_getElem? (i := 4) rfl) rfl) (in_t7 (List.mem_of_getElem? (i := 227) rfl) rfl) (in_t7 (List.mem_of_getElem? (i := 229) rfl) rfl) (in_s6 (List.mem_of_getElem? (i := 11) rfl)) (by decide +kernel) (by decide +kernel) (by decide +kernel) d)
theorem lk_3_51g {q : xM} {pc : Nat} (hq : (xm_y q).cls = "RobotCellHouse$Doer") (d : decode (xm_b q) pc = .ok (.getfield 51, 3)) : e_EOq eft cls elay eI q pc (0, ei_getf eft elay 3 7 (pc + 3), 0, 0) := e_st (I := eI) (by rw [hq]; exact er_getf (ci := 3) (k := 7) (ix := 51) (N := 12) (C := RX3) (T := TX3) rfl in_X3 (by decide) (in_t3 (List.mem_of_getElem? (i := 101) rfl) rfl) d) nx_getf
theorem lk_3_312 {q : xM} {pc : Nat} (hq : (xm_y q).cls = "RobotCellHouse$Doer") (d : decode (xm_b q) pc = .ok (.invokevirtual 312, 3)) : e_EOq eft cls elay eI q pc (2, e_nof, 62, 2) := e_ca (I := eI) (q' := n_62) rfl (by rw [hq]; exact xr_callV (q' := n_62) (ix := 312) (n := 1) (in_t7 (List.mem_of_getElem? (i := 162) rfl) rfl) good_w (in_t1 (List.mem_of_getElem? (i := 4) rfl) rfl) (in_t7 (List.mem_of_getElem? (i := 159) rfl) rfl) (in_t7 (List.mem_of_getElem? (i := 161) rfl) rfl) (in_s6 (List.mem_of_getElem? (i := 3) rfl)) (by decide +kernel) (by decide +kernel) (by decide +kernel) d)
theorem lk_3_316p {q : xM} {pc : Nat} (hq : (xm_y q).cls = "RobotCellHouse$Doer") (d : decode (xm_b q) pc = .ok (.putfield 316, 3)) : e_EOq eft cls elay eI q pc (0, ei_putf eft elay 5 9 0 (pc + 3), 0, 0) := e_st (I := eI) (by rw [hq]; exact er_putf (ci := 5) (k := 9) (ix := 316) (N := 12) (fk := 0) (C := RX5) (T := TX5) (ty0 := tyX5) (ty := .int) rfl in_X5 tyX5_ok nmX5 (by decide) (in_t2 (List.mem_of_getElem? (i := 114) rfl) rfl) rfl rfl x_fit_int d) nx_putf
theorem lk_3_319 {q : xM} {pc : Nat} (hq : (xm_y q).cls = "RobotCellHouse$Doer") (d : decode (xm_b q) pc = .ok (.invokevirtual 319, 3)) : e_EOq eft cls elay eI q pc (2, e_nof, 13, 2) := e_ca (I := eI) (q' := n_13) rfl (by rw [hq]; exact xr_callV (q' := n_13) (ix := 319) (n := 1) (in_t7 (List.mem_of_getElem? (i := 41) rfl) rfl) good_w (in_t1 (List.mem_of_getElem? (i := 8) rfl) rfl) (in_t7 (List.mem_of_getElem? (i := 168) rfl) rfl) (in_t7 (List.mem_of_getElem? (i := 39) rfl) rfl) (in_t7 (List.mem_of_getElem? (i := 40) rfl) rfl) (by decide +kernel) (by decide +kernel) (by decide +kernel) d)
theorem lk_3_322 {q : xM} {pc : Nat} (hq : (xm_y q).cls = "RobotCellHouse$Doer") (d : decode (xm_b q) pc = .ok (.invokevirtual 322, 3)) : e_EOq eft cls elay eI q pc (2, e_nof, 89, 2) := e_ca (I := eI) (q' := n_89) rfl (by rw [hq]; exact xr_callV (q' := n_89) (ix := 322) (n := 1) (in_t7 (List.mem_of_getElem? (i := 166) rfl) rfl) good_w (in_t1 (List.mem_of_getElem? (i := 9) rfl) rfl) (in_t7 (List.mem_of_getElem? (i := 163) rfl) rfl) (in_t7 (List.mem_of_getElem? (i := 164) rfl) rfl) (in_t7 (List.mem_of_getElem? (i := 165) rfl) rfl) (by decide +kernel) (by decide +kernel) (by decide +kernel) d)
theorem lk_3_193p {q : xM} {pc : Nat} (hq : (xm_y q).cls = "RobotCellHouse$Doer") (d : decode (xm_b q) pc = .ok (.putfield 193, 3)) : e_EOq eft cls elay eI q pc (0, ei_putf eft elay 10 8 0 (pc + 3), 0, 0) := e_st (I := eI) (by rw [hq]; exact er_putf (ci := 10) (k := 8) (ix := 193) (N := 21) (fk := 0) (C := RX10) (T := TX10) (ty0 := tyX10) (ty := .int) rfl in_X10 tyX10_ok nmX10 (by decide) (in_t3 (List.mem_of_getElem? (i := 29) rfl) rfl) rfl rfl x_fit_int d) nx_putf
theorem lk_3_190p {q : xM} {pc : Nat} (hq : (xm_y q).cls = "RobotCellHouse$Doer") (d : decode (xm_b q) pc = .ok (.putfield 190, 3)) : e_EOq eft cls elay eI q pc (0, ei_putf eft elay 10 9 0 (pc + 3), 0, 0) := e_st (I := eI) (by rw [hq]; exact er_putf (ci := 10) (k := 9) (ix := 190) (N := 21) (fk := 0) (C := RX10) (T := TX10) (ty0 := tyX10) (ty := .int) rfl in_X10 tyX10_ok nmX10 (by decide) (in_t3 (List.mem_of_getElem? (i := 30) rfl) rfl) rfl rfl x_fit_int d) nx_putf
theorem lk_3_325 {q : xM} {pc : Nat} (hq : (xm_y q).cls = "RobotCellHouse$Doer") (d : decode (xm_b q) pc = .ok (.invokevirtual 325, 3)) : e_EOq eft cls elay eI q pc (2, e_nof, 113, 3) := e_ca (I := eI) (q' := n_113) rfl (by rw [hq]; exact xr_callV (q' := n_113) (ix := 325) (n := 2) (in_t6 (List.mem_of_getElem? (i := 204) rfl) rfl) good_w (in_t1 (List.mem_of_getElem? (i := 5) rfl) rfl) (in_t7 (List.mem_of_getElem? (i := 181) rfl) rfl) (in_t6 (List.mem_of_getElem? (i := 202) rfl) rfl) (in_t6 (List.mem_of_getElem? (i := 203) rfl) rfl) (by decide +kernel) (by decide +kernel) (by decide +kernel) d)
theorem lk_3_67g {q : xM} {pc : Nat} (hq : (xm_y q).cls = "RobotCellHouse$Doer") (d : decode (xm_b q) pc = .ok (.getfield 67, 3)) : e_EOq eft cls elay eI q pc (0, ei_getf eft elay 3 9 (pc + 3), 0, 0) := e_st (I := eI) (by rw [hq]; exact er_getf (ci := 3) (k := 9) (ix := 67) (N := 12) (C := RX3) (T := TX3) rfl in_X3 (by decide) (in_t3 (List.mem_of_getElem? (i := 103) rfl) rfl) d) nx_getf
theorem lk_3_27g {q : xM} {pc : Nat} (hq : (xm_y q).cls = "RobotCellHouse$Doer") (d : decode (xm_b q) pc = .ok (.getfield 27, 3)) : e_EOq eft cls elay eI q pc (0, ei_getf eft elay 3 2 (pc + 3), 0, 0) := e_st (I := eI) (by rw [hq]; exact er_getf (ci := 3) (k := 2) (ix := 27) (N := 12) (C := RX3) (T := TX3) rfl in_X3 (by decide) (in_t3 (List.mem_of_getElem? (i := 92) rfl) rfl) d) nx_getf
theorem lk_3_328g {q : xM} {pc : Nat} (hq : (xm_y q).cls = "RobotCellHouse$Doer") (d : decode (xm_b q) pc = .ok (.getfield 328, 3)) : e_EOq eft cls elay eI q pc (0, ei_getf eft elay 0 1 (pc + 3), 0, 0) := e_st (I := eI) (by rw [hq]; exact er_getf (ci := 0) (k := 1) (ix := 328) (N := 20) (C := RX0) (T := TX0) rfl in_X0 (by decide) (in_t2 (List.mem_of_getElem? (i := 150) rfl) rfl) d) nx_getf
theorem lk_3_331g {q : xM} {pc : Nat} (hq : (xm_y q).cls = "RobotCellHouse$Doer") (d : decode (xm_b q) pc = .ok (.getfield 331, 3)) : e_EOq eft cls elay eI q pc (0, ei_getf eft elay 0 2 (pc + 3), 0, 0) := e_st (I := eI) (by rw [hq]; exact er_getf (ci := 0) (k := 2) (ix := 331) (N := 20) (C := RX0) (T := TX0) rfl in_X0 (by decide) (in_t2 (List.mem_of_getElem? (i := 154) rfl) rfl) d) nx_getf
theorem lk_3_334g {q : xM} {pc : Nat} (hq : (xm_y q).cls = "RobotCellHouse$Doer") (d : decode (xm_b q) pc = .ok (.getfield 334, 3)) : e_EOq eft cls elay eI q pc (0, ei_getf eft elay 0 10 (pc + 3), 0, 0) := e_st (I := eI) (by rw [hq]; exact er_getf (ci := 0) (k := 10) (ix := 334) (N := 20) (C := RX0) (T := TX0) rfl in_X0 (by decide) (in_t2 (List.mem_of_getElem? (i := 175) rfl) rfl) d) nx_getf
theorem lk_3_337 {q : xM} {pc : Nat} (hq : (xm_y q).cls = "RobotCellHouse$Doer") (d : decode (xm_b q) pc = .ok (.invokevirtual 337, 3)) : e_EOq eft cls elay eI q pc (2, e_nof, 83, 4) := e_ca (I := eI) (q' := n_83) rfl (by rw [hq]; exact xr_callV (q' := n_83) (ix := 337) (n := 3) (in_t7 (List.mem_of_getElem? (i := 198) rfl) rfl) good_w (in_t1 (List.mem_of_getElem? (i := 6) rfl) rfl) (in_t7 (List.mem_of_getElem? (i := 195) rfl) rfl) (in_t7 (List.mem_of_getElem? (i := 196) rfl) rfl) (in_t7 (List.mem_of_getElem? (i := 197) rfl) rfl) (by decide +kernel) (by decide +kernel) (by decide +kernel) d)
theorem lk_3_341 {q : xM} {pc : Nat} (hq : (xm_y q).cls = "RobotCellHouse$Doer") (d : decode (xm_b q) pc = .ok (.invokevirtual 341, 3)) : e_EOq eft cls elay eI q pc (2, e_nof, 84, 3) := e_ca (I := eI) (q' := n_84) rfl (by rw [hq]; exact xr_callV (q' := n_84) (ix := 341) (n := 2) (in_t7 (List.mem_of_getElem? (i := 213) rfl) rfl) good_w (in_t1 (List.mem_of_getElem? (i := 6) rfl) rfl) (in_t7 (List.mem_of_getElem? (i := 210) rfl) rfl) (in_t7 (List.mem_of_getElem? (i := 211) rfl) rfl) (in_t7 (List.mem_of_getElem? (i := 212) rfl) rfl) (by decide +kernel) (by decide +kernel) (by decide +kernel) d)
theorem lk_3_258p {q : xM} {pc : Nat} (hq : (xm_y q).cls = "RobotCellHouse$Doer") (d : decode (xm_b q) pc = .ok (.putfield 258, 3)) : e_EOq eft cls elay eI q pc (0, ei_putf eft elay 0 14 0 (pc + 3), 0, 0) := e_st (I := eI) (by rw [hq]; exact er_putf (ci := 0) (k := 14) (ix := 258) (N := 20) (fk := 0) (C := RX0) (T := TX0) (ty0 := tyX0) (ty := .int) rfl in_X0 tyX0_ok nmX0 (by decide) (in_t2 (List.mem_of_getElem? (i := 185) rfl) rfl) rfl rfl x_fit_int d) nx_putf
theorem lk_3_344g {q : xM} {pc : Nat} (hq : (xm_y q).cls = "RobotCellHouse$Doer") (d : decode (xm_b q) pc = .ok (.getfield 344, 3)) : e_EOq eft cls elay eI q pc (0, ei_getf eft elay 4 16 (pc + 3), 0, 0) := e_st (I := eI) (by rw [hq]; exact er_getf (ci := 4) (k := 16) (ix := 344) (N := 20) (C := RX4) (T := TX4) rfl in_X4 (by decide) (in_t1 (List.mem_of_getElem? (i := 201) rfl) rfl) d) nx_getf
theorem lk_3_347p {q : xM} {pc : Nat} (hq : (xm_y q).cls = "RobotCellHouse$Doer") (d : decode (xm_b q) pc = .ok (.putfield 347, 3)) : e_EOq eft cls elay eI q pc (0, ei_putf eft elay 0 15 0 (pc + 3), 0, 0) := e_st (I := eI) (by rw [hq]; exact er_putf (ci := 0) (k := 15) (ix := 347) (N := 20) (fk := 0) (C := RX0) (T := TX0) (ty0 := tyX0) (ty := .int) rfl in_X0 tyX0_ok nmX0 (by decide) (in_t2 (List.mem_of_getElem? (i := 188) rfl) rfl) rfl rfl x_fit_int d) nx_putf
theorem lk_3_350 {q : xM} {pc : Nat} (hq : (xm_y q).cls = "RobotCellHouse$Doer") (d : decode (xm_b q) pc = .ok (.invokevirtual 350, 3)) : e_EOq eft cls elay eI q pc (2, e_nof, 39, 2) := e_ca (I := eI) (q' := n_39) rfl (by rw [hq]; exact xr_callV (q' := n_39) (ix := 350) (n := 1) (in_t7 (List.mem_of_getElem? (i := 16) rfl) rfl) good_w (in_t1 (List.mem_of_getElem? (i := 4) rfl) rfl) (in_t7 (List.mem_of_getElem? (i := 214) rfl) rfl) (in_t7 (List.mem_of_getElem? (i := 14) rfl) rfl) (in_t7 (List.mem_of_getElem? (i := 15) rfl) rfl) (by decide +kernel) (by decide +kernel) (by decide +kernel) d)
end
end
