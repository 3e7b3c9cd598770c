noncomputable section
/-! the law: what holds between two calls -/
def Bk (c : Int) : Prop := 0 ≤ c ∧ c ≤ 274
def Bm (c : Int) : Prop := 275 ≤ c ∧ c ≤ 356
theorem Bk_B : e_BB Bk := Or.inl (fun _ => Iff.rfl)
theorem Bm_B : e_BB Bm := Or.inr (fun _ => Iff.rfl)
def lw0 (u : eW) : Prop := e_all u ∧ e_z0 u ∧ e_wB eft elay Bk u ∧ e_wB eft elay Bm u ∧ kRel (e_PB Bk u) ∧ mRel (e_PB Bm u)
def lw3 (u : eW) : Prop := u 275 9 = u 1 0 ∧ u 275 3 = u 0 13 ∧ u 275 10 = u 0 11
def lwR (u : eW) : Prop := lw0 u ∧ lw3 u
def law_GC (L : Nat) (xs : Nat → Int32) (code : Nat → Nat → eE) (B : Int → Prop) (G : eS → Prop) : Prop := ∀ (M' na pc : Nat) (f : eS → Option eS) (st : List eV) (l0 : eL) (u : eW) (Q' : List eV → eW → Prop), codeL L xs 0 pc = (2, f, M', na) → e_may 20 elay 500 M' na (eI M') st (st.take na).reverse (st.drop na) = true → e_wB eft elay B u → e_all u → e_z0 u → (∀ x ∈ st.take na, e_vB B x) → e_Ok 20 elay code eI 500 M' (0, e_ent 0 (st.take na).reverse, [], e_PB B u) Q' → (∀ r w1 v, Q' r w1 → e_Lf B u w1 v → G (pc + 3, l0, r ++ st.drop na, v)) → G (pc, l0, st, u)
theorem L_rng (n : Int32) : -2147483648 ≤ n.toInt ∧ n.toInt ≤ 2147483647 := ⟨Int32.le_toInt n, Int32.toInt_le n⟩
theorem L_b01 (z : Int) : 0 ≤ (if z = 0 then (0 : Int) else 1) ∧ (if z = 0 then (0 : Int) else 1) ≤ 1 := by split <;> decide
theorem L_b32 (z : Int) : -2147483648 ≤ (if z = 0 then (0 : Int) else 1) ∧ (if z = 0 then (0 : Int) else 1) ≤ 2147483647 := by split <;> decide
/-- arguments of a call: one reference, then numbers -/
def L_isK (l : List eV) : Bool := l.all (fun x => !(Nat.beq x.1 1) || decide (x.2 = 0))
def L_isM (l : List eV) : Bool := l.all (fun x => !(Nat.beq x.1 1) || decide (x.2 = 275))
theorem L_vB {l : List eV} (h : L_isK l = true) : ∀ x ∈ l, e_vB Bk x := fun x hx e => by
  have q := List.all_eq_true.mp h x hx
  simp only [Bool.or_eq_true, Bool.not_eq_true'] at q
  rcases q with q | q
  · rw [e] at q
    cases q
  · exact Or.inl (by have := of_decide_eq_true q; unfold Bk; omega)
theorem L_vBm {l : List eV} (h : L_isM l = true) : ∀ x ∈ l, e_vB Bm x := fun x hx e => by
  have q := List.all_eq_true.mp h x hx
  simp only [Bool.or_eq_true, Bool.not_eq_true'] at q
  rcases q with q | q
  · rw [e] at q
    cases q
  · exact Or.inl (by have := of_decide_eq_true q; unfold Bm; omega)
theorem L_arg {L : Nat} {xs : Nat → Int32} {G : eS → Prop} (hS : e_GS (codeL L xs) 0 G) {pc : Nat} {j i : Int} {l : eL} {st : List eV} {w : eW} (c0 : codeL L xs 0 pc = (0, ei_load 0 2 (pc + 1), 0, 0)) (c1 : codeL L xs 0 (pc + 1) = (0, ei_load 3 0 (pc + 2), 0, 0)) (c2 : codeL L xs 0 (pc + 2) = (0, ei_push (0, j) (pc + 3), 0, 0)) (c3 : codeL L xs 0 (pc + 3) = (0, ei_bin eF_add (pc + 4), 0, 0)) (c4 : codeL L xs 0 (pc + 4) = (0, e_S (g_scd L xs (pc + 5)), 0, 0)) (h0 : e_find l 0 = some (1, 362)) (h3 : e_find l 3 = some (0, i)) (hi : 0 ≤ i) (hj : 0 ≤ j ∧ j ≤ 5) (hL : i + 5 < L) (hL2 : L ≤ 3072) (h : G (pc + 5, l, (0, (xs (i + j).toNat).toInt) :: st, w)) : G (pc, l, st, w) := by
  refine e_GS.load hS h0 c0 rfl ?_
  refine e_GS.load hS h3 c1 rfl ?_
  refine e_GS.step hS (t' := (pc + 3, l, (0, j) :: (0, i) :: (1, 362) :: st, w)) c2 rfl ?_
  refine e_GS.add hS (z := i + j) c3 rfl (by omega) ?_
  refine e_GS.step hS (t' := (pc + 5, l, (0, (xs (i + j).toNat).toInt) :: st, w)) c4 ?_ h
  have e : g_scd L xs (pc + 5) ((0, i + j) :: (1, 362) :: st) = some (pc + 5, (0, (xs (i + j).toNat).toInt) :: st) := if_pos ⟨rfl, by omega, by omega⟩
  show (g_scd L xs (pc + 5) ((0, i + j) :: (1, 362) :: st)).map _ = _
  rw [e]
  rfl
theorem L_bool {L : Nat} {xs : Nat → Int32} {G : eS → Prop} (hS : e_GS (codeL L xs) 0 G) {pc : Nat} {z : Int} {l : eL} {st : List eV} {w : eW} (c0 : codeL L xs 0 pc = (0, ei_if1 0 (pc + 7) (pc + 3), 0, 0)) (c1 : codeL L xs 0 (pc + 3) = (0, ei_push (0, 1) (pc + 4), 0, 0)) (c2 : codeL L xs 0 (pc + 4) = (0, ei_goto (pc + 8), 0, 0)) (c3 : codeL L xs 0 (pc + 7) = (0, ei_push (0, 0) (pc + 8), 0, 0)) (h : G (pc + 8, l, (0, if z = 0 then 0 else 1) :: st, w)) : G (pc, l, (0, z) :: st, w) := by
  refine e_GS.if1 hS c0 (fun q => ?_) (fun q => ?_)
  · replace q : z = 0 := q
    rw [if_pos q] at h
    exact e_GS.step hS (t' := (pc + 8, l, (0, 0) :: st, w)) c3 rfl h
  · replace q : ¬ z = 0 := q
    rw [if_neg q] at h
    refine e_GS.step hS (t' := (pc + 4, l, (0, 1) :: st, w)) c1 rfl ?_
    exact e_GS.step hS (t' := (pc + 8, l, (0, 1) :: st, w)) c2 rfl h
theorem L_kAl {u : eW} (h : e_all u) : kAl (e_PB Bk u) := fun c k c0 c1 => by
  rw [e_PB_in ⟨c0, c1⟩]
  exact h c k
theorem e_Lf.val {B : Int → Prop} {u w1 v : eW} (h : e_Lf B u w1 v) {c k : Int} (hc : B c) : kn1 (w1 c k) → v c k = w1 c k := fun q => by
  have e := h.2.1 c k q.okz
  rw [e_PB_in hc] at e
  exact e
theorem e_wB.eq {B : Int → Prop} {u v : eW} (h : e_wB eft elay B u) (he : ∀ c k, B c → v c k = u c k) : e_wB eft elay B v := by
  refine ⟨fun c k hc hr => ?_, fun c k ci n hc hl h0 h1 => ?_⟩
  · rw [he c k hc]
    exact h.1 c k hc hr
  · rw [he c k hc]
    exact h.2 c k ci n hc hl h0 h1
theorem e_PB_eq {B : Int → Prop} {u v : eW} (he : ∀ c k, B c → v c k = u c k) : e_PB B v = e_PB B u := funext fun c => funext fun k => by
  by_cases hc : B c
  · rw [e_PB_in hc, e_PB_in hc, he c k hc]
  · rw [e_PB_no hc, e_PB_no hc]
theorem L_k {u w1 v : eW} (h : lw0 u) (hf : e_Lf Bk u w1 v) (hr : kRelF w1) : lw0 v := by
  obtain ⟨h1, h2, h3, h4, h5, h6⟩ := h
  obtain ⟨f1, f2, f3, f4, f5, f6⟩ := hf
  have e : ∀ c k, Bm c → v c k = u c k := fun c k hc => f3 c k (fun q => by unfold Bm at hc; unfold Bk at q; omega)
  exact ⟨f5, f6, f4, h4.eq e, hr _ f2 (L_kAl f5), by rw [e_PB_eq e]; exact h6⟩
theorem hTy_cases (c k : Int) : hTy c k = (1, 0) ∨ (hTy c k = (-2147483648, 2147483647) ∧ 275 ≤ c ∧ c ≤ 356) ∨ (c = 275 ∧ (k = 5 ∨ k = 6 ∨ k = 118 ∨ k = 9 ∨ k = 88 ∨ k = 95)) ∨ c = 281 := by
  have hF : ∀ n : Nat, n < 119 → (x_nthP hFld n = (1, 0) ∨ x_nthP hFld n = (-2147483648, 2147483647) ∨ n = 5 ∨ n = 6 ∨ n = 118 ∨ n = 9 ∨ n = 88 ∨ n = 95) := by decide +kernel
  have hA : ∀ n : Nat, n < 80 → (x_nthP hArr n = (1, 0) ∨ x_nthP hArr n = (-2147483648, 2147483647) ∨ n = 4) := by decide +kernel
  have lF : hFld.length = 119 := by decide +kernel
  have lA : hArr.length = 80 := by decide +kernel
  unfold hTy
  split
  · by_cases e : c = 275
    · rw [if_pos e]
      by_cases hk : k.toNat < 119
      · have q := hF _ hk
        rcases q with q | q | q
        · exact Or.inl q
        · exact Or.inr (Or.inl ⟨q, by omega, by omega⟩)
        · exact Or.inr (Or.inr (Or.inl ⟨e, by omega⟩))
      · refine Or.inl ?_
        unfold x_nthP
        rw [x_at_eq, List.getElem?_eq_none (by omega)]
    · rw [if_neg e]
      exact Or.inl rfl
  · exact Or.inl rfl
  · rename_i n hn
    by_cases hk : n < 80
    · rcases hA n hk with q | q | q
      · exact Or.inl q
      · exact Or.inr (Or.inl ⟨q, by omega, by omega⟩)
      · exact Or.inr (Or.inr (Or.inr (by omega)))
    · refine Or.inl ?_
      unfold x_nthP
      rw [x_at_eq, List.getElem?_eq_none (by omega)]
theorem hTz_of {w x : eW} (h8 : e_Has hT8 w) (hm : mor w (e_PB Bm x)) (ha : e_all x) : e_Has hTz (e_PB Bm x) := fun c k hl => by
  by_cases q5 : c = 275 ∧ (k = 5 ∨ k = 6 ∨ k = 118)
  · have e : hTz c k = (1, 0) := if_pos q5
    rw [e] at hl
    exact absurd hl (by decide)
  have ez : hTz c k = hTy c k := if_neg q5
  rw [ez] at hl ⊢
  by_cases q8 : (c = 275 ∧ (k = 9 ∨ k = 88 ∨ k = 95)) ∨ c = 281
  · have e8 : hT8 c k = hTy c k := if_pos q8
    have q := h8 c k (by rw [e8]; exact hl)
    rw [e8] at q
    have hz : inZ (w c k) := by
      unfold inZ
      rcases q8 with ⟨rfl, rfl | rfl | rfl⟩ | rfl
      · replace q : (0 : Int) ≤ w 275 9 ∧ w 275 9 ≤ 4000 := q
        omega
      · replace q : (0 : Int) ≤ w 275 88 ∧ w 275 88 ≤ 7 := q
        omega
      · replace q : (0 : Int) ≤ w 275 95 ∧ w 275 95 ≤ 1 := q
        omega
      · replace q : (-128 : Int) ≤ w 281 k ∧ w 281 k ≤ 127 := q
        omega
    rw [hm c k hz]
    exact q
  · rcases hTy_cases c k with e | ⟨e, c0, c1⟩ | e | e
    · rw [e] at hl
      exact absurd hl (by decide)
    · rw [e, e_PB_in ⟨c0, c1⟩]
      exact ha c k
    · omega
    · omega
theorem L_m {u w1 v : eW} (h : lw0 u) (hf : e_Lf Bm u w1 v) (hr : mRelF w1) : lw0 v := by
  obtain ⟨h1, h2, h3, h4, h5, h6⟩ := h
  obtain ⟨f1, f2, f3, f4, f5, f6⟩ := hf
  have e : ∀ c k, Bk c → v c k = u c k := fun c k hc => f3 c k (fun q => by unfold Bk at hc; unfold Bm at q; omega)
  have hm : mor w1 (e_PB Bm v) := fun c k q => f2 c k (kn1.okz q)
  exact ⟨f5, f6, h3.eq e, f4, by rw [e_PB_eq e]; exact h5, hr.1 _ hm (hTz_of hr.2 hm f5)⟩
theorem L_kty {w : eW} (q : kRel w) : (0 ≤ w 1 0 ∧ w 1 0 ≤ 4000) ∧ (0 ≤ w 0 13 ∧ w 0 13 ≤ 1) ∧ (0 ≤ w 0 11 ∧ w 0 11 ≤ 4) := ⟨e_Has.get q.2.1 (c := 1) (k := 0) (lo := 0) (hi := 4000) rfl (by decide), q.2.2.1.1, e_Has.get q.1 (c := 0) (k := 11) (lo := 0) (hi := 4) rfl (by decide)⟩
theorem L_len {u : eW} (h : lw0 u) : (0 ≤ u 1 0 ∧ u 1 0 ≤ 4000) ∧ (0 ≤ u 0 13 ∧ u 0 13 ≤ 1) ∧ (0 ≤ u 0 11 ∧ u 0 11 ≤ 4) := by
  have q := h.2.2.2.2.1
  have b : ∀ c k : Int, 0 ≤ c → c ≤ 274 → e_PB Bk u c k = u c k := fun c k c0 c1 => e_PB_in ⟨c0, c1⟩
  have q1 := L_kty q
  rw [b 1 0 (by decide) (by decide), b 0 13 (by decide) (by decide), b 0 11 (by decide) (by decide)] at q1
  exact q1
theorem L_nums {u w1 v w2 v2 : eW} (h : lw0 u) (hf1 : e_Lf Bk u w1 v) (hf2 : e_Lf Bm v w2 v2) : e_PB Bk u 0 13 = u 0 13 ∧ e_PB Bk u 1 0 = u 1 0 ∧ e_PB Bk u 0 11 = u 0 11 ∧ v2 0 13 = v 0 13 ∧ v2 1 0 = v 1 0 ∧ v2 0 11 = v 0 11 ∧ e_PB Bm v 275 3 = v 275 3 ∧ e_PB Bm v 275 9 = v 275 9 ∧ e_PB Bm v 275 10 = v 275 10 ∧ v 275 3 = u 275 3 ∧ v 275 9 = u 275 9 ∧ v 275 10 = u 275 10 :=
  ⟨e_PB_in (by unfold Bk; omega), e_PB_in (by unfold Bk; omega), e_PB_in (by unfold Bk; omega), hf2.2.2.1 0 13 (by unfold Bm; omega), hf2.2.2.1 1 0 (by unfold Bm; omega), hf2.2.2.1 0 11 (by unfold Bm; omega), e_PB_in (by unfold Bm; omega), e_PB_in (by unfold Bm; omega), e_PB_in (by unfold Bm; omega), hf1.2.2.1 275 3 (by unfold Bk; omega), hf1.2.2.1 275 9 (by unfold Bk; omega), hf1.2.2.1 275 10 (by unfold Bk; omega)⟩
theorem lw3_same {u w1 v w2 v2 : eW} (h0 : lw0 u) (h3 : lw3 u) (hf1 : e_Lf Bk u w1 v) (e1 : km3 (e_PB Bk u) w1) (hf2 : e_Lf Bm v w2 v2) (e2 : sm3 (e_PB Bm v) w2) : lw3 v2 := by
  obtain ⟨p13, p10, p11, o13, o10, o11, q3, q9, q10, r3, r9, r10⟩ := L_nums h0 hf1 hf2
  obtain ⟨y9, y3, y10⟩ := h3
  unfold km3 at e1
  unfold sm3 at e2
  have f13 := hf1.val (c := 0) (k := 13) (by unfold Bk; omega)
  have f10 := hf1.val (c := 1) (k := 0) (by unfold Bk; omega)
  have f11 := hf1.val (c := 0) (k := 11) (by unfold Bk; omega)
  have t3 := hf2.val (c := 275) (k := 3) (by unfold Bm; omega)
  have t9 := hf2.val (c := 275) (k := 9) (by unfold Bm; omega)
  have t10 := hf2.val (c := 275) (k := 10) (by unfold Bm; omega)
  have a13 := h0.1 0 13
  have a10 := h0.1 1 0
  have a11 := h0.1 0 11
  have b3 := h0.1 275 3
  have b9 := h0.1 275 9
  have b10 := h0.1 275 10
  unfold kn1 at a13 a10 a11 b3 b9 b10 f13 f10 f11 t3 t9 t10
  unfold lw3
  omega
end
