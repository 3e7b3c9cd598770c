noncomputable section
/-! the class: what its reader leaves as it was -/
/-- where the reader's rows lie; cd: the code that is written -/
def kRw (cd : Int) (w : eW) : Prop := isCd cd ∧ w 1 3 = cd ∧ w 1 4 = 5 ∧ w 1 15 = 6 ∧ w 1 16 = 7 ∧ w cd 3 = cd + 1 ∧ w cd 4 = cd + 2
theorem isCd.n {cd : Int} (h : isCd cd) : cd ≠ 1 ∧ cd ≠ 5 ∧ cd ≠ 6 ∧ cd ≠ 7 ∧ cd + 1 ≠ 1 ∧ cd + 1 ≠ 5 ∧ cd + 2 ≠ 1 ∧ cd + 2 ≠ 5 ∧ 2 ≤ cd := by
  unfold isCd at h
  omega
/-- what the reader of the class leaves: the text, and a fault that there was -/
def kq (cd : Int) (w w' : eW) : Prop := (∀ i, w' 5 i = w 5 i) ∧ w' 1 0 = w 1 0 ∧ (kRw cd w → kRw cd w') ∧ (w 1 1 ≠ 0 → w' 1 1 = w 1 1 ∧ w' 1 2 = w 1 2)
theorem kq.r {cd : Int} {w : eW} : kq cd w w := ⟨fun _ => rfl, rfl, fun h => h, fun _ => ⟨rfl, rfl⟩⟩
theorem kq.tr {cd : Int} {v v1 v2 : eW} (h : kq cd v v1) (h' : kq cd v1 v2) : kq cd v v2 := ⟨fun i => (h'.1 i).trans (h.1 i), h'.2.1.trans h.2.1, fun g => h'.2.2.1 (h.2.2.1 g), fun g => ⟨((h'.2.2.2 (by rw [(h.2.2.2 g).1]; exact g)).1).trans (h.2.2.2 g).1, ((h'.2.2.2 (by rw [(h.2.2.2 g).1]; exact g)).2).trans (h.2.2.2 g).2⟩⟩
theorem kq.rf {cd : Int} {v v1 : eW} (h : kq cd v v1) (g : kRw cd v) : kRw cd v1 := h.2.2.1 g
/-- a write somewhere else -/
theorem kq.up {cd : Int} {v v1 v2 : eW} {c i z : Int} (h : kq cd v v1) (hc : isCd cd) (hv : e_up v1 c i z = v2) (h1 : c ≠ 5) (h2 : c = 1 → i ≠ 0 ∧ i ≠ 1 ∧ i ≠ 2 ∧ i ≠ 3 ∧ i ≠ 4 ∧ i ≠ 15 ∧ i ≠ 16) (h3 : c = cd → i ≠ 3 ∧ i ≠ 4) : kq cd v v2 := h.tr (by
  subst hv
  have n := hc.n
  have e : ∀ k, (c = 1 → i ≠ k) → e_up v1 c i z 1 k = v1 1 k := fun k g => by
    by_cases e1 : c = 1
    · exact e_up_ne _ _ (Or.inr (fun e => g e1 e.symm))
    · exact e_up_ne _ _ (Or.inl (fun e => e1 e.symm))
  have e' : ∀ k, (c = cd → i ≠ k) → e_up v1 c i z cd k = v1 cd k := fun k g => by
    by_cases e1 : c = cd
    · exact e_up_ne _ _ (Or.inr (fun e => g e1 e.symm))
    · exact e_up_ne _ _ (Or.inl (fun e => e1 e.symm))
  refine ⟨fun i => e_up_ne _ _ (Or.inl (fun e => h1 e.symm)), e _ (fun g => (h2 g).1), fun g => ?_, fun _ => ⟨e _ (fun g => (h2 g).2.1), e _ (fun g => (h2 g).2.2.1)⟩⟩
  obtain ⟨g1, g2, g3, g4, g5, g6, g7⟩ := g
  exact ⟨g1, (e _ (fun g => (h2 g).2.2.2.1)).trans g2, (e _ (fun g => (h2 g).2.2.2.2.1)).trans g3, (e _ (fun g => (h2 g).2.2.2.2.2.1)).trans g4, (e _ (fun g => (h2 g).2.2.2.2.2.2)).trans g5, (e' _ (fun g => (h3 g).1)).trans g6, (e' _ (fun g => (h3 g).2)).trans g7⟩)
/-- a fault that there was not -/
theorem kq.upS {cd : Int} {v v1 v2 : eW} {k z : Int} (h : kq cd v v1) (hc : isCd cd) (hz : v 1 1 = 0) (hv : e_up v1 1 k z = v2) (h1 : k = 1 ∨ k = 2) : kq cd v v2 := by
  subst hv
  have n := hc.n
  have e : ∀ j, j ≠ k → e_up v1 1 k z 1 j = v1 1 j := fun j g => e_up_ne _ _ (Or.inr g)
  have e' : ∀ j, e_up v1 1 k z cd j = v1 cd j := fun j => e_up_ne _ _ (Or.inl n.1)
  refine ⟨fun i => (e_up_ne _ _ (Or.inl (by decide))).trans (h.1 i), (e _ (by omega)).trans h.2.1, fun g => ?_, fun g => absurd hz g⟩
  obtain ⟨g1, g2, g3, g4, g5, g6, g7⟩ := h.2.2.1 g
  exact ⟨g1, (e _ (by omega)).trans g2, (e _ (by omega)).trans g3, (e _ (by omega)).trans g4, (e _ (by omega)).trans g5, (e' _).trans g6, (e' _).trans g7⟩

def kP (M k : Nat) : Prop := ∀ (d : Nat) (w : eW) (cd : Int), kRw cd w → e_Pn 20 elay kcode eI k d M (0, [(0, (1, 1))], [], w) (fun r w' => r = [] ∧ kq cd w w')
theorem u_242 {n d : Nat} {w : eW} {cd : Int} (hR : kRw cd w) {x : Int} {y : Int} {z : Int} : e_Pn 20 elay kcode eI n d 242 (0, [(0, (0, x)), (1, (0, y)), (2, (0, z))], [], w) (fun r w' => (∃ z : Int, r = [(0, z)]) ∧ kq cd w w') := by
  have hn := hR.1.n
  refine e_Pn.run (t' := (2, [(0, (0, x)), (1, (0, y)), (2, (0, z))], [(0, x), (0, y)], w)) kAlk 2 rfl ?_
  refine e_Pn.if2 kAlk rfl (fun h1 => ?_) (fun h1 => ?_)
  · show e_Pn 20 elay kcode eI n d 242 (14, [(0, (0, x)), (1, (0, y)), (2, (0, z))], [], w) _
    refine e_Pn.run (t' := (15, [(0, (0, x)), (1, (0, y)), (2, (0, z))], [(0, 0)], w)) kAlk 1 rfl ?_
    exact e_Pn.ret4 rfl ⟨⟨_, rfl⟩, kq.r⟩
  · show e_Pn 20 elay kcode eI n d 242 (5, [(0, (0, x)), (1, (0, y)), (2, (0, z))], [], w) _
    refine e_Pn.run (t' := (7, [(0, (0, x)), (1, (0, y)), (2, (0, z))], [(0, z), (0, x)], w)) kAlk 2 rfl ?_
    refine e_Pn.if2 kAlk rfl (fun h2 => ?_) (fun h2 => ?_)
    · show e_Pn 20 elay kcode eI n d 242 (14, [(0, (0, x)), (1, (0, y)), (2, (0, z))], [], w) _
      refine e_Pn.run (t' := (15, [(0, (0, x)), (1, (0, y)), (2, (0, z))], [(0, 0)], w)) kAlk 1 rfl ?_
      exact e_Pn.ret4 rfl ⟨⟨_, rfl⟩, kq.r⟩
    · show e_Pn 20 elay kcode eI n d 242 (10, [(0, (0, x)), (1, (0, y)), (2, (0, z))], [], w) _
      refine e_Pn.run (t' := (15, [(0, (0, x)), (1, (0, y)), (2, (0, z))], [(0, 1)], w)) kAlk 2 rfl ?_
      exact e_Pn.ret4 rfl ⟨⟨_, rfl⟩, kq.r⟩
theorem u_21 {n d : Nat} {w : eW} {cd : Int} (hR : kRw cd w) {x : Int} {y : Int} : e_Pn 20 elay kcode eI n d 21 (0, [(0, (1, cd)), (1, (0, x)), (2, (0, y))], [], w) (fun r w' => (∃ z : Int, r = [(0, z)]) ∧ kq cd w w') := by
  have hn := hR.1.n
  refine e_Pn.run (t' := (1, [(0, (1, cd)), (1, (0, x)), (2, (0, y))], [(1, cd)], w)) kAlk 1 rfl ?_
  refine e_Pn.getf (z := w cd 0) kAlk rfl rfl rfl (fun b1 => ?_)
  refine e_Pn.run (t' := (7, [(0, (1, cd)), (1, (0, x)), (2, (0, y))], [(0, 4000), (0, w cd 0)], w)) kAlk 1 rfl ?_
  refine e_Pn.if2 kAlk rfl (fun h2 => ?_) (fun h2 => ?_)
  · show e_Pn 20 elay kcode eI n d 21 (17, [(0, (1, cd)), (1, (0, x)), (2, (0, y))], [], w) _
    refine e_Pn.run (t' := (18, [(0, (1, cd)), (1, (0, x)), (2, (0, y))], [(1, cd)], w)) kAlk 1 rfl ?_
    refine e_Pn.getr (z := cd + 2) kAlk rfl rfl (kq.r.rf hR).2.2.2.2.2.2 (by omega) ?_
    refine e_Pn.run (t' := (22, [(0, (1, cd)), (1, (0, x)), (2, (0, y))], [(1, cd), (1, cd + 2)], w)) kAlk 1 rfl ?_
    refine e_Pn.getf (z := w cd 0) kAlk rfl rfl rfl (fun b3 => ?_)
    refine e_Pn.run (t' := (28, [(0, (1, cd)), (1, (0, x)), (2, (0, y))], [(0, 6), (0, y), (0, w cd 0), (1, cd + 2)], w)) kAlk 2 rfl ?_
    refine e_Pn.bin0 kAlk rfl (fun z4 hz4 => ?_)
    refine e_Pn.run (t' := (30, [(0, (1, cd)), (1, (0, x)), (2, (0, y))], [(0, x), (0, z4), (0, w cd 0), (1, cd + 2)], w)) kAlk 1 rfl ?_
    refine e_Pn.bin0 kAlk rfl (fun z5 hz5 => ?_)
    refine e_Pn.ast kAlk rfl (lD2 (d := cd) (by omega) hR.1) rfl (fun b6 b7 => ?_)
    generalize hw8 : e_up w (cd + 2) (w cd 0) z5 = w8
    have q9 : kq cd w w8 := kq.up kq.r hR.1 hw8 (by omega) (fun g => absurd g (by omega)) (fun g => absurd g (by omega))
    refine e_Pn.run (t' := (34, [(0, (1, cd)), (1, (0, x)), (2, (0, y))], [(1, cd), (1, cd)], w8)) kAlk 2 rfl ?_
    refine e_Pn.getf (z := w8 cd 0) kAlk rfl rfl rfl (fun b10 => ?_)
    refine e_Pn.run (t' := (38, [(0, (1, cd)), (1, (0, x)), (2, (0, y))], [(0, 1), (0, w8 cd 0), (1, cd)], w8)) kAlk 1 rfl ?_
    refine e_Pn.bin0 kAlk rfl (fun z11 hz11 => ?_)
    refine e_Pn.putf kAlk rfl rfl ?_
    generalize hw12 : e_up w8 cd 0 z11 = w12
    have q13 : kq cd w w12 := kq.up q9 hR.1 hw12 hn.2.1 (fun g => absurd g hn.1) (fun _ => by decide)
    refine e_Pn.run (t' := (43, [(0, (1, cd)), (1, (0, x)), (2, (0, y))], [(1, cd)], w12)) kAlk 1 rfl ?_
    refine e_Pn.getf (z := w12 cd 0) kAlk rfl rfl rfl (fun b14 => ?_)
    refine e_Pn.run (t' := (47, [(0, (1, cd)), (1, (0, x)), (2, (0, y))], [(0, 1), (0, w12 cd 0)], w12)) kAlk 1 rfl ?_
    refine e_Pn.bin0 kAlk rfl (fun z15 hz15 => ?_)
    exact e_Pn.ret1 rfl ⟨⟨_, rfl⟩, q13⟩
  · show e_Pn 20 elay kcode eI n d 21 (10, [(0, (1, cd)), (1, (0, x)), (2, (0, y))], [], w) _
    refine e_Pn.run (t' := (11, [(0, (1, cd)), (1, (0, x)), (2, (0, y))], [(1, cd)], w)) kAlk 1 rfl ?_
    refine e_Pn.getf (z := w cd 0) kAlk rfl rfl rfl (fun b16 => ?_)
    refine e_Pn.run (t' := (15, [(0, (1, cd)), (1, (0, x)), (2, (0, y))], [(0, 1), (0, w cd 0)], w)) kAlk 1 rfl ?_
    refine e_Pn.bin0 kAlk rfl (fun z17 hz17 => ?_)
    exact e_Pn.ret1 rfl ⟨⟨_, rfl⟩, kq.r⟩
theorem u_22 {n d : Nat} {w : eW} {cd : Int} (hR : kRw cd w) {x : Int} {y : Int} : e_Pn 20 elay kcode eI n d 22 (0, [(0, (1, cd)), (1, (0, x)), (2, (0, y))], [], w) (fun r w' => r = [] ∧ kq cd w w') := by
  have hn := hR.1.n
  refine e_Pn.run (t' := (1, [(0, (1, cd)), (1, (0, x)), (2, (0, y))], [(0, x)], w)) kAlk 1 rfl ?_
  refine e_Pn.if1 kAlk rfl (fun h1 => ?_) (fun h1 => ?_)
  · show e_Pn 20 elay kcode eI n d 22 (32, [(0, (1, cd)), (1, (0, x)), (2, (0, y))], [], w) _
    exact e_Pn.ret0 rfl ⟨rfl, kq.r⟩
  · show e_Pn 20 elay kcode eI n d 22 (4, [(0, (1, cd)), (1, (0, x)), (2, (0, y))], [], w) _
    refine e_Pn.run (t' := (6, [(0, (1, cd)), (1, (0, x)), (2, (0, y))], [(1, cd), (0, x)], w)) kAlk 2 rfl ?_
    refine e_Pn.getf (z := w cd 0) kAlk rfl rfl rfl (fun b2 => ?_)
    refine e_Pn.if2 kAlk rfl (fun h3 => ?_) (fun h3 => ?_)
    · show e_Pn 20 elay kcode eI n d 22 (32, [(0, (1, cd)), (1, (0, x)), (2, (0, y))], [], w) _
      exact e_Pn.ret0 rfl ⟨rfl, kq.r⟩
    · show e_Pn 20 elay kcode eI n d 22 (12, [(0, (1, cd)), (1, (0, x)), (2, (0, y))], [], w) _
      refine e_Pn.run (t' := (13, [(0, (1, cd)), (1, (0, x)), (2, (0, y))], [(1, cd)], w)) kAlk 1 rfl ?_
      refine e_Pn.getr (z := cd + 2) kAlk rfl rfl (kq.r.rf hR).2.2.2.2.2.2 (by omega) ?_
      refine e_Pn.run (t' := (20, [(0, (1, cd)), (1, (0, x)), (2, (0, y))], [(0, 6), (0, y), (0, x), (1, cd + 2)], w)) kAlk 3 rfl ?_
      refine e_Pn.bin0 kAlk rfl (fun z4 hz4 => ?_)
      refine e_Pn.run (t' := (22, [(0, (1, cd)), (1, (0, x)), (2, (0, y))], [(1, cd), (0, z4), (0, x), (1, cd + 2)], w)) kAlk 1 rfl ?_
      refine e_Pn.getr (z := cd + 2) kAlk rfl rfl (kq.r.rf hR).2.2.2.2.2.2 (by omega) ?_
      refine e_Pn.run (t' := (26, [(0, (1, cd)), (1, (0, x)), (2, (0, y))], [(0, x), (1, cd + 2), (0, z4), (0, x), (1, cd + 2)], w)) kAlk 1 rfl ?_
      refine e_Pn.ald (z := w (cd + 2) x) kAlk rfl rfl (fun b5 b6 => ?_)
      refine e_Pn.run (t' := (29, [(0, (1, cd)), (1, (0, x)), (2, (0, y))], [(0, 63), (0, w (cd + 2) x), (0, z4), (0, x), (1, cd + 2)], w)) kAlk 1 rfl ?_
      refine e_Pn.bin0 kAlk rfl (fun z7 hz7 => ?_)
      refine e_Pn.bin0 kAlk rfl (fun z8 hz8 => ?_)
      refine e_Pn.ast kAlk rfl (lD2 (d := cd) (by omega) hR.1) rfl (fun b9 b10 => ?_)
      generalize hw11 : e_up w (cd + 2) x z8 = w11
      have q12 : kq cd w w11 := kq.up kq.r hR.1 hw11 (by omega) (fun g => absurd g (by omega)) (fun g => absurd g (by omega))
      exact e_Pn.ret0 rfl ⟨rfl, q12⟩
theorem u_120 {n d : Nat} {w : eW} {cd : Int} (hR : kRw cd w) {x : Int} : e_Pn 20 elay kcode eI n d 120 (0, [(0, (1, 1)), (1, (0, x))], [], w) (fun r w' => (∃ z : Int, r = [(0, z)]) ∧ kq cd w w') := by
  have hn := hR.1.n
  refine e_Pn.run (t' := (1, [(0, (1, 1)), (1, (0, x))], [(0, x)], w)) kAlk 1 rfl ?_
  refine e_Pn.if1 kAlk rfl (fun h1 => ?_) (fun h1 => ?_)
  · show e_Pn 20 elay kcode eI n d 120 (25, [(0, (1, 1)), (1, (0, x))], [], w) _
    refine e_Pn.run (t' := (26, [(0, (1, 1)), (1, (0, x))], [(0, 0)], w)) kAlk 1 rfl ?_
    exact e_Pn.ret1 rfl ⟨⟨_, rfl⟩, kq.r⟩
  · show e_Pn 20 elay kcode eI n d 120 (4, [(0, (1, 1)), (1, (0, x))], [], w) _
    refine e_Pn.run (t' := (6, [(0, (1, 1)), (1, (0, x))], [(1, 1), (0, x)], w)) kAlk 2 rfl ?_
    refine e_Pn.getf (z := w 1 0) kAlk rfl rfl rfl (fun b2 => ?_)
    refine e_Pn.if2 kAlk rfl (fun h3 => ?_) (fun h3 => ?_)
    · show e_Pn 20 elay kcode eI n d 120 (25, [(0, (1, 1)), (1, (0, x))], [], w) _
      refine e_Pn.run (t' := (26, [(0, (1, 1)), (1, (0, x))], [(0, 0)], w)) kAlk 1 rfl ?_
      exact e_Pn.ret1 rfl ⟨⟨_, rfl⟩, kq.r⟩
    · show e_Pn 20 elay kcode eI n d 120 (12, [(0, (1, 1)), (1, (0, x))], [], w) _
      refine e_Pn.run (t' := (13, [(0, (1, 1)), (1, (0, x))], [(1, 1)], w)) kAlk 1 rfl ?_
      refine e_Pn.getr (z := 5) kAlk rfl rfl (kq.r.rf hR).2.2.1 (by omega) ?_
      refine e_Pn.run (t' := (17, [(0, (1, 1)), (1, (0, x))], [(0, x), (1, 5)], w)) kAlk 1 rfl ?_
      refine e_Pn.ald (z := w 5 x) kAlk rfl rfl (fun b4 b5 => ?_)
      refine e_Pn.run (t' := (21, [(0, (1, 1)), (1, (0, x))], [(0, 255), (0, w 5 x)], w)) kAlk 1 rfl ?_
      refine e_Pn.bin0 kAlk rfl (fun z6 hz6 => ?_)
      refine e_Pn.run (t' := (26, [(0, (1, 1)), (1, (0, x))], [(0, z6)], w)) kAlk 1 rfl ?_
      exact e_Pn.ret1 rfl ⟨⟨_, rfl⟩, kq.r⟩
theorem u_121 {n d : Nat} {w : eW} {cd : Int} (hR : kRw cd w) {x : Int} : e_Pn 20 elay kcode eI n d 121 (0, [(0, (0, x))], [], w) (fun r w' => (∃ z : Int, r = [(0, z)]) ∧ kq cd w w') := by
  have hn := hR.1.n
  refine e_Pn.run (t' := (3, [(0, (0, x))], [(0, 48), (0, x)], w)) kAlk 2 rfl ?_
  refine e_Pn.if2 kAlk rfl (fun h1 => ?_) (fun h1 => ?_)
  · show e_Pn 20 elay kcode eI n d 121 (16, [(0, (0, x))], [], w) _
    refine e_Pn.run (t' := (17, [(0, (0, x))], [(0, 0)], w)) kAlk 1 rfl ?_
    exact e_Pn.ret4 rfl ⟨⟨_, rfl⟩, kq.r⟩
  · show e_Pn 20 elay kcode eI n d 121 (6, [(0, (0, x))], [], w) _
    refine e_Pn.run (t' := (9, [(0, (0, x))], [(0, 57), (0, x)], w)) kAlk 2 rfl ?_
    refine e_Pn.if2 kAlk rfl (fun h2 => ?_) (fun h2 => ?_)
    · show e_Pn 20 elay kcode eI n d 121 (16, [(0, (0, x))], [], w) _
      refine e_Pn.run (t' := (17, [(0, (0, x))], [(0, 0)], w)) kAlk 1 rfl ?_
      exact e_Pn.ret4 rfl ⟨⟨_, rfl⟩, kq.r⟩
    · show e_Pn 20 elay kcode eI n d 121 (12, [(0, (0, x))], [], w) _
      refine e_Pn.run (t' := (17, [(0, (0, x))], [(0, 1)], w)) kAlk 2 rfl ?_
      exact e_Pn.ret4 rfl ⟨⟨_, rfl⟩, kq.r⟩
theorem u_122 {n d : Nat} {w : eW} {cd : Int} (hR : kRw cd w) {x : Int} : e_Pn 20 elay kcode eI n d 122 (0, [(0, (0, x))], [], w) (fun r w' => (∃ z : Int, r = [(0, z)]) ∧ kq cd w w') := by
  have hn := hR.1.n
  refine e_Pn.run (t' := (3, [(0, (0, x))], [(0, 97), (0, x)], w)) kAlk 2 rfl ?_
  refine e_Pn.if2 kAlk rfl (fun h1 => ?_) (fun h1 => ?_)
  · show e_Pn 20 elay kcode eI n d 122 (12, [(0, (0, x))], [], w) _
    refine e_Pn.run (t' := (15, [(0, (0, x))], [(0, 65), (0, x)], w)) kAlk 2 rfl ?_
    refine e_Pn.if2 kAlk rfl (fun h2 => ?_) (fun h2 => ?_)
    · show e_Pn 20 elay kcode eI n d 122 (24, [(0, (0, x))], [], w) _
      refine e_Pn.run (t' := (27, [(0, (0, x))], [(0, 48), (0, x)], w)) kAlk 2 rfl ?_
      refine e_Pn.if2 kAlk rfl (fun h3 => ?_) (fun h3 => ?_)
      · show e_Pn 20 elay kcode eI n d 122 (40, [(0, (0, x))], [], w) _
        refine e_Pn.run (t' := (41, [(0, (0, x))], [(0, 0)], w)) kAlk 1 rfl ?_
        exact e_Pn.ret4 rfl ⟨⟨_, rfl⟩, kq.r⟩
      · show e_Pn 20 elay kcode eI n d 122 (30, [(0, (0, x))], [], w) _
        refine e_Pn.run (t' := (33, [(0, (0, x))], [(0, 57), (0, x)], w)) kAlk 2 rfl ?_
        refine e_Pn.if2 kAlk rfl (fun h4 => ?_) (fun h4 => ?_)
        · show e_Pn 20 elay kcode eI n d 122 (40, [(0, (0, x))], [], w) _
          refine e_Pn.run (t' := (41, [(0, (0, x))], [(0, 0)], w)) kAlk 1 rfl ?_
          exact e_Pn.ret4 rfl ⟨⟨_, rfl⟩, kq.r⟩
        · show e_Pn 20 elay kcode eI n d 122 (36, [(0, (0, x))], [], w) _
          refine e_Pn.run (t' := (41, [(0, (0, x))], [(0, 1)], w)) kAlk 2 rfl ?_
          exact e_Pn.ret4 rfl ⟨⟨_, rfl⟩, kq.r⟩
    · show e_Pn 20 elay kcode eI n d 122 (18, [(0, (0, x))], [], w) _
      refine e_Pn.run (t' := (21, [(0, (0, x))], [(0, 90), (0, x)], w)) kAlk 2 rfl ?_
      refine e_Pn.if2 kAlk rfl (fun h5 => ?_) (fun h5 => ?_)
      · show e_Pn 20 elay kcode eI n d 122 (36, [(0, (0, x))], [], w) _
        refine e_Pn.run (t' := (41, [(0, (0, x))], [(0, 1)], w)) kAlk 2 rfl ?_
        exact e_Pn.ret4 rfl ⟨⟨_, rfl⟩, kq.r⟩
      · show e_Pn 20 elay kcode eI n d 122 (24, [(0, (0, x))], [], w) _
        refine e_Pn.run (t' := (27, [(0, (0, x))], [(0, 48), (0, x)], w)) kAlk 2 rfl ?_
        refine e_Pn.if2 kAlk rfl (fun h6 => ?_) (fun h6 => ?_)
        · show e_Pn 20 elay kcode eI n d 122 (40, [(0, (0, x))], [], w) _
          refine e_Pn.run (t' := (41, [(0, (0, x))], [(0, 0)], w)) kAlk 1 rfl ?_
          exact e_Pn.ret4 rfl ⟨⟨_, rfl⟩, kq.r⟩
        · show e_Pn 20 elay kcode eI n d 122 (30, [(0, (0, x))], [], w) _
          refine e_Pn.run (t' := (33, [(0, (0, x))], [(0, 57), (0, x)], w)) kAlk 2 rfl ?_
          refine e_Pn.if2 kAlk rfl (fun h7 => ?_) (fun h7 => ?_)
          · show e_Pn 20 elay kcode eI n d 122 (40, [(0, (0, x))], [], w) _
            refine e_Pn.run (t' := (41, [(0, (0, x))], [(0, 0)], w)) kAlk 1 rfl ?_
            exact e_Pn.ret4 rfl ⟨⟨_, rfl⟩, kq.r⟩
          · show e_Pn 20 elay kcode eI n d 122 (36, [(0, (0, x))], [], w) _
            refine e_Pn.run (t' := (41, [(0, (0, x))], [(0, 1)], w)) kAlk 2 rfl ?_
            exact e_Pn.ret4 rfl ⟨⟨_, rfl⟩, kq.r⟩
  · show e_Pn 20 elay kcode eI n d 122 (6, [(0, (0, x))], [], w) _
    refine e_Pn.run (t' := (9, [(0, (0, x))], [(0, 122), (0, x)], w)) kAlk 2 rfl ?_
    refine e_Pn.if2 kAlk rfl (fun h8 => ?_) (fun h8 => ?_)
    · show e_Pn 20 elay kcode eI n d 122 (36, [(0, (0, x))], [], w) _
      refine e_Pn.run (t' := (41, [(0, (0, x))], [(0, 1)], w)) kAlk 2 rfl ?_
      exact e_Pn.ret4 rfl ⟨⟨_, rfl⟩, kq.r⟩
    · show e_Pn 20 elay kcode eI n d 122 (12, [(0, (0, x))], [], w) _
      refine e_Pn.run (t' := (15, [(0, (0, x))], [(0, 65), (0, x)], w)) kAlk 2 rfl ?_
      refine e_Pn.if2 kAlk rfl (fun h9 => ?_) (fun h9 => ?_)
      · show e_Pn 20 elay kcode eI n d 122 (24, [(0, (0, x))], [], w) _
        refine e_Pn.run (t' := (27, [(0, (0, x))], [(0, 48), (0, x)], w)) kAlk 2 rfl ?_
        refine e_Pn.if2 kAlk rfl (fun h10 => ?_) (fun h10 => ?_)
        · show e_Pn 20 elay kcode eI n d 122 (40, [(0, (0, x))], [], w) _
          refine e_Pn.run (t' := (41, [(0, (0, x))], [(0, 0)], w)) kAlk 1 rfl ?_
          exact e_Pn.ret4 rfl ⟨⟨_, rfl⟩, kq.r⟩
        · show e_Pn 20 elay kcode eI n d 122 (30, [(0, (0, x))], [], w) _
          refine e_Pn.run (t' := (33, [(0, (0, x))], [(0, 57), (0, x)], w)) kAlk 2 rfl ?_
          refine e_Pn.if2 kAlk rfl (fun h11 => ?_) (fun h11 => ?_)
          · show e_Pn 20 elay kcode eI n d 122 (40, [(0, (0, x))], [], w) _
            refine e_Pn.run (t' := (41, [(0, (0, x))], [(0, 0)], w)) kAlk 1 rfl ?_
            exact e_Pn.ret4 rfl ⟨⟨_, rfl⟩, kq.r⟩
          · show e_Pn 20 elay kcode eI n d 122 (36, [(0, (0, x))], [], w) _
            refine e_Pn.run (t' := (41, [(0, (0, x))], [(0, 1)], w)) kAlk 2 rfl ?_
            exact e_Pn.ret4 rfl ⟨⟨_, rfl⟩, kq.r⟩
      · show e_Pn 20 elay kcode eI n d 122 (18, [(0, (0, x))], [], w) _
        refine e_Pn.run (t' := (21, [(0, (0, x))], [(0, 90), (0, x)], w)) kAlk 2 rfl ?_
        refine e_Pn.if2 kAlk rfl (fun h12 => ?_) (fun h12 => ?_)
        · show e_Pn 20 elay kcode eI n d 122 (36, [(0, (0, x))], [], w) _
          refine e_Pn.run (t' := (41, [(0, (0, x))], [(0, 1)], w)) kAlk 2 rfl ?_
          exact e_Pn.ret4 rfl ⟨⟨_, rfl⟩, kq.r⟩
        · show e_Pn 20 elay kcode eI n d 122 (24, [(0, (0, x))], [], w) _
          refine e_Pn.run (t' := (27, [(0, (0, x))], [(0, 48), (0, x)], w)) kAlk 2 rfl ?_
          refine e_Pn.if2 kAlk rfl (fun h13 => ?_) (fun h13 => ?_)
          · show e_Pn 20 elay kcode eI n d 122 (40, [(0, (0, x))], [], w) _
            refine e_Pn.run (t' := (41, [(0, (0, x))], [(0, 0)], w)) kAlk 1 rfl ?_
            exact e_Pn.ret4 rfl ⟨⟨_, rfl⟩, kq.r⟩
          · show e_Pn 20 elay kcode eI n d 122 (30, [(0, (0, x))], [], w) _
            refine e_Pn.run (t' := (33, [(0, (0, x))], [(0, 57), (0, x)], w)) kAlk 2 rfl ?_
            refine e_Pn.if2 kAlk rfl (fun h14 => ?_) (fun h14 => ?_)
            · show e_Pn 20 elay kcode eI n d 122 (40, [(0, (0, x))], [], w) _
              refine e_Pn.run (t' := (41, [(0, (0, x))], [(0, 0)], w)) kAlk 1 rfl ?_
              exact e_Pn.ret4 rfl ⟨⟨_, rfl⟩, kq.r⟩
            · show e_Pn 20 elay kcode eI n d 122 (36, [(0, (0, x))], [], w) _
              refine e_Pn.run (t' := (41, [(0, (0, x))], [(0, 1)], w)) kAlk 2 rfl ?_
              exact e_Pn.ret4 rfl ⟨⟨_, rfl⟩, kq.r⟩
theorem u_124 {n d : Nat} {w : eW} {cd : Int} (hR : kRw cd w) : e_Pn 20 elay kcode eI n d 124 (0, [(0, (1, 1))], [], w) (fun r w' => r = [] ∧ kq cd w w') := by
  have hn := hR.1.n
  refine e_Pn.run (t' := (2, [(1, (0, 0)), (0, (1, 1))], [], w)) kAlk 2 rfl ?_
  have hL1 : ∀ nn3 : Nat, nn3 ≤ n → ∀ (tl4 : eL) (y7 : Int) (w5 : eW), kq cd w w5 → e_Pn 20 elay kcode eI nn3 d 124 (2, (0, (1, 1)) :: (1, (0, y7)) :: tl4, [], w5) (fun r w' => r = [] ∧ kq cd w w') := by
    intro nn3
    induction nn3 with
    | zero => intro _ tl4 y7 w5 _; exact e_Pn.zero
    | succ nn3 ih2 =>
      intro hnnn3 tl4 y7 w5 q6
      refine e_Pn.runS (t' := (3, (0, (1, 1)) :: (1, (0, y7)) :: tl4, [(1, 1)], w5)) kAlk 0 rfl ?_
      refine e_Pn.getf (z := w5 1 7) kAlk rfl rfl rfl (fun b8 => ?_)
      refine e_Pn.run (t' := (7, (0, (1, 1)) :: (1, (0, y7)) :: tl4, [(1, 1), (0, w5 1 7)], w5)) kAlk 1 rfl ?_
      refine e_Pn.getf (z := w5 1 0) kAlk rfl rfl rfl (fun b9 => ?_)
      refine e_Pn.if2 kAlk rfl (fun h10 => ?_) (fun h10 => ?_)
      · show e_Pn 20 elay kcode eI nn3 d 124 (68, (0, (1, 1)) :: (1, (0, y7)) :: tl4, [], w5) _
        exact e_Pn.ret0 rfl ⟨rfl, q6⟩
      · show e_Pn 20 elay kcode eI nn3 d 124 (13, (0, (1, 1)) :: (1, (0, y7)) :: tl4, [], w5) _
        refine e_Pn.run (t' := (15, (0, (1, 1)) :: (1, (0, y7)) :: tl4, [(1, 1), (1, 1)], w5)) kAlk 2 rfl ?_
        refine e_Pn.getf (z := w5 1 7) kAlk rfl rfl rfl (fun b11 => ?_)
        refine e_Pn.callA rfl (fun n9 d9 => u_120 (q6.rf hR)) (fun r13 w14 h12 => ?_)
        obtain ⟨⟨z15, rfl⟩, h12⟩ := h12
        have q16 := q6.tr h12
        show e_Pn 20 elay kcode eI nn3 d 124 (21, (0, (1, 1)) :: (1, (0, y7)) :: tl4, [(0, z15)], w14) _
        refine e_Pn.run (t' := (25, (2, (0, z15)) :: (0, (1, 1)) :: (1, (0, y7)) :: List.filter (e_flt 0 2) tl4, [(0, 35), (0, z15)], w14)) kAlk 3 rfl ?_
        refine e_Pn.if2 kAlk rfl (fun h17 => ?_) (fun h17 => ?_)
        · show e_Pn 20 elay kcode eI nn3 d 124 (33, (2, (0, z15)) :: (0, (1, 1)) :: (1, (0, y7)) :: List.filter (e_flt 0 2) tl4, [], w14) _
          refine e_Pn.run (t' := (36, (2, (0, z15)) :: (0, (1, 1)) :: (1, (0, y7)) :: List.filter (e_flt 0 2) tl4, [(0, 10), (0, z15)], w14)) kAlk 2 rfl ?_
          refine e_Pn.if2 kAlk rfl (fun h18 => ?_) (fun h18 => ?_)
          · show e_Pn 20 elay kcode eI nn3 d 124 (44, (2, (0, z15)) :: (0, (1, 1)) :: (1, (0, y7)) :: List.filter (e_flt 0 2) tl4, [], w14) _
            refine e_Pn.run (t' := (47, (2, (0, z15)) :: (0, (1, 1)) :: (1, (0, y7)) :: List.filter (e_flt 0 2) tl4, [(0, 32), (0, z15)], w14)) kAlk 2 rfl ?_
            refine e_Pn.if2 kAlk rfl (fun h19 => ?_) (fun h19 => ?_)
            · show e_Pn 20 elay kcode eI nn3 d 124 (55, (2, (0, z15)) :: (0, (1, 1)) :: (1, (0, y7)) :: List.filter (e_flt 0 2) tl4, [], w14) _
              refine e_Pn.run (t' := (57, (2, (0, z15)) :: (0, (1, 1)) :: (1, (0, y7)) :: List.filter (e_flt 0 2) tl4, [(1, 1), (1, 1)], w14)) kAlk 2 rfl ?_
              refine e_Pn.getf (z := w14 1 7) kAlk rfl rfl rfl (fun b20 => ?_)
              refine e_Pn.run (t' := (61, (2, (0, z15)) :: (0, (1, 1)) :: (1, (0, y7)) :: List.filter (e_flt 0 2) tl4, [(0, 1), (0, w14 1 7), (1, 1)], w14)) kAlk 1 rfl ?_
              refine e_Pn.bin0 kAlk rfl (fun z21 hz21 => ?_)
              refine e_Pn.putf kAlk rfl rfl ?_
              generalize hw22 : e_up w14 1 7 z21 = w22
              have q23 : kq cd w w22 := kq.up q16 hR.1 hw22 (by decide) (fun _ => by decide) (fun g => absurd g.symm hn.1)
              refine e_Pn.run (t' := (2, (2, (0, z15)) :: (0, (1, 1)) :: (1, (0, y7)) :: List.filter (e_flt 0 2) tl4, [], w22)) kAlk 1 rfl ?_
              exact e_Pn.ord kAlk [0, 1] rfl rfl ((ih2 (by omega) _ y7 w22 q23).le (by omega))
            · show e_Pn 20 elay kcode eI nn3 d 124 (50, (2, (0, z15)) :: (0, (1, 1)) :: (1, (0, y7)) :: List.filter (e_flt 0 2) tl4, [], w14) _
              refine e_Pn.run (t' := (51, (2, (0, z15)) :: (0, (1, 1)) :: (1, (0, y7)) :: List.filter (e_flt 0 2) tl4, [(0, y7)], w14)) kAlk 1 rfl ?_
              refine e_Pn.if1 kAlk rfl (fun h24 => ?_) (fun h24 => ?_)
              · show e_Pn 20 elay kcode eI nn3 d 124 (55, (2, (0, z15)) :: (0, (1, 1)) :: (1, (0, y7)) :: List.filter (e_flt 0 2) tl4, [], w14) _
                refine e_Pn.run (t' := (57, (2, (0, z15)) :: (0, (1, 1)) :: (1, (0, y7)) :: List.filter (e_flt 0 2) tl4, [(1, 1), (1, 1)], w14)) kAlk 2 rfl ?_
                refine e_Pn.getf (z := w14 1 7) kAlk rfl rfl rfl (fun b25 => ?_)
                refine e_Pn.run (t' := (61, (2, (0, z15)) :: (0, (1, 1)) :: (1, (0, y7)) :: List.filter (e_flt 0 2) tl4, [(0, 1), (0, w14 1 7), (1, 1)], w14)) kAlk 1 rfl ?_
                refine e_Pn.bin0 kAlk rfl (fun z26 hz26 => ?_)
                refine e_Pn.putf kAlk rfl rfl ?_
                generalize hw27 : e_up w14 1 7 z26 = w27
                have q28 : kq cd w w27 := kq.up q16 hR.1 hw27 (by decide) (fun _ => by decide) (fun g => absurd g.symm hn.1)
                refine e_Pn.run (t' := (2, (2, (0, z15)) :: (0, (1, 1)) :: (1, (0, y7)) :: List.filter (e_flt 0 2) tl4, [], w27)) kAlk 1 rfl ?_
                exact e_Pn.ord kAlk [0, 1] rfl rfl ((ih2 (by omega) _ y7 w27 q28).le (by omega))
              · show e_Pn 20 elay kcode eI nn3 d 124 (54, (2, (0, z15)) :: (0, (1, 1)) :: (1, (0, y7)) :: List.filter (e_flt 0 2) tl4, [], w14) _
                exact e_Pn.ret0 rfl ⟨rfl, q16⟩
          · show e_Pn 20 elay kcode eI nn3 d 124 (39, (2, (0, z15)) :: (0, (1, 1)) :: (1, (0, y7)) :: List.filter (e_flt 0 2) tl4, [], w14) _
            refine e_Pn.run (t' := (57, (1, (0, 0)) :: (2, (0, z15)) :: (0, (1, 1)) :: List.filter (e_flt 0 1) (List.filter (e_flt 0 2) tl4), [(1, 1), (1, 1)], w14)) kAlk 5 rfl ?_
            refine e_Pn.getf (z := w14 1 7) kAlk rfl rfl rfl (fun b29 => ?_)
            refine e_Pn.run (t' := (61, (1, (0, 0)) :: (2, (0, z15)) :: (0, (1, 1)) :: List.filter (e_flt 0 1) (List.filter (e_flt 0 2) tl4), [(0, 1), (0, w14 1 7), (1, 1)], w14)) kAlk 1 rfl ?_
            refine e_Pn.bin0 kAlk rfl (fun z30 hz30 => ?_)
            refine e_Pn.putf kAlk rfl rfl ?_
            generalize hw31 : e_up w14 1 7 z30 = w31
            have q32 : kq cd w w31 := kq.up q16 hR.1 hw31 (by decide) (fun _ => by decide) (fun g => absurd g.symm hn.1)
            refine e_Pn.run (t' := (2, (1, (0, 0)) :: (2, (0, z15)) :: (0, (1, 1)) :: List.filter (e_flt 0 1) (List.filter (e_flt 0 2) tl4), [], w31)) kAlk 1 rfl ?_
            exact e_Pn.ord kAlk [0, 1] rfl rfl ((ih2 (by omega) _ 0 w31 q32).le (by omega))
        · show e_Pn 20 elay kcode eI nn3 d 124 (28, (2, (0, z15)) :: (0, (1, 1)) :: (1, (0, y7)) :: List.filter (e_flt 0 2) tl4, [], w14) _
          refine e_Pn.run (t' := (57, (1, (0, 1)) :: (2, (0, z15)) :: (0, (1, 1)) :: List.filter (e_flt 0 1) (List.filter (e_flt 0 2) tl4), [(1, 1), (1, 1)], w14)) kAlk 5 rfl ?_
          refine e_Pn.getf (z := w14 1 7) kAlk rfl rfl rfl (fun b33 => ?_)
          refine e_Pn.run (t' := (61, (1, (0, 1)) :: (2, (0, z15)) :: (0, (1, 1)) :: List.filter (e_flt 0 1) (List.filter (e_flt 0 2) tl4), [(0, 1), (0, w14 1 7), (1, 1)], w14)) kAlk 1 rfl ?_
          refine e_Pn.bin0 kAlk rfl (fun z34 hz34 => ?_)
          refine e_Pn.putf kAlk rfl rfl ?_
          generalize hw35 : e_up w14 1 7 z34 = w35
          have q36 : kq cd w w35 := kq.up q16 hR.1 hw35 (by decide) (fun _ => by decide) (fun g => absurd g.symm hn.1)
          refine e_Pn.run (t' := (2, (1, (0, 1)) :: (2, (0, z15)) :: (0, (1, 1)) :: List.filter (e_flt 0 1) (List.filter (e_flt 0 2) tl4), [], w35)) kAlk 1 rfl ?_
          exact e_Pn.ord kAlk [0, 1] rfl rfl ((ih2 (by omega) _ 1 w35 q36).le (by omega))
  exact e_Pn.ord kAlk [0, 1] rfl rfl (hL1 n (Nat.le_refl _) _ 0 w kq.r)
set_option maxHeartbeats 4000000 in
theorem u_126 {n d : Nat} {w : eW} {cd : Int} (hR : kRw cd w) : e_Pn 20 elay kcode eI n d 126 (0, [(0, (1, 1))], [], w) (fun r w' => (∃ z : Int, r = [(0, z)]) ∧ kq cd w w') := by
  have hn := hR.1.n
  refine e_Pn.run (t' := (4, [(1, (0, 21)), (0, (1, 1))], [(1, 1)], w)) kAlk 3 rfl ?_
  refine e_Pn.getf (z := w 1 6) kAlk rfl rfl rfl (fun b1 => ?_)
  refine e_Pn.run (t' := (13, [(4, (0, 0)), (3, (0, 1)), (2, (0, w 1 6)), (1, (0, 21)), (0, (1, 1))], [], w)) kAlk 5 rfl ?_
  have hL2 : ∀ nn4 : Nat, nn4 ≤ n → ∀ (tl5 : eL) (y8 : Int) (y9 : Int) (y10 : Int) (y11 : Int) (w6 : eW), kq cd w w6 → e_Pn 20 elay kcode eI nn4 d 126 (13, (0, (1, 1)) :: (1, (0, y8)) :: (2, (0, y9)) :: (3, (0, y10)) :: (4, (0, y11)) :: tl5, [], w6) (fun r w' => (∃ z : Int, r = [(0, z)]) ∧ kq cd w w') := by
    intro nn4
    induction nn4 with
    | zero => intro _ tl5 y8 y9 y10 y11 w6 _; exact e_Pn.zero
    | succ nn4 ih3 =>
      intro hnnn4 tl5 y8 y9 y10 y11 w6 q7
      refine e_Pn.runS (t' := (17, (0, (1, 1)) :: (1, (0, y8)) :: (2, (0, y9)) :: (3, (0, y10)) :: (4, (0, y11)) :: tl5, [(1, 357), (0, y11)], w6)) kAlk 1 rfl ?_
      refine e_Pn.SU kAlk g_slU rfl (fun z12 => ?_)
      refine e_Pn.if2 kAlk rfl (fun h13 => ?_) (fun h13 => ?_)
      · show e_Pn 20 elay kcode eI nn4 d 126 (104, (0, (1, 1)) :: (1, (0, y8)) :: (2, (0, y9)) :: (3, (0, y10)) :: (4, (0, y11)) :: tl5, [], w6) _
        refine e_Pn.run (t' := (105, (0, (1, 1)) :: (1, (0, y8)) :: (2, (0, y9)) :: (3, (0, y10)) :: (4, (0, y11)) :: tl5, [(0, 1)], w6)) kAlk 1 rfl ?_
        exact e_Pn.ret1 rfl ⟨⟨_, rfl⟩, q7⟩
      · show e_Pn 20 elay kcode eI nn4 d 126 (23, (0, (1, 1)) :: (1, (0, y8)) :: (2, (0, y9)) :: (3, (0, y10)) :: (4, (0, y11)) :: tl5, [], w6) _
        refine e_Pn.run (t' := (27, (0, (1, 1)) :: (1, (0, y8)) :: (2, (0, y9)) :: (3, (0, y10)) :: (4, (0, y11)) :: tl5, [(0, y11), (1, 357)], w6)) kAlk 2 rfl ?_
        refine e_Pn.SU kAlk g_scU rfl (fun z14 => ?_)
        refine e_Pn.run (t' := (36, (5, (0, z14)) :: (0, (1, 1)) :: (1, (0, y8)) :: (2, (0, y9)) :: (3, (0, y10)) :: (4, (0, y11)) :: List.filter (e_flt 0 5) tl5, [(0, 32), (0, z14)], w6)) kAlk 3 rfl ?_
        refine e_Pn.if2 kAlk rfl (fun h15 => ?_) (fun h15 => ?_)
        · show e_Pn 20 elay kcode eI nn4 d 126 (74, (5, (0, z14)) :: (0, (1, 1)) :: (1, (0, y8)) :: (2, (0, y9)) :: (3, (0, y10)) :: (4, (0, y11)) :: List.filter (e_flt 0 5) tl5, [], w6) _
          refine e_Pn.run (t' := (75, (5, (0, z14)) :: (0, (1, 1)) :: (1, (0, y8)) :: (2, (0, y9)) :: (3, (0, y10)) :: (4, (0, y11)) :: List.filter (e_flt 0 5) tl5, [(0, y10)], w6)) kAlk 1 rfl ?_
          refine e_Pn.if1 kAlk rfl (fun h16 => ?_) (fun h16 => ?_)
          · show e_Pn 20 elay kcode eI nn4 d 126 (88, (5, (0, z14)) :: (0, (1, 1)) :: (1, (0, y8)) :: (2, (0, y9)) :: (3, (0, y10)) :: (4, (0, y11)) :: List.filter (e_flt 0 5) tl5, [], w6) _
            refine e_Pn.incU kAlk rfl rfl (fun z17 => ?_)
            show e_Pn 20 elay kcode eI nn4 d 126 (91, (1, (0, z17)) :: (5, (0, z14)) :: (0, (1, 1)) :: (2, (0, y9)) :: (3, (0, y10)) :: (4, (0, y11)) :: List.filter (e_flt 0 1) (List.filter (e_flt 0 5) tl5), [], w6) _
            refine e_Pn.run (t' := (92, (1, (0, z17)) :: (5, (0, z14)) :: (0, (1, 1)) :: (2, (0, y9)) :: (3, (0, y10)) :: (4, (0, y11)) :: List.filter (e_flt 0 1) (List.filter (e_flt 0 5) tl5), [(1, 1)], w6)) kAlk 1 rfl ?_
            refine e_Pn.getf (z := w6 1 6) kAlk rfl rfl rfl (fun b18 => ?_)
            refine e_Pn.run (t' := (98, (3, (0, 1)) :: (2, (0, w6 1 6)) :: (1, (0, z17)) :: (5, (0, z14)) :: (0, (1, 1)) :: (4, (0, y11)) :: List.filter (e_flt 0 3) (List.filter (e_flt 0 2) (List.filter (e_flt 0 1) (List.filter (e_flt 0 5) tl5))), [], w6)) kAlk 3 rfl ?_
            refine e_Pn.incU kAlk rfl rfl (fun z19 => ?_)
            show e_Pn 20 elay kcode eI nn4 d 126 (101, (4, (0, z19)) :: (3, (0, 1)) :: (2, (0, w6 1 6)) :: (1, (0, z17)) :: (5, (0, z14)) :: (0, (1, 1)) :: List.filter (e_flt 0 4) (List.filter (e_flt 0 3) (List.filter (e_flt 0 2) (List.filter (e_flt 0 1) (List.filter (e_flt 0 5) tl5)))), [], w6) _
            refine e_Pn.run (t' := (13, (4, (0, z19)) :: (3, (0, 1)) :: (2, (0, w6 1 6)) :: (1, (0, z17)) :: (5, (0, z14)) :: (0, (1, 1)) :: List.filter (e_flt 0 4) (List.filter (e_flt 0 3) (List.filter (e_flt 0 2) (List.filter (e_flt 0 1) (List.filter (e_flt 0 5) tl5)))), [], w6)) kAlk 1 rfl ?_
            exact e_Pn.ord kAlk [0, 1, 2, 3, 4] rfl rfl ((ih3 (by omega) _ z17 (w6 1 6) 1 z19 w6 q7).le (by omega))
          · show e_Pn 20 elay kcode eI nn4 d 126 (78, (5, (0, z14)) :: (0, (1, 1)) :: (1, (0, y8)) :: (2, (0, y9)) :: (3, (0, y10)) :: (4, (0, y11)) :: List.filter (e_flt 0 5) tl5, [], w6) _
            refine e_Pn.run (t' := (80, (5, (0, z14)) :: (0, (1, 1)) :: (1, (0, y8)) :: (2, (0, y9)) :: (3, (0, y10)) :: (4, (0, y11)) :: List.filter (e_flt 0 5) tl5, [(1, 1), (0, y9)], w6)) kAlk 2 rfl ?_
            refine e_Pn.getf (z := w6 1 7) kAlk rfl rfl rfl (fun b20 => ?_)
            refine e_Pn.if2 kAlk rfl (fun h21 => ?_) (fun h21 => ?_)
            · show e_Pn 20 elay kcode eI nn4 d 126 (88, (5, (0, z14)) :: (0, (1, 1)) :: (1, (0, y8)) :: (2, (0, y9)) :: (3, (0, y10)) :: (4, (0, y11)) :: List.filter (e_flt 0 5) tl5, [], w6) _
              refine e_Pn.incU kAlk rfl rfl (fun z22 => ?_)
              show e_Pn 20 elay kcode eI nn4 d 126 (91, (1, (0, z22)) :: (5, (0, z14)) :: (0, (1, 1)) :: (2, (0, y9)) :: (3, (0, y10)) :: (4, (0, y11)) :: List.filter (e_flt 0 1) (List.filter (e_flt 0 5) tl5), [], w6) _
              refine e_Pn.run (t' := (92, (1, (0, z22)) :: (5, (0, z14)) :: (0, (1, 1)) :: (2, (0, y9)) :: (3, (0, y10)) :: (4, (0, y11)) :: List.filter (e_flt 0 1) (List.filter (e_flt 0 5) tl5), [(1, 1)], w6)) kAlk 1 rfl ?_
              refine e_Pn.getf (z := w6 1 6) kAlk rfl rfl rfl (fun b23 => ?_)
              refine e_Pn.run (t' := (98, (3, (0, 1)) :: (2, (0, w6 1 6)) :: (1, (0, z22)) :: (5, (0, z14)) :: (0, (1, 1)) :: (4, (0, y11)) :: List.filter (e_flt 0 3) (List.filter (e_flt 0 2) (List.filter (e_flt 0 1) (List.filter (e_flt 0 5) tl5))), [], w6)) kAlk 3 rfl ?_
              refine e_Pn.incU kAlk rfl rfl (fun z24 => ?_)
              show e_Pn 20 elay kcode eI nn4 d 126 (101, (4, (0, z24)) :: (3, (0, 1)) :: (2, (0, w6 1 6)) :: (1, (0, z22)) :: (5, (0, z14)) :: (0, (1, 1)) :: List.filter (e_flt 0 4) (List.filter (e_flt 0 3) (List.filter (e_flt 0 2) (List.filter (e_flt 0 1) (List.filter (e_flt 0 5) tl5)))), [], w6) _
              refine e_Pn.run (t' := (13, (4, (0, z24)) :: (3, (0, 1)) :: (2, (0, w6 1 6)) :: (1, (0, z22)) :: (5, (0, z14)) :: (0, (1, 1)) :: List.filter (e_flt 0 4) (List.filter (e_flt 0 3) (List.filter (e_flt 0 2) (List.filter (e_flt 0 1) (List.filter (e_flt 0 5) tl5)))), [], w6)) kAlk 1 rfl ?_
              exact e_Pn.ord kAlk [0, 1, 2, 3, 4] rfl rfl ((ih3 (by omega) _ z22 (w6 1 6) 1 z24 w6 q7).le (by omega))
            · show e_Pn 20 elay kcode eI nn4 d 126 (86, (5, (0, z14)) :: (0, (1, 1)) :: (1, (0, y8)) :: (2, (0, y9)) :: (3, (0, y10)) :: (4, (0, y11)) :: List.filter (e_flt 0 5) tl5, [], w6) _
              refine e_Pn.run (t' := (87, (5, (0, z14)) :: (0, (1, 1)) :: (1, (0, y8)) :: (2, (0, y9)) :: (3, (0, y10)) :: (4, (0, y11)) :: List.filter (e_flt 0 5) tl5, [(0, y8)], w6)) kAlk 1 rfl ?_
              exact e_Pn.ret1 rfl ⟨⟨_, rfl⟩, q7⟩
        · show e_Pn 20 elay kcode eI nn4 d 126 (39, (5, (0, z14)) :: (0, (1, 1)) :: (1, (0, y8)) :: (2, (0, y9)) :: (3, (0, y10)) :: (4, (0, y11)) :: List.filter (e_flt 0 5) tl5, [], w6) _
          refine e_Pn.run (t' := (40, (5, (0, z14)) :: (0, (1, 1)) :: (1, (0, y8)) :: (2, (0, y9)) :: (3, (0, y10)) :: (4, (0, y11)) :: List.filter (e_flt 0 5) tl5, [(0, y10)], w6)) kAlk 1 rfl ?_
          refine e_Pn.if1 kAlk rfl (fun h25 => ?_) (fun h25 => ?_)
          · show e_Pn 20 elay kcode eI nn4 d 126 (66, (5, (0, z14)) :: (0, (1, 1)) :: (1, (0, y8)) :: (2, (0, y9)) :: (3, (0, y10)) :: (4, (0, y11)) :: List.filter (e_flt 0 5) tl5, [], w6) _
            refine e_Pn.run (t' := (68, (3, (0, 0)) :: (5, (0, z14)) :: (0, (1, 1)) :: (1, (0, y8)) :: (2, (0, y9)) :: (4, (0, y11)) :: List.filter (e_flt 0 3) (List.filter (e_flt 0 5) tl5), [], w6)) kAlk 2 rfl ?_
            refine e_Pn.incU kAlk rfl rfl (fun z26 => ?_)
            show e_Pn 20 elay kcode eI nn4 d 126 (71, (2, (0, z26)) :: (3, (0, 0)) :: (5, (0, z14)) :: (0, (1, 1)) :: (1, (0, y8)) :: (4, (0, y11)) :: List.filter (e_flt 0 2) (List.filter (e_flt 0 3) (List.filter (e_flt 0 5) tl5)), [], w6) _
            refine e_Pn.run (t' := (98, (2, (0, z26)) :: (3, (0, 0)) :: (5, (0, z14)) :: (0, (1, 1)) :: (1, (0, y8)) :: (4, (0, y11)) :: List.filter (e_flt 0 2) (List.filter (e_flt 0 3) (List.filter (e_flt 0 5) tl5)), [], w6)) kAlk 1 rfl ?_
            refine e_Pn.incU kAlk rfl rfl (fun z27 => ?_)
            show e_Pn 20 elay kcode eI nn4 d 126 (101, (4, (0, z27)) :: (2, (0, z26)) :: (3, (0, 0)) :: (5, (0, z14)) :: (0, (1, 1)) :: (1, (0, y8)) :: List.filter (e_flt 0 4) (List.filter (e_flt 0 2) (List.filter (e_flt 0 3) (List.filter (e_flt 0 5) tl5))), [], w6) _
            refine e_Pn.run (t' := (13, (4, (0, z27)) :: (2, (0, z26)) :: (3, (0, 0)) :: (5, (0, z14)) :: (0, (1, 1)) :: (1, (0, y8)) :: List.filter (e_flt 0 4) (List.filter (e_flt 0 2) (List.filter (e_flt 0 3) (List.filter (e_flt 0 5) tl5))), [], w6)) kAlk 1 rfl ?_
            exact e_Pn.ord kAlk [0, 1, 2, 3, 4] rfl rfl ((ih3 (by omega) _ y8 z26 0 z27 w6 q7).le (by omega))
          · show e_Pn 20 elay kcode eI nn4 d 126 (43, (5, (0, z14)) :: (0, (1, 1)) :: (1, (0, y8)) :: (2, (0, y9)) :: (3, (0, y10)) :: (4, (0, y11)) :: List.filter (e_flt 0 5) tl5, [], w6) _
            refine e_Pn.run (t' := (45, (5, (0, z14)) :: (0, (1, 1)) :: (1, (0, y8)) :: (2, (0, y9)) :: (3, (0, y10)) :: (4, (0, y11)) :: List.filter (e_flt 0 5) tl5, [(1, 1), (0, y9)], w6)) kAlk 2 rfl ?_
            refine e_Pn.getf (z := w6 1 7) kAlk rfl rfl rfl (fun b28 => ?_)
            refine e_Pn.if2 kAlk rfl (fun h29 => ?_) (fun h29 => ?_)
            · show e_Pn 20 elay kcode eI nn4 d 126 (66, (5, (0, z14)) :: (0, (1, 1)) :: (1, (0, y8)) :: (2, (0, y9)) :: (3, (0, y10)) :: (4, (0, y11)) :: List.filter (e_flt 0 5) tl5, [], w6) _
              refine e_Pn.run (t' := (68, (3, (0, 0)) :: (5, (0, z14)) :: (0, (1, 1)) :: (1, (0, y8)) :: (2, (0, y9)) :: (4, (0, y11)) :: List.filter (e_flt 0 3) (List.filter (e_flt 0 5) tl5), [], w6)) kAlk 2 rfl ?_
              refine e_Pn.incU kAlk rfl rfl (fun z30 => ?_)
              show e_Pn 20 elay kcode eI nn4 d 126 (71, (2, (0, z30)) :: (3, (0, 0)) :: (5, (0, z14)) :: (0, (1, 1)) :: (1, (0, y8)) :: (4, (0, y11)) :: List.filter (e_flt 0 2) (List.filter (e_flt 0 3) (List.filter (e_flt 0 5) tl5)), [], w6) _
              refine e_Pn.run (t' := (98, (2, (0, z30)) :: (3, (0, 0)) :: (5, (0, z14)) :: (0, (1, 1)) :: (1, (0, y8)) :: (4, (0, y11)) :: List.filter (e_flt 0 2) (List.filter (e_flt 0 3) (List.filter (e_flt 0 5) tl5)), [], w6)) kAlk 1 rfl ?_
              refine e_Pn.incU kAlk rfl rfl (fun z31 => ?_)
              show e_Pn 20 elay kcode eI nn4 d 126 (101, (4, (0, z31)) :: (2, (0, z30)) :: (3, (0, 0)) :: (5, (0, z14)) :: (0, (1, 1)) :: (1, (0, y8)) :: List.filter (e_flt 0 4) (List.filter (e_flt 0 2) (List.filter (e_flt 0 3) (List.filter (e_flt 0 5) tl5))), [], w6) _
              refine e_Pn.run (t' := (13, (4, (0, z31)) :: (2, (0, z30)) :: (3, (0, 0)) :: (5, (0, z14)) :: (0, (1, 1)) :: (1, (0, y8)) :: List.filter (e_flt 0 4) (List.filter (e_flt 0 2) (List.filter (e_flt 0 3) (List.filter (e_flt 0 5) tl5))), [], w6)) kAlk 1 rfl ?_
              exact e_Pn.ord kAlk [0, 1, 2, 3, 4] rfl rfl ((ih3 (by omega) _ y8 z30 0 z31 w6 q7).le (by omega))
            · show e_Pn 20 elay kcode eI nn4 d 126 (51, (5, (0, z14)) :: (0, (1, 1)) :: (1, (0, y8)) :: (2, (0, y9)) :: (3, (0, y10)) :: (4, (0, y11)) :: List.filter (e_flt 0 5) tl5, [], w6) _
              refine e_Pn.run (t' := (52, (5, (0, z14)) :: (0, (1, 1)) :: (1, (0, y8)) :: (2, (0, y9)) :: (3, (0, y10)) :: (4, (0, y11)) :: List.filter (e_flt 0 5) tl5, [(1, 1)], w6)) kAlk 1 rfl ?_
              refine e_Pn.getr (z := 5) kAlk rfl rfl (q7.rf hR).2.2.1 (by omega) ?_
              refine e_Pn.run (t' := (56, (5, (0, z14)) :: (0, (1, 1)) :: (1, (0, y8)) :: (2, (0, y9)) :: (3, (0, y10)) :: (4, (0, y11)) :: List.filter (e_flt 0 5) tl5, [(0, y9), (1, 5)], w6)) kAlk 1 rfl ?_
              refine e_Pn.ald (z := w6 5 y9) kAlk rfl rfl (fun b32 b33 => ?_)
              refine e_Pn.run (t' := (59, (5, (0, z14)) :: (0, (1, 1)) :: (1, (0, y8)) :: (2, (0, y9)) :: (3, (0, y10)) :: (4, (0, y11)) :: List.filter (e_flt 0 5) tl5, [(0, z14), (0, w6 5 y9)], w6)) kAlk 1 rfl ?_
              refine e_Pn.if2 kAlk rfl (fun h34 => ?_) (fun h34 => ?_)
              · show e_Pn 20 elay kcode eI nn4 d 126 (66, (5, (0, z14)) :: (0, (1, 1)) :: (1, (0, y8)) :: (2, (0, y9)) :: (3, (0, y10)) :: (4, (0, y11)) :: List.filter (e_flt 0 5) tl5, [], w6) _
                refine e_Pn.run (t' := (68, (3, (0, 0)) :: (5, (0, z14)) :: (0, (1, 1)) :: (1, (0, y8)) :: (2, (0, y9)) :: (4, (0, y11)) :: List.filter (e_flt 0 3) (List.filter (e_flt 0 5) tl5), [], w6)) kAlk 2 rfl ?_
                refine e_Pn.incU kAlk rfl rfl (fun z35 => ?_)
                show e_Pn 20 elay kcode eI nn4 d 126 (71, (2, (0, z35)) :: (3, (0, 0)) :: (5, (0, z14)) :: (0, (1, 1)) :: (1, (0, y8)) :: (4, (0, y11)) :: List.filter (e_flt 0 2) (List.filter (e_flt 0 3) (List.filter (e_flt 0 5) tl5)), [], w6) _
                refine e_Pn.run (t' := (98, (2, (0, z35)) :: (3, (0, 0)) :: (5, (0, z14)) :: (0, (1, 1)) :: (1, (0, y8)) :: (4, (0, y11)) :: List.filter (e_flt 0 2) (List.filter (e_flt 0 3) (List.filter (e_flt 0 5) tl5)), [], w6)) kAlk 1 rfl ?_
                refine e_Pn.incU kAlk rfl rfl (fun z36 => ?_)
                show e_Pn 20 elay kcode eI nn4 d 126 (101, (4, (0, z36)) :: (2, (0, z35)) :: (3, (0, 0)) :: (5, (0, z14)) :: (0, (1, 1)) :: (1, (0, y8)) :: List.filter (e_flt 0 4) (List.filter (e_flt 0 2) (List.filter (e_flt 0 3) (List.filter (e_flt 0 5) tl5))), [], w6) _
                refine e_Pn.run (t' := (13, (4, (0, z36)) :: (2, (0, z35)) :: (3, (0, 0)) :: (5, (0, z14)) :: (0, (1, 1)) :: (1, (0, y8)) :: List.filter (e_flt 0 4) (List.filter (e_flt 0 2) (List.filter (e_flt 0 3) (List.filter (e_flt 0 5) tl5))), [], w6)) kAlk 1 rfl ?_
                exact e_Pn.ord kAlk [0, 1, 2, 3, 4] rfl rfl ((ih3 (by omega) _ y8 z35 0 z36 w6 q7).le (by omega))
              · show e_Pn 20 elay kcode eI nn4 d 126 (62, (5, (0, z14)) :: (0, (1, 1)) :: (1, (0, y8)) :: (2, (0, y9)) :: (3, (0, y10)) :: (4, (0, y11)) :: List.filter (e_flt 0 5) tl5, [], w6) _
                refine e_Pn.run (t' := (68, (3, (0, 1)) :: (5, (0, z14)) :: (0, (1, 1)) :: (1, (0, y8)) :: (2, (0, y9)) :: (4, (0, y11)) :: List.filter (e_flt 0 3) (List.filter (e_flt 0 5) tl5), [], w6)) kAlk 3 rfl ?_
                refine e_Pn.incU kAlk rfl rfl (fun z37 => ?_)
                show e_Pn 20 elay kcode eI nn4 d 126 (71, (2, (0, z37)) :: (3, (0, 1)) :: (5, (0, z14)) :: (0, (1, 1)) :: (1, (0, y8)) :: (4, (0, y11)) :: List.filter (e_flt 0 2) (List.filter (e_flt 0 3) (List.filter (e_flt 0 5) tl5)), [], w6) _
                refine e_Pn.run (t' := (98, (2, (0, z37)) :: (3, (0, 1)) :: (5, (0, z14)) :: (0, (1, 1)) :: (1, (0, y8)) :: (4, (0, y11)) :: List.filter (e_flt 0 2) (List.filter (e_flt 0 3) (List.filter (e_flt 0 5) tl5)), [], w6)) kAlk 1 rfl ?_
                refine e_Pn.incU kAlk rfl rfl (fun z38 => ?_)
                show e_Pn 20 elay kcode eI nn4 d 126 (101, (4, (0, z38)) :: (2, (0, z37)) :: (3, (0, 1)) :: (5, (0, z14)) :: (0, (1, 1)) :: (1, (0, y8)) :: List.filter (e_flt 0 4) (List.filter (e_flt 0 2) (List.filter (e_flt 0 3) (List.filter (e_flt 0 5) tl5))), [], w6) _
                refine e_Pn.run (t' := (13, (4, (0, z38)) :: (2, (0, z37)) :: (3, (0, 1)) :: (5, (0, z14)) :: (0, (1, 1)) :: (1, (0, y8)) :: List.filter (e_flt 0 4) (List.filter (e_flt 0 2) (List.filter (e_flt 0 3) (List.filter (e_flt 0 5) tl5))), [], w6)) kAlk 1 rfl ?_
                exact e_Pn.ord kAlk [0, 1, 2, 3, 4] rfl rfl ((ih3 (by omega) _ y8 z37 1 z38 w6 q7).le (by omega))
  exact e_Pn.ord kAlk [0, 1, 2, 3, 4] rfl rfl (hL2 n (Nat.le_refl _) _ 21 (w 1 6) 1 0 w kq.r)
theorem u_125 {n d : Nat} {w : eW} {cd : Int} (hR : kRw cd w) : e_Pn 20 elay kcode eI n d 125 (0, [(0, (1, 1))], [], w) (fun r w' => r = [] ∧ kq cd w w') := by
  have hn := hR.1.n
  have hL1 : ∀ nn3 : Nat, nn3 ≤ n → ∀ (tl4 : eL) (w5 : eW), kq cd w w5 → e_Pn 20 elay kcode eI nn3 d 125 (0, (0, (1, 1)) :: tl4, [], w5) (fun r w' => r = [] ∧ kq cd w w') := by
    intro nn3
    induction nn3 with
    | zero => intro _ tl4 w5 _; exact e_Pn.zero
    | succ nn3 ih2 =>
      intro hnnn3 tl4 w5 q6
      refine e_Pn.runS (t' := (1, (0, (1, 1)) :: tl4, [(1, 1)], w5)) kAlk 0 rfl ?_
      refine e_Pn.getf (z := w5 1 7) kAlk rfl rfl rfl (fun b7 => ?_)
      refine e_Pn.run (t' := (5, (0, (1, 1)) :: tl4, [(1, 1), (0, w5 1 7)], w5)) kAlk 1 rfl ?_
      refine e_Pn.getf (z := w5 1 0) kAlk rfl rfl rfl (fun b8 => ?_)
      refine e_Pn.if2 kAlk rfl (fun h9 => ?_) (fun h9 => ?_)
      · show e_Pn 20 elay kcode eI nn3 d 125 (38, (0, (1, 1)) :: tl4, [], w5) _
        refine e_Pn.run (t' := (40, (0, (1, 1)) :: tl4, [(1, 1), (1, 1)], w5)) kAlk 2 rfl ?_
        refine e_Pn.getf (z := w5 1 7) kAlk rfl rfl rfl (fun b10 => ?_)
        refine e_Pn.run (t' := (44, (0, (1, 1)) :: tl4, [(1, 1), (0, w5 1 7), (1, 1)], w5)) kAlk 1 rfl ?_
        refine e_Pn.getf (z := w5 1 6) kAlk rfl rfl rfl (fun b11 => ?_)
        refine e_Pn.bin0 kAlk rfl (fun z12 hz12 => ?_)
        refine e_Pn.run (t' := (50, (0, (1, 1)) :: tl4, [(0, 24), (0, z12), (1, 1)], w5)) kAlk 1 rfl ?_
        refine e_Pn.if2 kAlk rfl (fun h13 => ?_) (fun h13 => ?_)
        · show e_Pn 20 elay kcode eI nn3 d 125 (57, (0, (1, 1)) :: tl4, [(1, 1)], w5) _
          refine e_Pn.run (t' := (58, (0, (1, 1)) :: tl4, [(1, 1), (1, 1)], w5)) kAlk 1 rfl ?_
          refine e_Pn.callA rfl (fun n9 d9 => u_126 (q6.rf hR)) (fun r15 w16 h14 => ?_)
          obtain ⟨⟨z17, rfl⟩, h14⟩ := h14
          have q18 := q6.tr h14
          show e_Pn 20 elay kcode eI nn3 d 125 (61, (0, (1, 1)) :: tl4, [(0, z17), (1, 1)], w16) _
          refine e_Pn.putf kAlk rfl rfl ?_
          generalize hw19 : e_up w16 1 5 z17 = w19
          have q20 : kq cd w w19 := kq.up q18 hR.1 hw19 (by decide) (fun _ => by decide) (fun g => absurd g.symm hn.1)
          exact e_Pn.ret0 rfl ⟨rfl, q20⟩
        · show e_Pn 20 elay kcode eI nn3 d 125 (53, (0, (1, 1)) :: tl4, [(1, 1)], w5) _
          refine e_Pn.run (t' := (61, (0, (1, 1)) :: tl4, [(0, 3), (1, 1)], w5)) kAlk 2 rfl ?_
          refine e_Pn.putf kAlk rfl rfl ?_
          generalize hw21 : e_up w5 1 5 3 = w21
          have q22 : kq cd w w21 := kq.up q6 hR.1 hw21 (by decide) (fun _ => by decide) (fun g => absurd g.symm hn.1)
          exact e_Pn.ret0 rfl ⟨rfl, q22⟩
      · show e_Pn 20 elay kcode eI nn3 d 125 (11, (0, (1, 1)) :: tl4, [], w5) _
        refine e_Pn.run (t' := (13, (0, (1, 1)) :: tl4, [(1, 1), (1, 1)], w5)) kAlk 2 rfl ?_
        refine e_Pn.getf (z := w5 1 7) kAlk rfl rfl rfl (fun b23 => ?_)
        refine e_Pn.callA rfl (fun n9 d9 => u_120 (q6.rf hR)) (fun r25 w26 h24 => ?_)
        obtain ⟨⟨z27, rfl⟩, h24⟩ := h24
        have q28 := q6.tr h24
        show e_Pn 20 elay kcode eI nn3 d 125 (19, (0, (1, 1)) :: tl4, [(0, z27)], w26) _
        refine e_Pn.callA rfl (fun n9 d9 => u_122 (q28.rf hR)) (fun r30 w31 h29 => ?_)
        obtain ⟨⟨z32, rfl⟩, h29⟩ := h29
        have q33 := q28.tr h29
        show e_Pn 20 elay kcode eI nn3 d 125 (22, (0, (1, 1)) :: tl4, [(0, z32)], w31) _
        refine e_Pn.if1 kAlk rfl (fun h34 => ?_) (fun h34 => ?_)
        · show e_Pn 20 elay kcode eI nn3 d 125 (38, (0, (1, 1)) :: tl4, [], w31) _
          refine e_Pn.run (t' := (40, (0, (1, 1)) :: tl4, [(1, 1), (1, 1)], w31)) kAlk 2 rfl ?_
          refine e_Pn.getf (z := w31 1 7) kAlk rfl rfl rfl (fun b35 => ?_)
          refine e_Pn.run (t' := (44, (0, (1, 1)) :: tl4, [(1, 1), (0, w31 1 7), (1, 1)], w31)) kAlk 1 rfl ?_
          refine e_Pn.getf (z := w31 1 6) kAlk rfl rfl rfl (fun b36 => ?_)
          refine e_Pn.bin0 kAlk rfl (fun z37 hz37 => ?_)
          refine e_Pn.run (t' := (50, (0, (1, 1)) :: tl4, [(0, 24), (0, z37), (1, 1)], w31)) kAlk 1 rfl ?_
          refine e_Pn.if2 kAlk rfl (fun h38 => ?_) (fun h38 => ?_)
          · show e_Pn 20 elay kcode eI nn3 d 125 (57, (0, (1, 1)) :: tl4, [(1, 1)], w31) _
            refine e_Pn.run (t' := (58, (0, (1, 1)) :: tl4, [(1, 1), (1, 1)], w31)) kAlk 1 rfl ?_
            refine e_Pn.callA rfl (fun n9 d9 => u_126 (q33.rf hR)) (fun r40 w41 h39 => ?_)
            obtain ⟨⟨z42, rfl⟩, h39⟩ := h39
            have q43 := q33.tr h39
            show e_Pn 20 elay kcode eI nn3 d 125 (61, (0, (1, 1)) :: tl4, [(0, z42), (1, 1)], w41) _
            refine e_Pn.putf kAlk rfl rfl ?_
            generalize hw44 : e_up w41 1 5 z42 = w44
            have q45 : kq cd w w44 := kq.up q43 hR.1 hw44 (by decide) (fun _ => by decide) (fun g => absurd g.symm hn.1)
            exact e_Pn.ret0 rfl ⟨rfl, q45⟩
          · show e_Pn 20 elay kcode eI nn3 d 125 (53, (0, (1, 1)) :: tl4, [(1, 1)], w31) _
            refine e_Pn.run (t' := (61, (0, (1, 1)) :: tl4, [(0, 3), (1, 1)], w31)) kAlk 2 rfl ?_
            refine e_Pn.putf kAlk rfl rfl ?_
            generalize hw46 : e_up w31 1 5 3 = w46
            have q47 : kq cd w w46 := kq.up q33 hR.1 hw46 (by decide) (fun _ => by decide) (fun g => absurd g.symm hn.1)
            exact e_Pn.ret0 rfl ⟨rfl, q47⟩
        · show e_Pn 20 elay kcode eI nn3 d 125 (25, (0, (1, 1)) :: tl4, [], w31) _
          refine e_Pn.run (t' := (27, (0, (1, 1)) :: tl4, [(1, 1), (1, 1)], w31)) kAlk 2 rfl ?_
          refine e_Pn.getf (z := w31 1 7) kAlk rfl rfl rfl (fun b48 => ?_)
          refine e_Pn.run (t' := (31, (0, (1, 1)) :: tl4, [(0, 1), (0, w31 1 7), (1, 1)], w31)) kAlk 1 rfl ?_
          refine e_Pn.bin0 kAlk rfl (fun z49 hz49 => ?_)
          refine e_Pn.putf kAlk rfl rfl ?_
          generalize hw50 : e_up w31 1 7 z49 = w50
          have q51 : kq cd w w50 := kq.up q33 hR.1 hw50 (by decide) (fun _ => by decide) (fun g => absurd g.symm hn.1)
          refine e_Pn.run (t' := (0, (0, (1, 1)) :: tl4, [], w50)) kAlk 1 rfl ?_
          exact e_Pn.ord kAlk [0] rfl rfl ((ih2 (by omega) _ w50 q51).le (by omega))
  exact e_Pn.ord kAlk [0] rfl rfl (hL1 n (Nat.le_refl _) _ w kq.r)
theorem u_127 {n d : Nat} {w : eW} {cd : Int} (hR : kRw cd w) : e_Pn 20 elay kcode eI n d 127 (0, [(0, (1, 1))], [], w) (fun r w' => r = [] ∧ kq cd w w') := by
  have hn := hR.1.n
  refine e_Pn.run (t' := (2, [(1, (4, 0)), (0, (1, 1))], [], w)) kAlk 2 rfl ?_
  have hL1 : ∀ nn3 : Nat, nn3 ≤ n → ∀ (tl4 : eL) (y7 : Int) (w5 : eW), kq cd w w5 → e_Pn 20 elay kcode eI nn3 d 127 (2, (0, (1, 1)) :: (1, (4, y7)) :: tl4, [], w5) (fun r w' => r = [] ∧ kq cd w w') := by
    intro nn3
    induction nn3 with
    | zero => intro _ tl4 y7 w5 _; exact e_Pn.zero
    | succ nn3 ih2 =>
      intro hnnn3 tl4 y7 w5 q6
      refine e_Pn.runS (t' := (3, (0, (1, 1)) :: (1, (4, y7)) :: tl4, [(1, 1)], w5)) kAlk 0 rfl ?_
      refine e_Pn.getf (z := w5 1 7) kAlk rfl rfl rfl (fun b8 => ?_)
      refine e_Pn.run (t' := (7, (0, (1, 1)) :: (1, (4, y7)) :: tl4, [(1, 1), (0, w5 1 7)], w5)) kAlk 1 rfl ?_
      refine e_Pn.getf (z := w5 1 0) kAlk rfl rfl rfl (fun b9 => ?_)
      refine e_Pn.if2 kAlk rfl (fun h10 => ?_) (fun h10 => ?_)
      · show e_Pn 20 elay kcode eI nn3 d 127 (66, (0, (1, 1)) :: (1, (4, y7)) :: tl4, [], w5) _
        refine e_Pn.run (t' := (71, (0, (1, 1)) :: (1, (4, y7)) :: tl4, [(4, 2147483647), (4, y7), (1, 1)], w5)) kAlk 3 rfl ?_
        refine e_Pn.binLU kAlk 0 (fun _ _ _ h => by cases h; rfl) rfl (fun z11 => ?_)
        refine e_Pn.if1 kAlk rfl (fun h12 => ?_) (fun h12 => ?_)
        · show e_Pn 20 elay kcode eI nn3 d 127 (79, (0, (1, 1)) :: (1, (4, y7)) :: tl4, [(1, 1)], w5) _
          refine e_Pn.run (t' := (80, (0, (1, 1)) :: (1, (4, y7)) :: tl4, [(0, 2), (1, 1)], w5)) kAlk 1 rfl ?_
          refine e_Pn.putf kAlk rfl rfl ?_
          generalize hw13 : e_up w5 1 5 2 = w13
          have q14 : kq cd w w13 := kq.up q6 hR.1 hw13 (by decide) (fun _ => by decide) (fun g => absurd g.symm hn.1)
          refine e_Pn.run (t' := (85, (0, (1, 1)) :: (1, (4, y7)) :: tl4, [(4, y7), (1, 1)], w13)) kAlk 2 rfl ?_
          refine e_Pn.unLU kAlk 0 (fun _ => rfl) rfl (fun z15 => ?_)
          refine e_Pn.putf kAlk rfl rfl ?_
          generalize hw16 : e_up w13 1 8 z15 = w16
          have q17 : kq cd w w16 := kq.up q14 hR.1 hw16 (by decide) (fun _ => by decide) (fun g => absurd g.symm hn.1)
          exact e_Pn.ret0 rfl ⟨rfl, q17⟩
        · show e_Pn 20 elay kcode eI nn3 d 127 (75, (0, (1, 1)) :: (1, (4, y7)) :: tl4, [(1, 1)], w5) _
          refine e_Pn.run (t' := (80, (0, (1, 1)) :: (1, (4, y7)) :: tl4, [(0, 3), (1, 1)], w5)) kAlk 2 rfl ?_
          refine e_Pn.putf kAlk rfl rfl ?_
          generalize hw18 : e_up w5 1 5 3 = w18
          have q19 : kq cd w w18 := kq.up q6 hR.1 hw18 (by decide) (fun _ => by decide) (fun g => absurd g.symm hn.1)
          refine e_Pn.run (t' := (85, (0, (1, 1)) :: (1, (4, y7)) :: tl4, [(4, y7), (1, 1)], w18)) kAlk 2 rfl ?_
          refine e_Pn.unLU kAlk 0 (fun _ => rfl) rfl (fun z20 => ?_)
          refine e_Pn.putf kAlk rfl rfl ?_
          generalize hw21 : e_up w18 1 8 z20 = w21
          have q22 : kq cd w w21 := kq.up q19 hR.1 hw21 (by decide) (fun _ => by decide) (fun g => absurd g.symm hn.1)
          exact e_Pn.ret0 rfl ⟨rfl, q22⟩
      · show e_Pn 20 elay kcode eI nn3 d 127 (13, (0, (1, 1)) :: (1, (4, y7)) :: tl4, [], w5) _
        refine e_Pn.run (t' := (15, (0, (1, 1)) :: (1, (4, y7)) :: tl4, [(1, 1), (1, 1)], w5)) kAlk 2 rfl ?_
        refine e_Pn.getf (z := w5 1 7) kAlk rfl rfl rfl (fun b23 => ?_)
        refine e_Pn.callA rfl (fun n9 d9 => u_120 (q6.rf hR)) (fun r25 w26 h24 => ?_)
        obtain ⟨⟨z27, rfl⟩, h24⟩ := h24
        have q28 := q6.tr h24
        show e_Pn 20 elay kcode eI nn3 d 127 (21, (0, (1, 1)) :: (1, (4, y7)) :: tl4, [(0, z27)], w26) _
        refine e_Pn.callA rfl (fun n9 d9 => u_121 (q28.rf hR)) (fun r30 w31 h29 => ?_)
        obtain ⟨⟨z32, rfl⟩, h29⟩ := h29
        have q33 := q28.tr h29
        show e_Pn 20 elay kcode eI nn3 d 127 (24, (0, (1, 1)) :: (1, (4, y7)) :: tl4, [(0, z32)], w31) _
        refine e_Pn.if1 kAlk rfl (fun h34 => ?_) (fun h34 => ?_)
        · show e_Pn 20 elay kcode eI nn3 d 127 (66, (0, (1, 1)) :: (1, (4, y7)) :: tl4, [], w31) _
          refine e_Pn.run (t' := (71, (0, (1, 1)) :: (1, (4, y7)) :: tl4, [(4, 2147483647), (4, y7), (1, 1)], w31)) kAlk 3 rfl ?_
          refine e_Pn.binLU kAlk 0 (fun _ _ _ h => by cases h; rfl) rfl (fun z35 => ?_)
          refine e_Pn.if1 kAlk rfl (fun h36 => ?_) (fun h36 => ?_)
          · show e_Pn 20 elay kcode eI nn3 d 127 (79, (0, (1, 1)) :: (1, (4, y7)) :: tl4, [(1, 1)], w31) _
            refine e_Pn.run (t' := (80, (0, (1, 1)) :: (1, (4, y7)) :: tl4, [(0, 2), (1, 1)], w31)) kAlk 1 rfl ?_
            refine e_Pn.putf kAlk rfl rfl ?_
            generalize hw37 : e_up w31 1 5 2 = w37
            have q38 : kq cd w w37 := kq.up q33 hR.1 hw37 (by decide) (fun _ => by decide) (fun g => absurd g.symm hn.1)
            refine e_Pn.run (t' := (85, (0, (1, 1)) :: (1, (4, y7)) :: tl4, [(4, y7), (1, 1)], w37)) kAlk 2 rfl ?_
            refine e_Pn.unLU kAlk 0 (fun _ => rfl) rfl (fun z39 => ?_)
            refine e_Pn.putf kAlk rfl rfl ?_
            generalize hw40 : e_up w37 1 8 z39 = w40
            have q41 : kq cd w w40 := kq.up q38 hR.1 hw40 (by decide) (fun _ => by decide) (fun g => absurd g.symm hn.1)
            exact e_Pn.ret0 rfl ⟨rfl, q41⟩
          · show e_Pn 20 elay kcode eI nn3 d 127 (75, (0, (1, 1)) :: (1, (4, y7)) :: tl4, [(1, 1)], w31) _
            refine e_Pn.run (t' := (80, (0, (1, 1)) :: (1, (4, y7)) :: tl4, [(0, 3), (1, 1)], w31)) kAlk 2 rfl ?_
            refine e_Pn.putf kAlk rfl rfl ?_
            generalize hw42 : e_up w31 1 5 3 = w42
            have q43 : kq cd w w42 := kq.up q33 hR.1 hw42 (by decide) (fun _ => by decide) (fun g => absurd g.symm hn.1)
            refine e_Pn.run (t' := (85, (0, (1, 1)) :: (1, (4, y7)) :: tl4, [(4, y7), (1, 1)], w42)) kAlk 2 rfl ?_
            refine e_Pn.unLU kAlk 0 (fun _ => rfl) rfl (fun z44 => ?_)
            refine e_Pn.putf kAlk rfl rfl ?_
            generalize hw45 : e_up w42 1 8 z44 = w45
            have q46 : kq cd w w45 := kq.up q43 hR.1 hw45 (by decide) (fun _ => by decide) (fun g => absurd g.symm hn.1)
            exact e_Pn.ret0 rfl ⟨rfl, q46⟩
        · show e_Pn 20 elay kcode eI nn3 d 127 (27, (0, (1, 1)) :: (1, (4, y7)) :: tl4, [], w31) _
          refine e_Pn.run (t' := (31, (0, (1, 1)) :: (1, (4, y7)) :: tl4, [(4, 10), (4, y7)], w31)) kAlk 2 rfl ?_
          refine e_Pn.binLU kAlk 4 (fun _ _ _ h => by cases h; rfl) rfl (fun x47 => ?_)
          refine e_Pn.run (t' := (34, (0, (1, 1)) :: (1, (4, y7)) :: tl4, [(1, 1), (1, 1), (4, x47)], w31)) kAlk 2 rfl ?_
          refine e_Pn.getf (z := w31 1 7) kAlk rfl rfl rfl (fun b48 => ?_)
          refine e_Pn.callA rfl (fun n9 d9 => u_120 (q33.rf hR)) (fun r50 w51 h49 => ?_)
          obtain ⟨⟨z52, rfl⟩, h49⟩ := h49
          have q53 := q33.tr h49
          show e_Pn 20 elay kcode eI nn3 d 127 (40, (0, (1, 1)) :: (1, (4, y7)) :: tl4, [(0, z52), (4, x47)], w51) _
          refine e_Pn.run (t' := (41, (0, (1, 1)) :: (1, (4, y7)) :: tl4, [(4, z52), (4, x47)], w51)) kAlk 1 rfl ?_
          refine e_Pn.binLU kAlk 4 (fun _ _ _ h => by cases h; rfl) rfl (fun x54 => ?_)
          refine e_Pn.run (t' := (45, (0, (1, 1)) :: (1, (4, y7)) :: tl4, [(4, 48), (4, x54)], w51)) kAlk 1 rfl ?_
          refine e_Pn.binLU kAlk 4 (fun _ _ _ h => by cases h; rfl) rfl (fun x55 => ?_)
          refine e_Pn.run (t' := (49, (0, (1, 1)) :: (1, (4, y7)) :: tl4, [(4, 4294967296), (4, x55)], w51)) kAlk 1 rfl ?_
          refine e_Pn.SU kAlk g_mlU rfl (fun x56 => ?_)
          refine e_Pn.run (t' := (55, (1, (4, x56)) :: (0, (1, 1)) :: List.filter (e_flt 1 1) tl4, [(1, 1), (1, 1)], w51)) kAlk 3 rfl ?_
          refine e_Pn.getf (z := w51 1 7) kAlk rfl rfl rfl (fun b57 => ?_)
          refine e_Pn.run (t' := (59, (1, (4, x56)) :: (0, (1, 1)) :: List.filter (e_flt 1 1) tl4, [(0, 1), (0, w51 1 7), (1, 1)], w51)) kAlk 1 rfl ?_
          refine e_Pn.bin0 kAlk rfl (fun z58 hz58 => ?_)
          refine e_Pn.putf kAlk rfl rfl ?_
          generalize hw59 : e_up w51 1 7 z58 = w59
          have q60 : kq cd w w59 := kq.up q53 hR.1 hw59 (by decide) (fun _ => by decide) (fun g => absurd g.symm hn.1)
          refine e_Pn.run (t' := (2, (1, (4, x56)) :: (0, (1, 1)) :: List.filter (e_flt 1 1) tl4, [], w59)) kAlk 1 rfl ?_
          exact e_Pn.ord kAlk [0, 1] rfl rfl ((ih2 (by omega) _ x56 w59 q60).le (by omega))
  exact e_Pn.ord kAlk [0, 1] rfl rfl (hL1 n (Nat.le_refl _) _ 0 w kq.r)
set_option maxHeartbeats 4000000 in
theorem u_128 {n d : Nat} {w : eW} {cd : Int} (hR : kRw cd w) {x : Int} : e_Pn 20 elay kcode eI n d 128 (0, [(0, (1, 1)), (1, (0, x))], [], w) (fun r w' => r = [] ∧ kq cd w w') := by
  have hn := hR.1.n
  refine e_Pn.run (t' := (2, [(0, (1, 1)), (1, (0, x))], [(1, 1), (1, 1)], w)) kAlk 2 rfl ?_
  refine e_Pn.getf (z := w 1 7) kAlk rfl rfl rfl (fun b1 => ?_)
  refine e_Pn.run (t' := (6, [(0, (1, 1)), (1, (0, x))], [(0, 1), (0, w 1 7), (1, 1)], w)) kAlk 1 rfl ?_
  refine e_Pn.bin0 kAlk rfl (fun z2 hz2 => ?_)
  refine e_Pn.putf kAlk rfl rfl ?_
  generalize hw3 : e_up w 1 7 z2 = w3
  have q4 : kq cd w w3 := kq.up kq.r hR.1 hw3 (by decide) (fun _ => by decide) (fun g => absurd g.symm hn.1)
  refine e_Pn.run (t' := (13, [(0, (1, 1)), (1, (0, x))], [(0, x), (1, 358)], w3)) kAlk 2 rfl ?_
  refine e_Pn.unU kAlk 0 (fun _ => rfl) rfl (fun z5 => ?_)
  refine e_Pn.SU kAlk g_ixU rfl (fun z6 => ?_)
  refine e_Pn.run (t' := (20, [(2, (0, z6)), (0, (1, 1)), (1, (0, x))], [(0, z6), (1, 1)], w3)) kAlk 3 rfl ?_
  refine e_Pn.if1 kAlk rfl (fun h7 => ?_) (fun h7 => ?_)
  · show e_Pn 20 elay kcode eI n d 128 (27, [(2, (0, z6)), (0, (1, 1)), (1, (0, x))], [(1, 1)], w3) _
    refine e_Pn.run (t' := (30, [(2, (0, z6)), (0, (1, 1)), (1, (0, x))], [(0, z6), (0, 8), (1, 1)], w3)) kAlk 2 rfl ?_
    refine e_Pn.bin0 kAlk rfl (fun z8 hz8 => ?_)
    refine e_Pn.putf kAlk rfl rfl ?_
    generalize hw9 : e_up w3 1 5 z8 = w9
    have q10 : kq cd w w9 := kq.up q4 hR.1 hw9 (by decide) (fun _ => by decide) (fun g => absurd g.symm hn.1)
    refine e_Pn.run (t' := (36, [(2, (0, z6)), (0, (1, 1)), (1, (0, x))], [(1, 1), (1, 1)], w9)) kAlk 2 rfl ?_
    refine e_Pn.getf (z := w9 1 7) kAlk rfl rfl rfl (fun b11 => ?_)
    refine e_Pn.callA rfl (fun n9 d9 => u_120 (q10.rf hR)) (fun r13 w14 h12 => ?_)
    obtain ⟨⟨z15, rfl⟩, h12⟩ := h12
    have q16 := q10.tr h12
    show e_Pn 20 elay kcode eI n d 128 (42, [(2, (0, z6)), (0, (1, 1)), (1, (0, x))], [(0, z15)], w14) _
    refine e_Pn.run (t' := (44, [(2, (0, z6)), (0, (1, 1)), (1, (0, x))], [(0, 61), (0, z15)], w14)) kAlk 1 rfl ?_
    refine e_Pn.if2 kAlk rfl (fun h17 => ?_) (fun h17 => ?_)
    · show e_Pn 20 elay kcode eI n d 128 (48, [(2, (0, z6)), (0, (1, 1)), (1, (0, x))], [], w14) _
      refine e_Pn.run (t' := (51, [(2, (0, z6)), (0, (1, 1)), (1, (0, x))], [(0, 33), (0, x)], w14)) kAlk 2 rfl ?_
      refine e_Pn.if2 kAlk rfl (fun h18 => ?_) (fun h18 => ?_)
      · show e_Pn 20 elay kcode eI n d 128 (62, [(2, (0, z6)), (0, (1, 1)), (1, (0, x))], [], w14) _
        refine e_Pn.run (t' := (65, [(2, (0, z6)), (0, (1, 1)), (1, (0, x))], [(0, 60), (0, x)], w14)) kAlk 2 rfl ?_
        refine e_Pn.if2 kAlk rfl (fun h19 => ?_) (fun h19 => ?_)
        · show e_Pn 20 elay kcode eI n d 128 (77, [(2, (0, z6)), (0, (1, 1)), (1, (0, x))], [], w14) _
          refine e_Pn.run (t' := (80, [(2, (0, z6)), (0, (1, 1)), (1, (0, x))], [(0, 62), (0, x)], w14)) kAlk 2 rfl ?_
          refine e_Pn.if2 kAlk rfl (fun h20 => ?_) (fun h20 => ?_)
          · show e_Pn 20 elay kcode eI n d 128 (92, [(2, (0, z6)), (0, (1, 1)), (1, (0, x))], [], w14) _
            exact e_Pn.ret0 rfl ⟨rfl, q16⟩
          · show e_Pn 20 elay kcode eI n d 128 (83, [(2, (0, z6)), (0, (1, 1)), (1, (0, x))], [], w14) _
            refine e_Pn.run (t' := (86, [(2, (0, z6)), (0, (1, 1)), (1, (0, x))], [(0, 7), (1, 1)], w14)) kAlk 2 rfl ?_
            refine e_Pn.putf kAlk rfl rfl ?_
            generalize hw21 : e_up w14 1 5 7 = w21
            have q22 : kq cd w w21 := kq.up q16 hR.1 hw21 (by decide) (fun _ => by decide) (fun g => absurd g.symm hn.1)
            refine e_Pn.run (t' := (95, [(2, (0, z6)), (0, (1, 1)), (1, (0, x))], [(1, 1), (1, 1)], w21)) kAlk 3 rfl ?_
            refine e_Pn.getf (z := w21 1 7) kAlk rfl rfl rfl (fun b23 => ?_)
            refine e_Pn.run (t' := (99, [(2, (0, z6)), (0, (1, 1)), (1, (0, x))], [(0, 1), (0, w21 1 7), (1, 1)], w21)) kAlk 1 rfl ?_
            refine e_Pn.bin0 kAlk rfl (fun z24 hz24 => ?_)
            refine e_Pn.putf kAlk rfl rfl ?_
            generalize hw25 : e_up w21 1 7 z24 = w25
            have q26 : kq cd w w25 := kq.up q22 hR.1 hw25 (by decide) (fun _ => by decide) (fun g => absurd g.symm hn.1)
            exact e_Pn.ret0 rfl ⟨rfl, q26⟩
        · show e_Pn 20 elay kcode eI n d 128 (68, [(2, (0, z6)), (0, (1, 1)), (1, (0, x))], [], w14) _
          refine e_Pn.run (t' := (71, [(2, (0, z6)), (0, (1, 1)), (1, (0, x))], [(0, 6), (1, 1)], w14)) kAlk 2 rfl ?_
          refine e_Pn.putf kAlk rfl rfl ?_
          generalize hw27 : e_up w14 1 5 6 = w27
          have q28 : kq cd w w27 := kq.up q16 hR.1 hw27 (by decide) (fun _ => by decide) (fun g => absurd g.symm hn.1)
          refine e_Pn.run (t' := (95, [(2, (0, z6)), (0, (1, 1)), (1, (0, x))], [(1, 1), (1, 1)], w27)) kAlk 3 rfl ?_
          refine e_Pn.getf (z := w27 1 7) kAlk rfl rfl rfl (fun b29 => ?_)
          refine e_Pn.run (t' := (99, [(2, (0, z6)), (0, (1, 1)), (1, (0, x))], [(0, 1), (0, w27 1 7), (1, 1)], w27)) kAlk 1 rfl ?_
          refine e_Pn.bin0 kAlk rfl (fun z30 hz30 => ?_)
          refine e_Pn.putf kAlk rfl rfl ?_
          generalize hw31 : e_up w27 1 7 z30 = w31
          have q32 : kq cd w w31 := kq.up q28 hR.1 hw31 (by decide) (fun _ => by decide) (fun g => absurd g.symm hn.1)
          exact e_Pn.ret0 rfl ⟨rfl, q32⟩
      · show e_Pn 20 elay kcode eI n d 128 (54, [(2, (0, z6)), (0, (1, 1)), (1, (0, x))], [], w14) _
        refine e_Pn.run (t' := (56, [(2, (0, z6)), (0, (1, 1)), (1, (0, x))], [(0, 5), (1, 1)], w14)) kAlk 2 rfl ?_
        refine e_Pn.putf kAlk rfl rfl ?_
        generalize hw33 : e_up w14 1 5 5 = w33
        have q34 : kq cd w w33 := kq.up q16 hR.1 hw33 (by decide) (fun _ => by decide) (fun g => absurd g.symm hn.1)
        refine e_Pn.run (t' := (95, [(2, (0, z6)), (0, (1, 1)), (1, (0, x))], [(1, 1), (1, 1)], w33)) kAlk 3 rfl ?_
        refine e_Pn.getf (z := w33 1 7) kAlk rfl rfl rfl (fun b35 => ?_)
        refine e_Pn.run (t' := (99, [(2, (0, z6)), (0, (1, 1)), (1, (0, x))], [(0, 1), (0, w33 1 7), (1, 1)], w33)) kAlk 1 rfl ?_
        refine e_Pn.bin0 kAlk rfl (fun z36 hz36 => ?_)
        refine e_Pn.putf kAlk rfl rfl ?_
        generalize hw37 : e_up w33 1 7 z36 = w37
        have q38 : kq cd w w37 := kq.up q34 hR.1 hw37 (by decide) (fun _ => by decide) (fun g => absurd g.symm hn.1)
        exact e_Pn.ret0 rfl ⟨rfl, q38⟩
    · show e_Pn 20 elay kcode eI n d 128 (47, [(2, (0, z6)), (0, (1, 1)), (1, (0, x))], [], w14) _
      exact e_Pn.ret0 rfl ⟨rfl, q16⟩
  · show e_Pn 20 elay kcode eI n d 128 (23, [(2, (0, z6)), (0, (1, 1)), (1, (0, x))], [(1, 1)], w3) _
    refine e_Pn.run (t' := (31, [(2, (0, z6)), (0, (1, 1)), (1, (0, x))], [(0, 3), (1, 1)], w3)) kAlk 2 rfl ?_
    refine e_Pn.putf kAlk rfl rfl ?_
    generalize hw39 : e_up w3 1 5 3 = w39
    have q40 : kq cd w w39 := kq.up q4 hR.1 hw39 (by decide) (fun _ => by decide) (fun g => absurd g.symm hn.1)
    refine e_Pn.run (t' := (36, [(2, (0, z6)), (0, (1, 1)), (1, (0, x))], [(1, 1), (1, 1)], w39)) kAlk 2 rfl ?_
    refine e_Pn.getf (z := w39 1 7) kAlk rfl rfl rfl (fun b41 => ?_)
    refine e_Pn.callA rfl (fun n9 d9 => u_120 (q40.rf hR)) (fun r43 w44 h42 => ?_)
    obtain ⟨⟨z45, rfl⟩, h42⟩ := h42
    have q46 := q40.tr h42
    show e_Pn 20 elay kcode eI n d 128 (42, [(2, (0, z6)), (0, (1, 1)), (1, (0, x))], [(0, z45)], w44) _
    refine e_Pn.run (t' := (44, [(2, (0, z6)), (0, (1, 1)), (1, (0, x))], [(0, 61), (0, z45)], w44)) kAlk 1 rfl ?_
    refine e_Pn.if2 kAlk rfl (fun h47 => ?_) (fun h47 => ?_)
    · show e_Pn 20 elay kcode eI n d 128 (48, [(2, (0, z6)), (0, (1, 1)), (1, (0, x))], [], w44) _
      refine e_Pn.run (t' := (51, [(2, (0, z6)), (0, (1, 1)), (1, (0, x))], [(0, 33), (0, x)], w44)) kAlk 2 rfl ?_
      refine e_Pn.if2 kAlk rfl (fun h48 => ?_) (fun h48 => ?_)
      · show e_Pn 20 elay kcode eI n d 128 (62, [(2, (0, z6)), (0, (1, 1)), (1, (0, x))], [], w44) _
        refine e_Pn.run (t' := (65, [(2, (0, z6)), (0, (1, 1)), (1, (0, x))], [(0, 60), (0, x)], w44)) kAlk 2 rfl ?_
        refine e_Pn.if2 kAlk rfl (fun h49 => ?_) (fun h49 => ?_)
        · show e_Pn 20 elay kcode eI n d 128 (77, [(2, (0, z6)), (0, (1, 1)), (1, (0, x))], [], w44) _
          refine e_Pn.run (t' := (80, [(2, (0, z6)), (0, (1, 1)), (1, (0, x))], [(0, 62), (0, x)], w44)) kAlk 2 rfl ?_
          refine e_Pn.if2 kAlk rfl (fun h50 => ?_) (fun h50 => ?_)
          · show e_Pn 20 elay kcode eI n d 128 (92, [(2, (0, z6)), (0, (1, 1)), (1, (0, x))], [], w44) _
            exact e_Pn.ret0 rfl ⟨rfl, q46⟩
          · show e_Pn 20 elay kcode eI n d 128 (83, [(2, (0, z6)), (0, (1, 1)), (1, (0, x))], [], w44) _
            refine e_Pn.run (t' := (86, [(2, (0, z6)), (0, (1, 1)), (1, (0, x))], [(0, 7), (1, 1)], w44)) kAlk 2 rfl ?_
            refine e_Pn.putf kAlk rfl rfl ?_
            generalize hw51 : e_up w44 1 5 7 = w51
            have q52 : kq cd w w51 := kq.up q46 hR.1 hw51 (by decide) (fun _ => by decide) (fun g => absurd g.symm hn.1)
            refine e_Pn.run (t' := (95, [(2, (0, z6)), (0, (1, 1)), (1, (0, x))], [(1, 1), (1, 1)], w51)) kAlk 3 rfl ?_
            refine e_Pn.getf (z := w51 1 7) kAlk rfl rfl rfl (fun b53 => ?_)
            refine e_Pn.run (t' := (99, [(2, (0, z6)), (0, (1, 1)), (1, (0, x))], [(0, 1), (0, w51 1 7), (1, 1)], w51)) kAlk 1 rfl ?_
            refine e_Pn.bin0 kAlk rfl (fun z54 hz54 => ?_)
            refine e_Pn.putf kAlk rfl rfl ?_
            generalize hw55 : e_up w51 1 7 z54 = w55
            have q56 : kq cd w w55 := kq.up q52 hR.1 hw55 (by decide) (fun _ => by decide) (fun g => absurd g.symm hn.1)
            exact e_Pn.ret0 rfl ⟨rfl, q56⟩
        · show e_Pn 20 elay kcode eI n d 128 (68, [(2, (0, z6)), (0, (1, 1)), (1, (0, x))], [], w44) _
          refine e_Pn.run (t' := (71, [(2, (0, z6)), (0, (1, 1)), (1, (0, x))], [(0, 6), (1, 1)], w44)) kAlk 2 rfl ?_
          refine e_Pn.putf kAlk rfl rfl ?_
          generalize hw57 : e_up w44 1 5 6 = w57
          have q58 : kq cd w w57 := kq.up q46 hR.1 hw57 (by decide) (fun _ => by decide) (fun g => absurd g.symm hn.1)
          refine e_Pn.run (t' := (95, [(2, (0, z6)), (0, (1, 1)), (1, (0, x))], [(1, 1), (1, 1)], w57)) kAlk 3 rfl ?_
          refine e_Pn.getf (z := w57 1 7) kAlk rfl rfl rfl (fun b59 => ?_)
          refine e_Pn.run (t' := (99, [(2, (0, z6)), (0, (1, 1)), (1, (0, x))], [(0, 1), (0, w57 1 7), (1, 1)], w57)) kAlk 1 rfl ?_
          refine e_Pn.bin0 kAlk rfl (fun z60 hz60 => ?_)
          refine e_Pn.putf kAlk rfl rfl ?_
          generalize hw61 : e_up w57 1 7 z60 = w61
          have q62 : kq cd w w61 := kq.up q58 hR.1 hw61 (by decide) (fun _ => by decide) (fun g => absurd g.symm hn.1)
          exact e_Pn.ret0 rfl ⟨rfl, q62⟩
      · show e_Pn 20 elay kcode eI n d 128 (54, [(2, (0, z6)), (0, (1, 1)), (1, (0, x))], [], w44) _
        refine e_Pn.run (t' := (56, [(2, (0, z6)), (0, (1, 1)), (1, (0, x))], [(0, 5), (1, 1)], w44)) kAlk 2 rfl ?_
        refine e_Pn.putf kAlk rfl rfl ?_
        generalize hw63 : e_up w44 1 5 5 = w63
        have q64 : kq cd w w63 := kq.up q46 hR.1 hw63 (by decide) (fun _ => by decide) (fun g => absurd g.symm hn.1)
        refine e_Pn.run (t' := (95, [(2, (0, z6)), (0, (1, 1)), (1, (0, x))], [(1, 1), (1, 1)], w63)) kAlk 3 rfl ?_
        refine e_Pn.getf (z := w63 1 7) kAlk rfl rfl rfl (fun b65 => ?_)
        refine e_Pn.run (t' := (99, [(2, (0, z6)), (0, (1, 1)), (1, (0, x))], [(0, 1), (0, w63 1 7), (1, 1)], w63)) kAlk 1 rfl ?_
        refine e_Pn.bin0 kAlk rfl (fun z66 hz66 => ?_)
        refine e_Pn.putf kAlk rfl rfl ?_
        generalize hw67 : e_up w63 1 7 z66 = w67
        have q68 : kq cd w w67 := kq.up q64 hR.1 hw67 (by decide) (fun _ => by decide) (fun g => absurd g.symm hn.1)
        exact e_Pn.ret0 rfl ⟨rfl, q68⟩
    · show e_Pn 20 elay kcode eI n d 128 (47, [(2, (0, z6)), (0, (1, 1)), (1, (0, x))], [], w44) _
      exact e_Pn.ret0 rfl ⟨rfl, q46⟩
theorem u_123 {n d : Nat} {w : eW} {cd : Int} (hR : kRw cd w) : e_Pn 20 elay kcode eI n d 123 (0, [(0, (1, 1))], [], w) (fun r w' => r = [] ∧ kq cd w w') := by
  have hn := hR.1.n
  refine e_Pn.run (t' := (1, [(0, (1, 1))], [(1, 1)], w)) kAlk 1 rfl ?_
  refine e_Pn.callA rfl (fun n9 d9 => u_124 (kq.r.rf hR)) (fun r2 w3 h1 => ?_)
  obtain ⟨rfl, h1⟩ := h1
  have q4 := kq.r.tr h1
  show e_Pn 20 elay kcode eI n d 123 (4, [(0, (1, 1))], [], w3) _
  refine e_Pn.run (t' := (6, [(0, (1, 1))], [(1, 1), (1, 1)], w3)) kAlk 2 rfl ?_
  refine e_Pn.getf (z := w3 1 7) kAlk rfl rfl rfl (fun b5 => ?_)
  refine e_Pn.putf kAlk rfl rfl ?_
  generalize hw6 : e_up w3 1 6 (w3 1 7) = w6
  have q7 : kq cd w w6 := kq.up q4 hR.1 hw6 (by decide) (fun _ => by decide) (fun g => absurd g.symm hn.1)
  refine e_Pn.run (t' := (14, [(0, (1, 1))], [(1, 1), (1, 1)], w6)) kAlk 2 rfl ?_
  refine e_Pn.getf (z := w6 1 7) kAlk rfl rfl rfl (fun b8 => ?_)
  refine e_Pn.callA rfl (fun n9 d9 => u_120 (q7.rf hR)) (fun r10 w11 h9 => ?_)
  obtain ⟨⟨z12, rfl⟩, h9⟩ := h9
  have q13 := q7.tr h9
  show e_Pn 20 elay kcode eI n d 123 (20, [(0, (1, 1))], [(0, z12)], w11) _
  refine e_Pn.run (t' := (22, [(1, (0, z12)), (0, (1, 1))], [(1, 1)], w11)) kAlk 2 rfl ?_
  refine e_Pn.getf (z := w11 1 7) kAlk rfl rfl rfl (fun b14 => ?_)
  refine e_Pn.run (t' := (26, [(1, (0, z12)), (0, (1, 1))], [(1, 1), (0, w11 1 7)], w11)) kAlk 1 rfl ?_
  refine e_Pn.getf (z := w11 1 0) kAlk rfl rfl rfl (fun b15 => ?_)
  refine e_Pn.if2 kAlk rfl (fun h16 => ?_) (fun h16 => ?_)
  · show e_Pn 20 elay kcode eI n d 123 (40, [(1, (0, z12)), (0, (1, 1))], [], w11) _
    refine e_Pn.run (t' := (41, [(1, (0, z12)), (0, (1, 1))], [(0, z12)], w11)) kAlk 1 rfl ?_
    refine e_Pn.callA rfl (fun n9 d9 => u_121 (q13.rf hR)) (fun r18 w19 h17 => ?_)
    obtain ⟨⟨z20, rfl⟩, h17⟩ := h17
    have q21 := q13.tr h17
    show e_Pn 20 elay kcode eI n d 123 (44, [(1, (0, z12)), (0, (1, 1))], [(0, z20)], w19) _
    refine e_Pn.if1 kAlk rfl (fun h22 => ?_) (fun h22 => ?_)
    · show e_Pn 20 elay kcode eI n d 123 (54, [(1, (0, z12)), (0, (1, 1))], [], w19) _
      refine e_Pn.run (t' := (55, [(1, (0, z12)), (0, (1, 1))], [(0, z12)], w19)) kAlk 1 rfl ?_
      refine e_Pn.callA rfl (fun n9 d9 => u_122 (q21.rf hR)) (fun r24 w25 h23 => ?_)
      obtain ⟨⟨z26, rfl⟩, h23⟩ := h23
      have q27 := q21.tr h23
      show e_Pn 20 elay kcode eI n d 123 (58, [(1, (0, z12)), (0, (1, 1))], [(0, z26)], w25) _
      refine e_Pn.if1 kAlk rfl (fun h28 => ?_) (fun h28 => ?_)
      · show e_Pn 20 elay kcode eI n d 123 (68, [(1, (0, z12)), (0, (1, 1))], [], w25) _
        refine e_Pn.run (t' := (70, [(1, (0, z12)), (0, (1, 1))], [(0, z12), (1, 1)], w25)) kAlk 2 rfl ?_
        refine e_Pn.callA rfl (fun n9 d9 => u_128 (q27.rf hR)) (fun r30 w31 h29 => ?_)
        obtain ⟨rfl, h29⟩ := h29
        have q32 := q27.tr h29
        show e_Pn 20 elay kcode eI n d 123 (73, [(1, (0, z12)), (0, (1, 1))], [], w31) _
        exact e_Pn.ret0 rfl ⟨rfl, q32⟩
      · show e_Pn 20 elay kcode eI n d 123 (61, [(1, (0, z12)), (0, (1, 1))], [], w25) _
        refine e_Pn.run (t' := (62, [(1, (0, z12)), (0, (1, 1))], [(1, 1)], w25)) kAlk 1 rfl ?_
        refine e_Pn.callA rfl (fun n9 d9 => u_125 (q27.rf hR)) (fun r34 w35 h33 => ?_)
        obtain ⟨rfl, h33⟩ := h33
        have q36 := q27.tr h33
        show e_Pn 20 elay kcode eI n d 123 (65, [(1, (0, z12)), (0, (1, 1))], [], w35) _
        refine e_Pn.run (t' := (73, [(1, (0, z12)), (0, (1, 1))], [], w35)) kAlk 1 rfl ?_
        exact e_Pn.ret0 rfl ⟨rfl, q36⟩
    · show e_Pn 20 elay kcode eI n d 123 (47, [(1, (0, z12)), (0, (1, 1))], [], w19) _
      refine e_Pn.run (t' := (48, [(1, (0, z12)), (0, (1, 1))], [(1, 1)], w19)) kAlk 1 rfl ?_
      refine e_Pn.callA rfl (fun n9 d9 => u_127 (q21.rf hR)) (fun r38 w39 h37 => ?_)
      obtain ⟨rfl, h37⟩ := h37
      have q40 := q21.tr h37
      show e_Pn 20 elay kcode eI n d 123 (51, [(1, (0, z12)), (0, (1, 1))], [], w39) _
      refine e_Pn.run (t' := (73, [(1, (0, z12)), (0, (1, 1))], [], w39)) kAlk 1 rfl ?_
      exact e_Pn.ret0 rfl ⟨rfl, q40⟩
  · show e_Pn 20 elay kcode eI n d 123 (32, [(1, (0, z12)), (0, (1, 1))], [], w11) _
    refine e_Pn.run (t' := (34, [(1, (0, z12)), (0, (1, 1))], [(0, 0), (1, 1)], w11)) kAlk 2 rfl ?_
    refine e_Pn.putf kAlk rfl rfl ?_
    generalize hw41 : e_up w11 1 5 0 = w41
    have q42 : kq cd w w41 := kq.up q13 hR.1 hw41 (by decide) (fun _ => by decide) (fun g => absurd g.symm hn.1)
    refine e_Pn.run (t' := (73, [(1, (0, z12)), (0, (1, 1))], [], w41)) kAlk 1 rfl ?_
    exact e_Pn.ret0 rfl ⟨rfl, q42⟩
theorem u_131 {n d : Nat} {w : eW} {cd : Int} (hR : kRw cd w) {x : Int} : e_Pn 20 elay kcode eI n d 131 (0, [(0, (1, 1)), (1, (0, x))], [], w) (fun r w' => r = [] ∧ kq cd w w') := by
  have hn := hR.1.n
  refine e_Pn.run (t' := (1, [(0, (1, 1)), (1, (0, x))], [(1, 1)], w)) kAlk 1 rfl ?_
  refine e_Pn.getf (z := w 1 1) kAlk rfl rfl rfl (fun b1 => ?_)
  refine e_Pn.if1 kAlk rfl (fun h2 => ?_) (fun h2 => ?_)
  · show e_Pn 20 elay kcode eI n d 131 (20, [(0, (1, 1)), (1, (0, x))], [], w) _
    refine e_Pn.run (t' := (22, [(0, (1, 1)), (1, (0, x))], [(0, 4), (1, 1)], w)) kAlk 2 rfl ?_
    refine e_Pn.putf kAlk rfl rfl ?_
    generalize hw3 : e_up w 1 5 4 = w3
    have q4 : kq cd w w3 := kq.up kq.r hR.1 hw3 (by decide) (fun _ => by decide) (fun g => absurd g.symm hn.1)
    exact e_Pn.ret0 rfl ⟨rfl, q4⟩
  · show e_Pn 20 elay kcode eI n d 131 (7, [(0, (1, 1)), (1, (0, x))], [], w) _
    have hz : w 1 1 = 0 := Decidable.not_not.mp h2
    refine e_Pn.run (t' := (9, [(0, (1, 1)), (1, (0, x))], [(0, x), (1, 1)], w)) kAlk 2 rfl ?_
    refine e_Pn.putf kAlk rfl rfl ?_
    generalize hw5 : e_up w 1 1 x = w5
    have q6 : kq cd w w5 := kq.upS kq.r hR.1 hz hw5 (by decide)
    refine e_Pn.run (t' := (14, [(0, (1, 1)), (1, (0, x))], [(1, 1), (1, 1)], w5)) kAlk 2 rfl ?_
    refine e_Pn.getf (z := w5 1 6) kAlk rfl rfl rfl (fun b7 => ?_)
    refine e_Pn.putf kAlk rfl rfl ?_
    generalize hw8 : e_up w5 1 2 (w5 1 6) = w8
    have q9 : kq cd w w8 := kq.upS q6 hR.1 hz hw8 (by decide)
    refine e_Pn.run (t' := (22, [(0, (1, 1)), (1, (0, x))], [(0, 4), (1, 1)], w8)) kAlk 2 rfl ?_
    refine e_Pn.putf kAlk rfl rfl ?_
    generalize hw10 : e_up w8 1 5 4 = w10
    have q11 : kq cd w w10 := kq.up q9 hR.1 hw10 (by decide) (fun _ => by decide) (fun g => absurd g.symm hn.1)
    exact e_Pn.ret0 rfl ⟨rfl, q11⟩
theorem u_130 {n d : Nat} {w : eW} {cd : Int} (hR : kRw cd w) : e_Pn 20 elay kcode eI n d 130 (0, [(0, (1, 1))], [], w) (fun r w' => r = [] ∧ kq cd w w') := by
  have hn := hR.1.n
  refine e_Pn.run (t' := (2, [(0, (1, 1))], [(1, 1), (1, 1)], w)) kAlk 2 rfl ?_
  refine e_Pn.getf (z := w 1 5) kAlk rfl rfl rfl (fun b1 => ?_)
  refine e_Pn.run (t' := (6, [(0, (1, 1))], [(0, 3), (0, w 1 5), (1, 1)], w)) kAlk 1 rfl ?_
  refine e_Pn.if2 kAlk rfl (fun h2 => ?_) (fun h2 => ?_)
  · show e_Pn 20 elay kcode eI n d 130 (13, [(0, (1, 1))], [(1, 1)], w) _
    refine e_Pn.run (t' := (14, [(0, (1, 1))], [(0, 2), (1, 1)], w)) kAlk 1 rfl ?_
    refine e_Pn.callA rfl (fun n9 d9 => u_131 (kq.r.rf hR)) (fun r4 w5 h3 => ?_)
    obtain ⟨rfl, h3⟩ := h3
    have q6 := kq.r.tr h3
    show e_Pn 20 elay kcode eI n d 130 (17, [(0, (1, 1))], [], w5) _
    exact e_Pn.ret0 rfl ⟨rfl, q6⟩
  · show e_Pn 20 elay kcode eI n d 130 (9, [(0, (1, 1))], [(1, 1)], w) _
    refine e_Pn.run (t' := (14, [(0, (1, 1))], [(0, 1), (1, 1)], w)) kAlk 2 rfl ?_
    refine e_Pn.callA rfl (fun n9 d9 => u_131 (kq.r.rf hR)) (fun r8 w9 h7 => ?_)
    obtain ⟨rfl, h7⟩ := h7
    have q10 := kq.r.tr h7
    show e_Pn 20 elay kcode eI n d 130 (17, [(0, (1, 1))], [], w9) _
    exact e_Pn.ret0 rfl ⟨rfl, q10⟩
theorem u_129 {n d : Nat} {w : eW} {cd : Int} (hR : kRw cd w) {x : Int} : e_Pn 20 elay kcode eI n d 129 (0, [(0, (1, 1)), (1, (0, x))], [], w) (fun r w' => r = [] ∧ kq cd w w') := by
  have hn := hR.1.n
  refine e_Pn.run (t' := (1, [(0, (1, 1)), (1, (0, x))], [(1, 1)], w)) kAlk 1 rfl ?_
  refine e_Pn.getf (z := w 1 5) kAlk rfl rfl rfl (fun b1 => ?_)
  refine e_Pn.run (t' := (5, [(0, (1, 1)), (1, (0, x))], [(0, x), (0, w 1 5)], w)) kAlk 1 rfl ?_
  refine e_Pn.if2 kAlk rfl (fun h2 => ?_) (fun h2 => ?_)
  · show e_Pn 20 elay kcode eI n d 129 (15, [(0, (1, 1)), (1, (0, x))], [], w) _
    refine e_Pn.run (t' := (16, [(0, (1, 1)), (1, (0, x))], [(1, 1)], w)) kAlk 1 rfl ?_
    refine e_Pn.callA rfl (fun n9 d9 => u_130 (kq.r.rf hR)) (fun r4 w5 h3 => ?_)
    obtain ⟨rfl, h3⟩ := h3
    have q6 := kq.r.tr h3
    show e_Pn 20 elay kcode eI n d 129 (19, [(0, (1, 1)), (1, (0, x))], [], w5) _
    exact e_Pn.ret0 rfl ⟨rfl, q6⟩
  · show e_Pn 20 elay kcode eI n d 129 (8, [(0, (1, 1)), (1, (0, x))], [], w) _
    refine e_Pn.run (t' := (9, [(0, (1, 1)), (1, (0, x))], [(1, 1)], w)) kAlk 1 rfl ?_
    refine e_Pn.callA rfl (fun n9 d9 => u_123 (kq.r.rf hR)) (fun r8 w9 h7 => ?_)
    obtain ⟨rfl, h7⟩ := h7
    have q10 := kq.r.tr h7
    show e_Pn 20 elay kcode eI n d 129 (12, [(0, (1, 1)), (1, (0, x))], [], w9) _
    refine e_Pn.run (t' := (19, [(0, (1, 1)), (1, (0, x))], [], w9)) kAlk 1 rfl ?_
    exact e_Pn.ret0 rfl ⟨rfl, q10⟩
theorem u_132 {n d : Nat} {w : eW} {cd : Int} (hR : kRw cd w) : e_Pn 20 elay kcode eI n d 132 (0, [(0, (1, 1))], [], w) (fun r w' => (∃ z : Int, r = [(0, z)]) ∧ kq cd w w') := by
  have hn := hR.1.n
  refine e_Pn.run (t' := (1, [(0, (1, 1))], [(1, 1)], w)) kAlk 1 rfl ?_
  refine e_Pn.getf (z := w 1 11) kAlk rfl rfl rfl (fun b1 => ?_)
  refine e_Pn.run (t' := (6, [(0, (1, 1))], [(0, 30), (0, w 1 11)], w)) kAlk 1 rfl ?_
  refine e_Pn.if2 kAlk rfl (fun h2 => ?_) (fun h2 => ?_)
  · show e_Pn 20 elay kcode eI n d 132 (16, [(0, (1, 1))], [], w) _
    refine e_Pn.run (t' := (18, [(0, (1, 1))], [(1, 1), (1, 1)], w)) kAlk 2 rfl ?_
    refine e_Pn.getf (z := w 1 11) kAlk rfl rfl rfl (fun b3 => ?_)
    refine e_Pn.run (t' := (22, [(0, (1, 1))], [(0, 1), (0, w 1 11), (1, 1)], w)) kAlk 1 rfl ?_
    refine e_Pn.bin0 kAlk rfl (fun z4 hz4 => ?_)
    refine e_Pn.putf kAlk rfl rfl ?_
    generalize hw5 : e_up w 1 11 z4 = w5
    have q6 : kq cd w w5 := kq.up kq.r hR.1 hw5 (by decide) (fun _ => by decide) (fun g => absurd g.symm hn.1)
    refine e_Pn.run (t' := (27, [(0, (1, 1))], [(0, 1)], w5)) kAlk 1 rfl ?_
    exact e_Pn.ret4 rfl ⟨⟨_, rfl⟩, q6⟩
  · show e_Pn 20 elay kcode eI n d 132 (9, [(0, (1, 1))], [], w) _
    refine e_Pn.run (t' := (11, [(0, (1, 1))], [(0, 3), (1, 1)], w)) kAlk 2 rfl ?_
    refine e_Pn.callA rfl (fun n9 d9 => u_131 (kq.r.rf hR)) (fun r8 w9 h7 => ?_)
    obtain ⟨rfl, h7⟩ := h7
    have q10 := kq.r.tr h7
    show e_Pn 20 elay kcode eI n d 132 (14, [(0, (1, 1))], [], w9) _
    refine e_Pn.run (t' := (15, [(0, (1, 1))], [(0, 0)], w9)) kAlk 1 rfl ?_
    exact e_Pn.ret4 rfl ⟨⟨_, rfl⟩, q10⟩
theorem u_133 {n d : Nat} {w : eW} {cd : Int} (hR : kRw cd w) {x : Int} {y : Int} : e_Pn 20 elay kcode eI n d 133 (0, [(0, (1, 1)), (1, (0, x)), (2, (0, y))], [], w) (fun r w' => r = [] ∧ kq cd w w') := by
  have hn := hR.1.n
  refine e_Pn.run (t' := (1, [(0, (1, 1)), (1, (0, x)), (2, (0, y))], [(1, 1)], w)) kAlk 1 rfl ?_
  refine e_Pn.getf (z := w 1 9) kAlk rfl rfl rfl (fun b1 => ?_)
  refine e_Pn.if1 kAlk rfl (fun h2 => ?_) (fun h2 => ?_)
  · show e_Pn 20 elay kcode eI n d 133 (15, [(0, (1, 1)), (1, (0, x)), (2, (0, y))], [], w) _
    refine e_Pn.run (t' := (22, [(3, (0, 1)), (0, (1, 1)), (1, (0, x)), (2, (0, y))], [(0, 1)], w)) kAlk 4 rfl ?_
    refine e_Pn.if1 kAlk rfl (fun h3 => ?_) (fun h3 => ?_)
    rotate_left
    · exfalso; have q9 : ¬ ((1 : Int) ≠ 0) := h3; omega
    show e_Pn 20 elay kcode eI n d 133 (42, [(3, (0, 1)), (0, (1, 1)), (1, (0, x)), (2, (0, y))], [], w) _
    refine e_Pn.run (t' := (44, [(3, (0, 1)), (0, (1, 1)), (1, (0, x)), (2, (0, y))], [(0, x), (1, 1)], w)) kAlk 2 rfl ?_
    refine e_Pn.putf kAlk rfl rfl ?_
    generalize hw4 : e_up w 1 9 x = w4
    have q5 : kq cd w w4 := kq.up kq.r hR.1 hw4 (by decide) (fun _ => by decide) (fun g => absurd g.symm hn.1)
    refine e_Pn.run (t' := (49, [(3, (0, 1)), (0, (1, 1)), (1, (0, x)), (2, (0, y))], [(0, y), (1, 1)], w4)) kAlk 2 rfl ?_
    refine e_Pn.putf kAlk rfl rfl ?_
    generalize hw6 : e_up w4 1 10 y = w6
    have q7 : kq cd w w6 := kq.up q5 hR.1 hw6 (by decide) (fun _ => by decide) (fun g => absurd g.symm hn.1)
    exact e_Pn.ret0 rfl ⟨rfl, q7⟩
  · show e_Pn 20 elay kcode eI n d 133 (7, [(0, (1, 1)), (1, (0, x)), (2, (0, y))], [], w) _
    refine e_Pn.run (t' := (9, [(0, (1, 1)), (1, (0, x)), (2, (0, y))], [(1, 1), (0, y)], w)) kAlk 2 rfl ?_
    refine e_Pn.getf (z := w 1 10) kAlk rfl rfl rfl (fun b8 => ?_)
    refine e_Pn.if2 kAlk rfl (fun h9 => ?_) (fun h9 => ?_)
    · show e_Pn 20 elay kcode eI n d 133 (19, [(0, (1, 1)), (1, (0, x)), (2, (0, y))], [], w) _
      refine e_Pn.run (t' := (22, [(3, (0, 0)), (0, (1, 1)), (1, (0, x)), (2, (0, y))], [(0, 0)], w)) kAlk 3 rfl ?_
      refine e_Pn.if1 kAlk rfl (fun h10 => ?_) (fun h10 => ?_)
      · exfalso; replace h10 : (0 : Int) ≠ 0 := h10; omega
      show e_Pn 20 elay kcode eI n d 133 (25, [(3, (0, 0)), (0, (1, 1)), (1, (0, x)), (2, (0, y))], [], w) _
      refine e_Pn.run (t' := (27, [(3, (0, 0)), (0, (1, 1)), (1, (0, x)), (2, (0, y))], [(1, 1), (0, y)], w)) kAlk 2 rfl ?_
      refine e_Pn.getf (z := w 1 10) kAlk rfl rfl rfl (fun b11 => ?_)
      refine e_Pn.if2 kAlk rfl (fun h12 => ?_) (fun h12 => ?_)
      · show e_Pn 20 elay kcode eI n d 133 (41, [(3, (0, 0)), (0, (1, 1)), (1, (0, x)), (2, (0, y))], [], w) _
        exact e_Pn.ret0 rfl ⟨rfl, kq.r⟩
      · show e_Pn 20 elay kcode eI n d 133 (33, [(3, (0, 0)), (0, (1, 1)), (1, (0, x)), (2, (0, y))], [], w) _
        refine e_Pn.run (t' := (35, [(3, (0, 0)), (0, (1, 1)), (1, (0, x)), (2, (0, y))], [(1, 1), (0, x)], w)) kAlk 2 rfl ?_
        refine e_Pn.getf (z := w 1 9) kAlk rfl rfl rfl (fun b13 => ?_)
        refine e_Pn.if2 kAlk rfl (fun h14 => ?_) (fun h14 => ?_)
        · show e_Pn 20 elay kcode eI n d 133 (42, [(3, (0, 0)), (0, (1, 1)), (1, (0, x)), (2, (0, y))], [], w) _
          refine e_Pn.run (t' := (44, [(3, (0, 0)), (0, (1, 1)), (1, (0, x)), (2, (0, y))], [(0, x), (1, 1)], w)) kAlk 2 rfl ?_
          refine e_Pn.putf kAlk rfl rfl ?_
          generalize hw15 : e_up w 1 9 x = w15
          have q16 : kq cd w w15 := kq.up kq.r hR.1 hw15 (by decide) (fun _ => by decide) (fun g => absurd g.symm hn.1)
          refine e_Pn.run (t' := (49, [(3, (0, 0)), (0, (1, 1)), (1, (0, x)), (2, (0, y))], [(0, y), (1, 1)], w15)) kAlk 2 rfl ?_
          refine e_Pn.putf kAlk rfl rfl ?_
          generalize hw17 : e_up w15 1 10 y = w17
          have q18 : kq cd w w17 := kq.up q16 hR.1 hw17 (by decide) (fun _ => by decide) (fun g => absurd g.symm hn.1)
          exact e_Pn.ret0 rfl ⟨rfl, q18⟩
        · show e_Pn 20 elay kcode eI n d 133 (41, [(3, (0, 0)), (0, (1, 1)), (1, (0, x)), (2, (0, y))], [], w) _
          exact e_Pn.ret0 rfl ⟨rfl, kq.r⟩
    · show e_Pn 20 elay kcode eI n d 133 (15, [(0, (1, 1)), (1, (0, x)), (2, (0, y))], [], w) _
      refine e_Pn.run (t' := (22, [(3, (0, 1)), (0, (1, 1)), (1, (0, x)), (2, (0, y))], [(0, 1)], w)) kAlk 4 rfl ?_
      refine e_Pn.if1 kAlk rfl (fun h19 => ?_) (fun h19 => ?_)
      rotate_left
      · exfalso; have q9 : ¬ ((1 : Int) ≠ 0) := h19; omega
      show e_Pn 20 elay kcode eI n d 133 (42, [(3, (0, 1)), (0, (1, 1)), (1, (0, x)), (2, (0, y))], [], w) _
      refine e_Pn.run (t' := (44, [(3, (0, 1)), (0, (1, 1)), (1, (0, x)), (2, (0, y))], [(0, x), (1, 1)], w)) kAlk 2 rfl ?_
      refine e_Pn.putf kAlk rfl rfl ?_
      generalize hw20 : e_up w 1 9 x = w20
      have q21 : kq cd w w20 := kq.up kq.r hR.1 hw20 (by decide) (fun _ => by decide) (fun g => absurd g.symm hn.1)
      refine e_Pn.run (t' := (49, [(3, (0, 1)), (0, (1, 1)), (1, (0, x)), (2, (0, y))], [(0, y), (1, 1)], w20)) kAlk 2 rfl ?_
      refine e_Pn.putf kAlk rfl rfl ?_
      generalize hw22 : e_up w20 1 10 y = w22
      have q23 : kq cd w w22 := kq.up q21 hR.1 hw22 (by decide) (fun _ => by decide) (fun g => absurd g.symm hn.1)
      exact e_Pn.ret0 rfl ⟨rfl, q23⟩
set_option maxHeartbeats 4000000 in
theorem u_134 {n d : Nat} {w : eW} {cd : Int} (hR : kRw cd w) {x : Int} {y : Int} : e_Pn 20 elay kcode eI n d 134 (0, [(0, (1, 1)), (1, (0, x)), (2, (0, y))], [], w) (fun r w' => (∃ z : Int, r = [(0, z)]) ∧ kq cd w w') := by
  have hn := hR.1.n
  refine e_Pn.run (t' := (2, [(3, (0, 0)), (0, (1, 1)), (1, (0, x)), (2, (0, y))], [], w)) kAlk 2 rfl ?_
  have hL1 : ∀ nn3 : Nat, nn3 ≤ n → ∀ (tl4 : eL) (y7 : Int) (y8 : Int) (y9 : Int) (w5 : eW), kq cd w w5 → e_Pn 20 elay kcode eI nn3 d 134 (2, (0, (1, 1)) :: (1, (0, y7)) :: (2, (0, y8)) :: (3, (0, y9)) :: tl4, [], w5) (fun r w' => (∃ z : Int, r = [(0, z)]) ∧ kq cd w w') := by
    intro nn3
    induction nn3 with
    | zero => intro _ tl4 y7 y8 y9 w5 _; exact e_Pn.zero
    | succ nn3 ih2 =>
      intro hnnn3 tl4 y7 y8 y9 w5 q6
      refine e_Pn.runS (t' := (5, (0, (1, 1)) :: (1, (0, y7)) :: (2, (0, y8)) :: (3, (0, y9)) :: tl4, [(0, 24), (0, y9)], w5)) kAlk 1 rfl ?_
      refine e_Pn.if2 kAlk rfl (fun h10 => ?_) (fun h10 => ?_)
      · show e_Pn 20 elay kcode eI nn3 d 134 (44, (0, (1, 1)) :: (1, (0, y7)) :: (2, (0, y8)) :: (3, (0, y9)) :: tl4, [], w5) _
        refine e_Pn.run (t' := (47, (0, (1, 1)) :: (1, (0, y7)) :: (2, (0, y8)) :: (3, (0, y9)) :: tl4, [(0, y9), (0, y7), (1, 1)], w5)) kAlk 3 rfl ?_
        refine e_Pn.bin0 kAlk rfl (fun z11 hz11 => ?_)
        refine e_Pn.callA rfl (fun n9 d9 => u_120 (q6.rf hR)) (fun r13 w14 h12 => ?_)
        obtain ⟨⟨z15, rfl⟩, h12⟩ := h12
        have q16 := q6.tr h12
        show e_Pn 20 elay kcode eI nn3 d 134 (51, (0, (1, 1)) :: (1, (0, y7)) :: (2, (0, y8)) :: (3, (0, y9)) :: tl4, [(0, z15)], w14) _
        refine e_Pn.callA rfl (fun n9 d9 => u_122 (q16.rf hR)) (fun r18 w19 h17 => ?_)
        obtain ⟨⟨z20, rfl⟩, h17⟩ := h17
        have q21 := q16.tr h17
        show e_Pn 20 elay kcode eI nn3 d 134 (54, (0, (1, 1)) :: (1, (0, y7)) :: (2, (0, y8)) :: (3, (0, y9)) :: tl4, [(0, z20)], w19) _
        refine e_Pn.if1 kAlk rfl (fun h22 => ?_) (fun h22 => ?_)
        · show e_Pn 20 elay kcode eI nn3 d 134 (74, (0, (1, 1)) :: (1, (0, y7)) :: (2, (0, y8)) :: (3, (0, y9)) :: tl4, [], w19) _
          refine e_Pn.run (t' := (75, (0, (1, 1)) :: (1, (0, y7)) :: (2, (0, y8)) :: (3, (0, y9)) :: tl4, [(0, 0)], w19)) kAlk 1 rfl ?_
          exact e_Pn.ret4 rfl ⟨⟨_, rfl⟩, q21⟩
        · show e_Pn 20 elay kcode eI nn3 d 134 (57, (0, (1, 1)) :: (1, (0, y7)) :: (2, (0, y8)) :: (3, (0, y9)) :: tl4, [], w19) _
          refine e_Pn.run (t' := (60, (0, (1, 1)) :: (1, (0, y7)) :: (2, (0, y8)) :: (3, (0, y9)) :: tl4, [(0, y9), (0, y8), (1, 1)], w19)) kAlk 3 rfl ?_
          refine e_Pn.bin0 kAlk rfl (fun z23 hz23 => ?_)
          refine e_Pn.callA rfl (fun n9 d9 => u_120 (q21.rf hR)) (fun r25 w26 h24 => ?_)
          obtain ⟨⟨z27, rfl⟩, h24⟩ := h24
          have q28 := q21.tr h24
          show e_Pn 20 elay kcode eI nn3 d 134 (64, (0, (1, 1)) :: (1, (0, y7)) :: (2, (0, y8)) :: (3, (0, y9)) :: tl4, [(0, z27)], w26) _
          refine e_Pn.callA rfl (fun n9 d9 => u_122 (q28.rf hR)) (fun r30 w31 h29 => ?_)
          obtain ⟨⟨z32, rfl⟩, h29⟩ := h29
          have q33 := q28.tr h29
          show e_Pn 20 elay kcode eI nn3 d 134 (67, (0, (1, 1)) :: (1, (0, y7)) :: (2, (0, y8)) :: (3, (0, y9)) :: tl4, [(0, z32)], w31) _
          refine e_Pn.if1 kAlk rfl (fun h34 => ?_) (fun h34 => ?_)
          · show e_Pn 20 elay kcode eI nn3 d 134 (74, (0, (1, 1)) :: (1, (0, y7)) :: (2, (0, y8)) :: (3, (0, y9)) :: tl4, [], w31) _
            refine e_Pn.run (t' := (75, (0, (1, 1)) :: (1, (0, y7)) :: (2, (0, y8)) :: (3, (0, y9)) :: tl4, [(0, 0)], w31)) kAlk 1 rfl ?_
            exact e_Pn.ret4 rfl ⟨⟨_, rfl⟩, q33⟩
          · show e_Pn 20 elay kcode eI nn3 d 134 (70, (0, (1, 1)) :: (1, (0, y7)) :: (2, (0, y8)) :: (3, (0, y9)) :: tl4, [], w31) _
            refine e_Pn.run (t' := (75, (0, (1, 1)) :: (1, (0, y7)) :: (2, (0, y8)) :: (3, (0, y9)) :: tl4, [(0, 1)], w31)) kAlk 2 rfl ?_
            exact e_Pn.ret4 rfl ⟨⟨_, rfl⟩, q33⟩
      · show e_Pn 20 elay kcode eI nn3 d 134 (8, (0, (1, 1)) :: (1, (0, y7)) :: (2, (0, y8)) :: (3, (0, y9)) :: tl4, [], w5) _
        refine e_Pn.run (t' := (11, (0, (1, 1)) :: (1, (0, y7)) :: (2, (0, y8)) :: (3, (0, y9)) :: tl4, [(0, y9), (0, y7), (1, 1)], w5)) kAlk 3 rfl ?_
        refine e_Pn.bin0 kAlk rfl (fun z35 hz35 => ?_)
        refine e_Pn.callA rfl (fun n9 d9 => u_120 (q6.rf hR)) (fun r37 w38 h36 => ?_)
        obtain ⟨⟨z39, rfl⟩, h36⟩ := h36
        have q40 := q6.tr h36
        show e_Pn 20 elay kcode eI nn3 d 134 (15, (0, (1, 1)) :: (1, (0, y7)) :: (2, (0, y8)) :: (3, (0, y9)) :: tl4, [(0, z39)], w38) _
        refine e_Pn.callA rfl (fun n9 d9 => u_122 (q40.rf hR)) (fun r42 w43 h41 => ?_)
        obtain ⟨⟨z44, rfl⟩, h41⟩ := h41
        have q45 := q40.tr h41
        show e_Pn 20 elay kcode eI nn3 d 134 (18, (0, (1, 1)) :: (1, (0, y7)) :: (2, (0, y8)) :: (3, (0, y9)) :: tl4, [(0, z44)], w43) _
        refine e_Pn.if1 kAlk rfl (fun h46 => ?_) (fun h46 => ?_)
        · show e_Pn 20 elay kcode eI nn3 d 134 (44, (0, (1, 1)) :: (1, (0, y7)) :: (2, (0, y8)) :: (3, (0, y9)) :: tl4, [], w43) _
          refine e_Pn.run (t' := (47, (0, (1, 1)) :: (1, (0, y7)) :: (2, (0, y8)) :: (3, (0, y9)) :: tl4, [(0, y9), (0, y7), (1, 1)], w43)) kAlk 3 rfl ?_
          refine e_Pn.bin0 kAlk rfl (fun z47 hz47 => ?_)
          refine e_Pn.callA rfl (fun n9 d9 => u_120 (q45.rf hR)) (fun r49 w50 h48 => ?_)
          obtain ⟨⟨z51, rfl⟩, h48⟩ := h48
          have q52 := q45.tr h48
          show e_Pn 20 elay kcode eI nn3 d 134 (51, (0, (1, 1)) :: (1, (0, y7)) :: (2, (0, y8)) :: (3, (0, y9)) :: tl4, [(0, z51)], w50) _
          refine e_Pn.callA rfl (fun n9 d9 => u_122 (q52.rf hR)) (fun r54 w55 h53 => ?_)
          obtain ⟨⟨z56, rfl⟩, h53⟩ := h53
          have q57 := q52.tr h53
          show e_Pn 20 elay kcode eI nn3 d 134 (54, (0, (1, 1)) :: (1, (0, y7)) :: (2, (0, y8)) :: (3, (0, y9)) :: tl4, [(0, z56)], w55) _
          refine e_Pn.if1 kAlk rfl (fun h58 => ?_) (fun h58 => ?_)
          · show e_Pn 20 elay kcode eI nn3 d 134 (74, (0, (1, 1)) :: (1, (0, y7)) :: (2, (0, y8)) :: (3, (0, y9)) :: tl4, [], w55) _
            refine e_Pn.run (t' := (75, (0, (1, 1)) :: (1, (0, y7)) :: (2, (0, y8)) :: (3, (0, y9)) :: tl4, [(0, 0)], w55)) kAlk 1 rfl ?_
            exact e_Pn.ret4 rfl ⟨⟨_, rfl⟩, q57⟩
          · show e_Pn 20 elay kcode eI nn3 d 134 (57, (0, (1, 1)) :: (1, (0, y7)) :: (2, (0, y8)) :: (3, (0, y9)) :: tl4, [], w55) _
            refine e_Pn.run (t' := (60, (0, (1, 1)) :: (1, (0, y7)) :: (2, (0, y8)) :: (3, (0, y9)) :: tl4, [(0, y9), (0, y8), (1, 1)], w55)) kAlk 3 rfl ?_
            refine e_Pn.bin0 kAlk rfl (fun z59 hz59 => ?_)
            refine e_Pn.callA rfl (fun n9 d9 => u_120 (q57.rf hR)) (fun r61 w62 h60 => ?_)
            obtain ⟨⟨z63, rfl⟩, h60⟩ := h60
            have q64 := q57.tr h60
            show e_Pn 20 elay kcode eI nn3 d 134 (64, (0, (1, 1)) :: (1, (0, y7)) :: (2, (0, y8)) :: (3, (0, y9)) :: tl4, [(0, z63)], w62) _
            refine e_Pn.callA rfl (fun n9 d9 => u_122 (q64.rf hR)) (fun r66 w67 h65 => ?_)
            obtain ⟨⟨z68, rfl⟩, h65⟩ := h65
            have q69 := q64.tr h65
            show e_Pn 20 elay kcode eI nn3 d 134 (67, (0, (1, 1)) :: (1, (0, y7)) :: (2, (0, y8)) :: (3, (0, y9)) :: tl4, [(0, z68)], w67) _
            refine e_Pn.if1 kAlk rfl (fun h70 => ?_) (fun h70 => ?_)
            · show e_Pn 20 elay kcode eI nn3 d 134 (74, (0, (1, 1)) :: (1, (0, y7)) :: (2, (0, y8)) :: (3, (0, y9)) :: tl4, [], w67) _
              refine e_Pn.run (t' := (75, (0, (1, 1)) :: (1, (0, y7)) :: (2, (0, y8)) :: (3, (0, y9)) :: tl4, [(0, 0)], w67)) kAlk 1 rfl ?_
              exact e_Pn.ret4 rfl ⟨⟨_, rfl⟩, q69⟩
            · show e_Pn 20 elay kcode eI nn3 d 134 (70, (0, (1, 1)) :: (1, (0, y7)) :: (2, (0, y8)) :: (3, (0, y9)) :: tl4, [], w67) _
              refine e_Pn.run (t' := (75, (0, (1, 1)) :: (1, (0, y7)) :: (2, (0, y8)) :: (3, (0, y9)) :: tl4, [(0, 1)], w67)) kAlk 2 rfl ?_
              exact e_Pn.ret4 rfl ⟨⟨_, rfl⟩, q69⟩
        · show e_Pn 20 elay kcode eI nn3 d 134 (21, (0, (1, 1)) :: (1, (0, y7)) :: (2, (0, y8)) :: (3, (0, y9)) :: tl4, [], w43) _
          refine e_Pn.run (t' := (24, (0, (1, 1)) :: (1, (0, y7)) :: (2, (0, y8)) :: (3, (0, y9)) :: tl4, [(0, y9), (0, y7), (1, 1)], w43)) kAlk 3 rfl ?_
          refine e_Pn.bin0 kAlk rfl (fun z71 hz71 => ?_)
          refine e_Pn.callA rfl (fun n9 d9 => u_120 (q45.rf hR)) (fun r73 w74 h72 => ?_)
          obtain ⟨⟨z75, rfl⟩, h72⟩ := h72
          have q76 := q45.tr h72
          show e_Pn 20 elay kcode eI nn3 d 134 (28, (0, (1, 1)) :: (1, (0, y7)) :: (2, (0, y8)) :: (3, (0, y9)) :: tl4, [(0, z75)], w74) _
          refine e_Pn.run (t' := (31, (0, (1, 1)) :: (1, (0, y7)) :: (2, (0, y8)) :: (3, (0, y9)) :: tl4, [(0, y9), (0, y8), (1, 1), (0, z75)], w74)) kAlk 3 rfl ?_
          refine e_Pn.bin0 kAlk rfl (fun z77 hz77 => ?_)
          refine e_Pn.callA rfl (fun n9 d9 => u_120 (q76.rf hR)) (fun r79 w80 h78 => ?_)
          obtain ⟨⟨z81, rfl⟩, h78⟩ := h78
          have q82 := q76.tr h78
          show e_Pn 20 elay kcode eI nn3 d 134 (35, (0, (1, 1)) :: (1, (0, y7)) :: (2, (0, y8)) :: (3, (0, y9)) :: tl4, [(0, z81), (0, z75)], w80) _
          refine e_Pn.if2 kAlk rfl (fun h83 => ?_) (fun h83 => ?_)
          · show e_Pn 20 elay kcode eI nn3 d 134 (44, (0, (1, 1)) :: (1, (0, y7)) :: (2, (0, y8)) :: (3, (0, y9)) :: tl4, [], w80) _
            refine e_Pn.run (t' := (47, (0, (1, 1)) :: (1, (0, y7)) :: (2, (0, y8)) :: (3, (0, y9)) :: tl4, [(0, y9), (0, y7), (1, 1)], w80)) kAlk 3 rfl ?_
            refine e_Pn.bin0 kAlk rfl (fun z84 hz84 => ?_)
            refine e_Pn.callA rfl (fun n9 d9 => u_120 (q82.rf hR)) (fun r86 w87 h85 => ?_)
            obtain ⟨⟨z88, rfl⟩, h85⟩ := h85
            have q89 := q82.tr h85
            show e_Pn 20 elay kcode eI nn3 d 134 (51, (0, (1, 1)) :: (1, (0, y7)) :: (2, (0, y8)) :: (3, (0, y9)) :: tl4, [(0, z88)], w87) _
            refine e_Pn.callA rfl (fun n9 d9 => u_122 (q89.rf hR)) (fun r91 w92 h90 => ?_)
            obtain ⟨⟨z93, rfl⟩, h90⟩ := h90
            have q94 := q89.tr h90
            show e_Pn 20 elay kcode eI nn3 d 134 (54, (0, (1, 1)) :: (1, (0, y7)) :: (2, (0, y8)) :: (3, (0, y9)) :: tl4, [(0, z93)], w92) _
            refine e_Pn.if1 kAlk rfl (fun h95 => ?_) (fun h95 => ?_)
            · show e_Pn 20 elay kcode eI nn3 d 134 (74, (0, (1, 1)) :: (1, (0, y7)) :: (2, (0, y8)) :: (3, (0, y9)) :: tl4, [], w92) _
              refine e_Pn.run (t' := (75, (0, (1, 1)) :: (1, (0, y7)) :: (2, (0, y8)) :: (3, (0, y9)) :: tl4, [(0, 0)], w92)) kAlk 1 rfl ?_
              exact e_Pn.ret4 rfl ⟨⟨_, rfl⟩, q94⟩
            · show e_Pn 20 elay kcode eI nn3 d 134 (57, (0, (1, 1)) :: (1, (0, y7)) :: (2, (0, y8)) :: (3, (0, y9)) :: tl4, [], w92) _
              refine e_Pn.run (t' := (60, (0, (1, 1)) :: (1, (0, y7)) :: (2, (0, y8)) :: (3, (0, y9)) :: tl4, [(0, y9), (0, y8), (1, 1)], w92)) kAlk 3 rfl ?_
              refine e_Pn.bin0 kAlk rfl (fun z96 hz96 => ?_)
              refine e_Pn.callA rfl (fun n9 d9 => u_120 (q94.rf hR)) (fun r98 w99 h97 => ?_)
              obtain ⟨⟨z100, rfl⟩, h97⟩ := h97
              have q101 := q94.tr h97
              show e_Pn 20 elay kcode eI nn3 d 134 (64, (0, (1, 1)) :: (1, (0, y7)) :: (2, (0, y8)) :: (3, (0, y9)) :: tl4, [(0, z100)], w99) _
              refine e_Pn.callA rfl (fun n9 d9 => u_122 (q101.rf hR)) (fun r103 w104 h102 => ?_)
              obtain ⟨⟨z105, rfl⟩, h102⟩ := h102
              have q106 := q101.tr h102
              show e_Pn 20 elay kcode eI nn3 d 134 (67, (0, (1, 1)) :: (1, (0, y7)) :: (2, (0, y8)) :: (3, (0, y9)) :: tl4, [(0, z105)], w104) _
              refine e_Pn.if1 kAlk rfl (fun h107 => ?_) (fun h107 => ?_)
              · show e_Pn 20 elay kcode eI nn3 d 134 (74, (0, (1, 1)) :: (1, (0, y7)) :: (2, (0, y8)) :: (3, (0, y9)) :: tl4, [], w104) _
                refine e_Pn.run (t' := (75, (0, (1, 1)) :: (1, (0, y7)) :: (2, (0, y8)) :: (3, (0, y9)) :: tl4, [(0, 0)], w104)) kAlk 1 rfl ?_
                exact e_Pn.ret4 rfl ⟨⟨_, rfl⟩, q106⟩
              · show e_Pn 20 elay kcode eI nn3 d 134 (70, (0, (1, 1)) :: (1, (0, y7)) :: (2, (0, y8)) :: (3, (0, y9)) :: tl4, [], w104) _
                refine e_Pn.run (t' := (75, (0, (1, 1)) :: (1, (0, y7)) :: (2, (0, y8)) :: (3, (0, y9)) :: tl4, [(0, 1)], w104)) kAlk 2 rfl ?_
                exact e_Pn.ret4 rfl ⟨⟨_, rfl⟩, q106⟩
          · show e_Pn 20 elay kcode eI nn3 d 134 (38, (0, (1, 1)) :: (1, (0, y7)) :: (2, (0, y8)) :: (3, (0, y9)) :: tl4, [], w80) _
            refine e_Pn.incU kAlk rfl rfl (fun z108 => ?_)
            show e_Pn 20 elay kcode eI nn3 d 134 (41, (3, (0, z108)) :: (0, (1, 1)) :: (1, (0, y7)) :: (2, (0, y8)) :: List.filter (e_flt 0 3) tl4, [], w80) _
            refine e_Pn.run (t' := (2, (3, (0, z108)) :: (0, (1, 1)) :: (1, (0, y7)) :: (2, (0, y8)) :: List.filter (e_flt 0 3) tl4, [], w80)) kAlk 1 rfl ?_
            exact e_Pn.ord kAlk [0, 1, 2, 3] rfl rfl ((ih2 (by omega) _ y7 y8 z108 w80 q82).le (by omega))
  exact e_Pn.ord kAlk [0, 1, 2, 3] rfl rfl (hL1 n (Nat.le_refl _) _ x y 0 w kq.r)
theorem u_135 {n d : Nat} {w : eW} {cd : Int} (hR : kRw cd w) {x : Int} : e_Pn 20 elay kcode eI n d 135 (0, [(0, (1, 1)), (1, (0, x))], [], w) (fun r w' => (∃ z : Int, r = [(0, z)]) ∧ kq cd w w') := by
  have hn := hR.1.n
  refine e_Pn.run (t' := (2, [(2, (0, 0)), (0, (1, 1)), (1, (0, x))], [], w)) kAlk 2 rfl ?_
  have hL1 : ∀ nn3 : Nat, nn3 ≤ n → ∀ (tl4 : eL) (y7 : Int) (y8 : Int) (w5 : eW), kq cd w w5 → e_Pn 20 elay kcode eI nn3 d 135 (2, (0, (1, 1)) :: (1, (0, y7)) :: (2, (0, y8)) :: tl4, [], w5) (fun r w' => (∃ z : Int, r = [(0, z)]) ∧ kq cd w w') := by
    intro nn3
    induction nn3 with
    | zero => intro _ tl4 y7 y8 w5 _; exact e_Pn.zero
    | succ nn3 ih2 =>
      intro hnnn3 tl4 y7 y8 w5 q6
      refine e_Pn.runS (t' := (4, (0, (1, 1)) :: (1, (0, y7)) :: (2, (0, y8)) :: tl4, [(1, 1), (0, y8)], w5)) kAlk 1 rfl ?_
      refine e_Pn.getr (z := cd) kAlk rfl rfl (q6.rf hR).2.1 (by omega) ?_
      refine e_Pn.getf (z := w5 cd 2) kAlk rfl rfl rfl (fun b9 => ?_)
      refine e_Pn.if2 kAlk rfl (fun h10 => ?_) (fun h10 => ?_)
      · show e_Pn 20 elay kcode eI nn3 d 135 (35, (0, (1, 1)) :: (1, (0, y7)) :: (2, (0, y8)) :: tl4, [], w5) _
        refine e_Pn.run (t' := (36, (0, (1, 1)) :: (1, (0, y7)) :: (2, (0, y8)) :: tl4, [(0, (-1))], w5)) kAlk 1 rfl ?_
        exact e_Pn.ret1 rfl ⟨⟨_, rfl⟩, q6⟩
      · show e_Pn 20 elay kcode eI nn3 d 135 (13, (0, (1, 1)) :: (1, (0, y7)) :: (2, (0, y8)) :: tl4, [], w5) _
        refine e_Pn.run (t' := (15, (0, (1, 1)) :: (1, (0, y7)) :: (2, (0, y8)) :: tl4, [(1, 1), (1, 1)], w5)) kAlk 2 rfl ?_
        refine e_Pn.getr (z := 6) kAlk rfl rfl (q6.rf hR).2.2.2.1 (by omega) ?_
        refine e_Pn.run (t' := (19, (0, (1, 1)) :: (1, (0, y7)) :: (2, (0, y8)) :: tl4, [(0, y8), (1, 6), (1, 1)], w5)) kAlk 1 rfl ?_
        refine e_Pn.ald (z := w5 6 y8) kAlk rfl rfl (fun b11 b12 => ?_)
        refine e_Pn.run (t' := (21, (0, (1, 1)) :: (1, (0, y7)) :: (2, (0, y8)) :: tl4, [(0, y7), (0, w5 6 y8), (1, 1)], w5)) kAlk 1 rfl ?_
        refine e_Pn.callA rfl (fun n9 d9 => u_134 (q6.rf hR)) (fun r14 w15 h13 => ?_)
        obtain ⟨⟨z16, rfl⟩, h13⟩ := h13
        have q17 := q6.tr h13
        show e_Pn 20 elay kcode eI nn3 d 135 (24, (0, (1, 1)) :: (1, (0, y7)) :: (2, (0, y8)) :: tl4, [(0, z16)], w15) _
        refine e_Pn.if1 kAlk rfl (fun h18 => ?_) (fun h18 => ?_)
        · show e_Pn 20 elay kcode eI nn3 d 135 (29, (0, (1, 1)) :: (1, (0, y7)) :: (2, (0, y8)) :: tl4, [], w15) _
          refine e_Pn.incU kAlk rfl rfl (fun z19 => ?_)
          show e_Pn 20 elay kcode eI nn3 d 135 (32, (2, (0, z19)) :: (0, (1, 1)) :: (1, (0, y7)) :: List.filter (e_flt 0 2) tl4, [], w15) _
          refine e_Pn.run (t' := (2, (2, (0, z19)) :: (0, (1, 1)) :: (1, (0, y7)) :: List.filter (e_flt 0 2) tl4, [], w15)) kAlk 1 rfl ?_
          exact e_Pn.ord kAlk [0, 1, 2] rfl rfl ((ih2 (by omega) _ y7 z19 w15 q17).le (by omega))
        · show e_Pn 20 elay kcode eI nn3 d 135 (27, (0, (1, 1)) :: (1, (0, y7)) :: (2, (0, y8)) :: tl4, [], w15) _
          refine e_Pn.run (t' := (28, (0, (1, 1)) :: (1, (0, y7)) :: (2, (0, y8)) :: tl4, [(0, y8)], w15)) kAlk 1 rfl ?_
          exact e_Pn.ret1 rfl ⟨⟨_, rfl⟩, q17⟩
  exact e_Pn.ord kAlk [0, 1, 2] rfl rfl (hL1 n (Nat.le_refl _) _ x 0 w kq.r)
theorem u_136 {n d : Nat} {w : eW} {cd : Int} (hR : kRw cd w) {x : Int} : e_Pn 20 elay kcode eI n d 136 (0, [(0, (1, 1)), (1, (0, x))], [], w) (fun r w' => (∃ z : Int, r = [(0, z)]) ∧ kq cd w w') := by
  have hn := hR.1.n
  refine e_Pn.run (t' := (2, [(2, (0, 0)), (0, (1, 1)), (1, (0, x))], [], w)) kAlk 2 rfl ?_
  have hL1 : ∀ nn3 : Nat, nn3 ≤ n → ∀ (tl4 : eL) (y7 : Int) (y8 : Int) (w5 : eW), kq cd w w5 → e_Pn 20 elay kcode eI nn3 d 136 (2, (0, (1, 1)) :: (1, (0, y7)) :: (2, (0, y8)) :: tl4, [], w5) (fun r w' => (∃ z : Int, r = [(0, z)]) ∧ kq cd w w') := by
    intro nn3
    induction nn3 with
    | zero => intro _ tl4 y7 y8 w5 _; exact e_Pn.zero
    | succ nn3 ih2 =>
      intro hnnn3 tl4 y7 y8 w5 q6
      refine e_Pn.runS (t' := (4, (0, (1, 1)) :: (1, (0, y7)) :: (2, (0, y8)) :: tl4, [(1, 1), (0, y8)], w5)) kAlk 1 rfl ?_
      refine e_Pn.getf (z := w5 1 14) kAlk rfl rfl rfl (fun b9 => ?_)
      refine e_Pn.if2 kAlk rfl (fun h10 => ?_) (fun h10 => ?_)
      · show e_Pn 20 elay kcode eI nn3 d 136 (32, (0, (1, 1)) :: (1, (0, y7)) :: (2, (0, y8)) :: tl4, [], w5) _
        refine e_Pn.run (t' := (33, (0, (1, 1)) :: (1, (0, y7)) :: (2, (0, y8)) :: tl4, [(0, (-1))], w5)) kAlk 1 rfl ?_
        exact e_Pn.ret1 rfl ⟨⟨_, rfl⟩, q6⟩
      · show e_Pn 20 elay kcode eI nn3 d 136 (10, (0, (1, 1)) :: (1, (0, y7)) :: (2, (0, y8)) :: tl4, [], w5) _
        refine e_Pn.run (t' := (12, (0, (1, 1)) :: (1, (0, y7)) :: (2, (0, y8)) :: tl4, [(1, 1), (1, 1)], w5)) kAlk 2 rfl ?_
        refine e_Pn.getr (z := 7) kAlk rfl rfl (q6.rf hR).2.2.2.2.1 (by omega) ?_
        refine e_Pn.run (t' := (16, (0, (1, 1)) :: (1, (0, y7)) :: (2, (0, y8)) :: tl4, [(0, y8), (1, 7), (1, 1)], w5)) kAlk 1 rfl ?_
        refine e_Pn.ald (z := w5 7 y8) kAlk rfl rfl (fun b11 b12 => ?_)
        refine e_Pn.run (t' := (18, (0, (1, 1)) :: (1, (0, y7)) :: (2, (0, y8)) :: tl4, [(0, y7), (0, w5 7 y8), (1, 1)], w5)) kAlk 1 rfl ?_
        refine e_Pn.callA rfl (fun n9 d9 => u_134 (q6.rf hR)) (fun r14 w15 h13 => ?_)
        obtain ⟨⟨z16, rfl⟩, h13⟩ := h13
        have q17 := q6.tr h13
        show e_Pn 20 elay kcode eI nn3 d 136 (21, (0, (1, 1)) :: (1, (0, y7)) :: (2, (0, y8)) :: tl4, [(0, z16)], w15) _
        refine e_Pn.if1 kAlk rfl (fun h18 => ?_) (fun h18 => ?_)
        · show e_Pn 20 elay kcode eI nn3 d 136 (26, (0, (1, 1)) :: (1, (0, y7)) :: (2, (0, y8)) :: tl4, [], w15) _
          refine e_Pn.incU kAlk rfl rfl (fun z19 => ?_)
          show e_Pn 20 elay kcode eI nn3 d 136 (29, (2, (0, z19)) :: (0, (1, 1)) :: (1, (0, y7)) :: List.filter (e_flt 0 2) tl4, [], w15) _
          refine e_Pn.run (t' := (2, (2, (0, z19)) :: (0, (1, 1)) :: (1, (0, y7)) :: List.filter (e_flt 0 2) tl4, [], w15)) kAlk 1 rfl ?_
          exact e_Pn.ord kAlk [0, 1, 2] rfl rfl ((ih2 (by omega) _ y7 z19 w15 q17).le (by omega))
        · show e_Pn 20 elay kcode eI nn3 d 136 (24, (0, (1, 1)) :: (1, (0, y7)) :: (2, (0, y8)) :: tl4, [], w15) _
          refine e_Pn.run (t' := (25, (0, (1, 1)) :: (1, (0, y7)) :: (2, (0, y8)) :: tl4, [(0, y8)], w15)) kAlk 1 rfl ?_
          exact e_Pn.ret1 rfl ⟨⟨_, rfl⟩, q17⟩
  exact e_Pn.ord kAlk [0, 1, 2] rfl rfl (hL1 n (Nat.le_refl _) _ x 0 w kq.r)
theorem u_137 {n d : Nat} {w : eW} {cd : Int} (hR : kRw cd w) : e_Pn 20 elay kcode eI n d 137 (0, [(0, (1, 1))], [], w) (fun r w' => (∃ z : Int, r = [(0, z)]) ∧ kq cd w w') := by
  have hn := hR.1.n
  refine e_Pn.run (t' := (2, [(0, (1, 1))], [(1, 1), (1, 1)], w)) kAlk 2 rfl ?_
  refine e_Pn.getf (z := w 1 6) kAlk rfl rfl rfl (fun b1 => ?_)
  refine e_Pn.callA rfl (fun n9 d9 => u_135 (kq.r.rf hR)) (fun r3 w4 h2 => ?_)
  obtain ⟨⟨z5, rfl⟩, h2⟩ := h2
  have q6 := kq.r.tr h2
  show e_Pn 20 elay kcode eI n d 137 (8, [(0, (1, 1))], [(0, z5)], w4) _
  refine e_Pn.run (t' := (10, [(1, (0, z5)), (0, (1, 1))], [(0, z5)], w4)) kAlk 2 rfl ?_
  refine e_Pn.if1 kAlk rfl (fun h7 => ?_) (fun h7 => ?_)
  · show e_Pn 20 elay kcode eI n d 137 (22, [(1, (0, z5)), (0, (1, 1))], [], w4) _
    refine e_Pn.run (t' := (24, [(1, (0, z5)), (0, (1, 1))], [(0, 0), (0, z5)], w4)) kAlk 2 rfl ?_
    refine e_Pn.m2U kAlk rfl (fun z8 => ?_)
    exact e_Pn.ret1 rfl ⟨⟨_, rfl⟩, q6⟩
  · show e_Pn 20 elay kcode eI n d 137 (13, [(1, (0, z5)), (0, (1, 1))], [], w4) _
    refine e_Pn.run (t' := (16, [(1, (0, z5)), (0, (1, 1))], [(1, 1), (0, 5), (1, 1)], w4)) kAlk 3 rfl ?_
    refine e_Pn.getf (z := w4 1 6) kAlk rfl rfl rfl (fun b9 => ?_)
    refine e_Pn.callA rfl (fun n9 d9 => u_133 (q6.rf hR)) (fun r11 w12 h10 => ?_)
    obtain ⟨rfl, h10⟩ := h10
    have q13 := q6.tr h10
    show e_Pn 20 elay kcode eI n d 137 (22, [(1, (0, z5)), (0, (1, 1))], [], w12) _
    refine e_Pn.run (t' := (24, [(1, (0, z5)), (0, (1, 1))], [(0, 0), (0, z5)], w12)) kAlk 2 rfl ?_
    refine e_Pn.m2U kAlk rfl (fun z14 => ?_)
    exact e_Pn.ret1 rfl ⟨⟨_, rfl⟩, q13⟩
theorem u_139 {n d : Nat} {w : eW} {cd : Int} (hR : kRw cd w) : e_Pn 20 elay kcode eI n d 139 (0, [(0, (1, 1))], [], w) (fun r w' => r = [] ∧ kq cd w w') := by
  have hn := hR.1.n
  refine e_Pn.run (t' := (2, [(0, (1, 1))], [(1, 1), (1, 1)], w)) kAlk 2 rfl ?_
  refine e_Pn.getf (z := w 1 6) kAlk rfl rfl rfl (fun b1 => ?_)
  refine e_Pn.callA rfl (fun n9 d9 => u_135 (kq.r.rf hR)) (fun r3 w4 h2 => ?_)
  obtain ⟨⟨z5, rfl⟩, h2⟩ := h2
  have q6 := kq.r.tr h2
  show e_Pn 20 elay kcode eI n d 139 (8, [(0, (1, 1))], [(0, z5)], w4) _
  refine e_Pn.if1 kAlk rfl (fun h7 => ?_) (fun h7 => ?_)
  · show e_Pn 20 elay kcode eI n d 139 (22, [(0, (1, 1))], [], w4) _
    refine e_Pn.run (t' := (25, [(0, (1, 1))], [(1, 1), (0, 4), (1, 1)], w4)) kAlk 3 rfl ?_
    refine e_Pn.getf (z := w4 1 6) kAlk rfl rfl rfl (fun b8 => ?_)
    refine e_Pn.callA rfl (fun n9 d9 => u_133 (q6.rf hR)) (fun r10 w11 h9 => ?_)
    obtain ⟨rfl, h9⟩ := h9
    have q12 := q6.tr h9
    show e_Pn 20 elay kcode eI n d 139 (31, [(0, (1, 1))], [], w11) _
    exact e_Pn.ret0 rfl ⟨rfl, q12⟩
  · show e_Pn 20 elay kcode eI n d 139 (11, [(0, (1, 1))], [], w4) _
    refine e_Pn.run (t' := (13, [(0, (1, 1))], [(1, 1), (1, 1)], w4)) kAlk 2 rfl ?_
    refine e_Pn.getf (z := w4 1 6) kAlk rfl rfl rfl (fun b13 => ?_)
    refine e_Pn.callA rfl (fun n9 d9 => u_136 (q6.rf hR)) (fun r15 w16 h14 => ?_)
    obtain ⟨⟨z17, rfl⟩, h14⟩ := h14
    have q18 := q6.tr h14
    show e_Pn 20 elay kcode eI n d 139 (19, [(0, (1, 1))], [(0, z17)], w16) _
    refine e_Pn.if1 kAlk rfl (fun h19 => ?_) (fun h19 => ?_)
    · show e_Pn 20 elay kcode eI n d 139 (31, [(0, (1, 1))], [], w16) _
      exact e_Pn.ret0 rfl ⟨rfl, q18⟩
    · show e_Pn 20 elay kcode eI n d 139 (22, [(0, (1, 1))], [], w16) _
      refine e_Pn.run (t' := (25, [(0, (1, 1))], [(1, 1), (0, 4), (1, 1)], w16)) kAlk 3 rfl ?_
      refine e_Pn.getf (z := w16 1 6) kAlk rfl rfl rfl (fun b20 => ?_)
      refine e_Pn.callA rfl (fun n9 d9 => u_133 (q18.rf hR)) (fun r22 w23 h21 => ?_)
      obtain ⟨rfl, h21⟩ := h21
      have q24 := q18.tr h21
      show e_Pn 20 elay kcode eI n d 139 (31, [(0, (1, 1))], [], w23) _
      exact e_Pn.ret0 rfl ⟨rfl, q24⟩
theorem u_166 {n d : Nat} {w : eW} {cd : Int} (hR : kRw cd w) : e_Pn 20 elay kcode eI n d 166 (0, [(0, (1, 1))], [], w) (fun r w' => r = [] ∧ kq cd w w') := by
  have hn := hR.1.n
  refine e_Pn.run (t' := (1, [(0, (1, 1))], [(1, 1)], w)) kAlk 1 rfl ?_
  refine e_Pn.getf (z := w 1 8) kAlk rfl rfl rfl (fun b1 => ?_)
  refine e_Pn.run (t' := (6, [(0, (1, 1))], [(0, 16), (0, w 1 8)], w)) kAlk 1 rfl ?_
  refine e_Pn.bin0 kAlk rfl (fun z2 hz2 => ?_)
  refine e_Pn.run (t' := (9, [(1, (0, z2)), (0, (1, 1))], [(0, z2)], w)) kAlk 2 rfl ?_
  refine e_Pn.if1 kAlk rfl (fun h3 => ?_) (fun h3 => ?_)
  · show e_Pn 20 elay kcode eI n d 166 (28, [(1, (0, z2)), (0, (1, 1))], [], w) _
    refine e_Pn.run (t' := (29, [(1, (0, z2)), (0, (1, 1))], [(1, 1)], w)) kAlk 1 rfl ?_
    refine e_Pn.getr (z := cd) kAlk rfl rfl (kq.r.rf hR).2.1 (by omega) ?_
    refine e_Pn.run (t' := (34, [(1, (0, z2)), (0, (1, 1))], [(0, z2), (0, 0), (1, cd)], w)) kAlk 2 rfl ?_
    refine e_Pn.callA rfl (fun n9 d9 => u_21 (kq.r.rf hR)) (fun r5 w6 h4 => ?_)
    obtain ⟨⟨z7, rfl⟩, h4⟩ := h4
    have q8 := kq.r.tr h4
    show e_Pn 20 elay kcode eI n d 166 (37, [(1, (0, z2)), (0, (1, 1))], [(0, z7)], w6) _
    refine e_Pn.run (t' := (39, [(1, (0, z2)), (0, (1, 1))], [(1, 1)], w6)) kAlk 2 rfl ?_
    refine e_Pn.getr (z := cd) kAlk rfl rfl (q8.rf hR).2.1 (by omega) ?_
    refine e_Pn.run (t' := (44, [(1, (0, z2)), (0, (1, 1))], [(1, 1), (0, 1), (1, cd)], w6)) kAlk 2 rfl ?_
    refine e_Pn.getf (z := w6 1 8) kAlk rfl rfl rfl (fun b9 => ?_)
    refine e_Pn.run (t' := (50, [(1, (0, z2)), (0, (1, 1))], [(0, 65535), (0, w6 1 8), (0, 1), (1, cd)], w6)) kAlk 1 rfl ?_
    refine e_Pn.bin0 kAlk rfl (fun z10 hz10 => ?_)
    refine e_Pn.callA rfl (fun n9 d9 => u_21 (q8.rf hR)) (fun r12 w13 h11 => ?_)
    obtain ⟨⟨z14, rfl⟩, h11⟩ := h11
    have q15 := q8.tr h11
    show e_Pn 20 elay kcode eI n d 166 (54, [(1, (0, z2)), (0, (1, 1))], [(0, z14)], w13) _
    refine e_Pn.run (t' := (55, [(1, (0, z2)), (0, (1, 1))], [], w13)) kAlk 1 rfl ?_
    exact e_Pn.ret0 rfl ⟨rfl, q15⟩
  · show e_Pn 20 elay kcode eI n d 166 (12, [(1, (0, z2)), (0, (1, 1))], [], w) _
    refine e_Pn.run (t' := (13, [(1, (0, z2)), (0, (1, 1))], [(1, 1)], w)) kAlk 1 rfl ?_
    refine e_Pn.getr (z := cd) kAlk rfl rfl (kq.r.rf hR).2.1 (by omega) ?_
    refine e_Pn.run (t' := (18, [(1, (0, z2)), (0, (1, 1))], [(1, 1), (0, 0), (1, cd)], w)) kAlk 2 rfl ?_
    refine e_Pn.getf (z := w 1 8) kAlk rfl rfl rfl (fun b16 => ?_)
    refine e_Pn.callA rfl (fun n9 d9 => u_21 (kq.r.rf hR)) (fun r18 w19 h17 => ?_)
    obtain ⟨⟨z20, rfl⟩, h17⟩ := h17
    have q21 := kq.r.tr h17
    show e_Pn 20 elay kcode eI n d 166 (24, [(1, (0, z2)), (0, (1, 1))], [(0, z20)], w19) _
    refine e_Pn.run (t' := (55, [(1, (0, z2)), (0, (1, 1))], [], w19)) kAlk 2 rfl ?_
    exact e_Pn.ret0 rfl ⟨rfl, q21⟩
theorem u_161 {n d : Nat} {w : eW} {cd : Int} (hR : kRw cd w) : e_Pn 20 elay kcode eI n d 161 (0, [(0, (1, 1))], [], w) (fun r w' => (∃ z : Int, r = [(0, z)]) ∧ kq cd w w') := by
  have hn := hR.1.n
  refine e_Pn.run (t' := (1, [(0, (1, 1))], [(1, 1)], w)) kAlk 1 rfl ?_
  refine e_Pn.getf (z := w 1 5) kAlk rfl rfl rfl (fun b1 => ?_)
  have a64 : e_Pn 20 elay kcode eI n d 161 (64, [(0, (1, 1))], [], w) (fun r w' => (∃ z : Int, r = [(0, z)]) ∧ kq cd w w') := by
    refine e_Pn.run (t' := (66, [(0, (1, 1))], [(0, 19)], w)) kAlk 1 rfl ?_
    exact e_Pn.ret1 rfl ⟨⟨_, rfl⟩, kq.r⟩
  have a67 : e_Pn 20 elay kcode eI n d 161 (67, [(0, (1, 1))], [], w) (fun r w' => (∃ z : Int, r = [(0, z)]) ∧ kq cd w w') := by
    refine e_Pn.run (t' := (69, [(0, (1, 1))], [(0, 20)], w)) kAlk 1 rfl ?_
    exact e_Pn.ret1 rfl ⟨⟨_, rfl⟩, kq.r⟩
  have a70 : e_Pn 20 elay kcode eI n d 161 (70, [(0, (1, 1))], [], w) (fun r w' => (∃ z : Int, r = [(0, z)]) ∧ kq cd w w') := by
    refine e_Pn.run (t' := (72, [(0, (1, 1))], [(0, 21)], w)) kAlk 1 rfl ?_
    exact e_Pn.ret1 rfl ⟨⟨_, rfl⟩, kq.r⟩
  have a73 : e_Pn 20 elay kcode eI n d 161 (73, [(0, (1, 1))], [], w) (fun r w' => (∃ z : Int, r = [(0, z)]) ∧ kq cd w w') := by
    refine e_Pn.run (t' := (75, [(0, (1, 1))], [(0, 22)], w)) kAlk 1 rfl ?_
    exact e_Pn.ret1 rfl ⟨⟨_, rfl⟩, kq.r⟩
  have a76 : e_Pn 20 elay kcode eI n d 161 (76, [(0, (1, 1))], [], w) (fun r w' => (∃ z : Int, r = [(0, z)]) ∧ kq cd w w') := by
    refine e_Pn.run (t' := (78, [(0, (1, 1))], [(0, 23)], w)) kAlk 1 rfl ?_
    exact e_Pn.ret1 rfl ⟨⟨_, rfl⟩, kq.r⟩
  have a79 : e_Pn 20 elay kcode eI n d 161 (79, [(0, (1, 1))], [], w) (fun r w' => (∃ z : Int, r = [(0, z)]) ∧ kq cd w w') := by
    refine e_Pn.run (t' := (81, [(0, (1, 1))], [(0, 24)], w)) kAlk 1 rfl ?_
    exact e_Pn.ret1 rfl ⟨⟨_, rfl⟩, kq.r⟩
  have a82 : e_Pn 20 elay kcode eI n d 161 (82, [(0, (1, 1))], [], w) (fun r w' => (∃ z : Int, r = [(0, z)]) ∧ kq cd w w') := by
    refine e_Pn.run (t' := (84, [(0, (1, 1))], [(0, 49)], w)) kAlk 1 rfl ?_
    exact e_Pn.ret1 rfl ⟨⟨_, rfl⟩, kq.r⟩
  exact e_Pn.swU kAlk rfl ⟨a82, a67, a73, a79, a82, a82, a82, a82, a82, a64, a70, a76, a82, trivial⟩
def kE (k : Nat) : Prop := ∀ M, M ∈ [158, 159, 160, 162, 163, 164, 165] → kP M k
set_option maxHeartbeats 4000000 in
theorem u_158 {n d : Nat} {w : eW} {cd : Int} (hR : kRw cd w) (ihG : ∀ k, k < n → kE k) : e_Pn 20 elay kcode eI n d 158 (0, [(0, (1, 1))], [], w) (fun r w' => r = [] ∧ kq cd w w') := by
  have hn := hR.1.n
  refine e_Pn.run (t' := (1, [(0, (1, 1))], [(1, 1)], w)) kAlk 1 rfl ?_
  refine e_Pn.callB rfl (fun k9 hk9 d9 => ihG k9 (by omega) 159 (by decide) d9 _ _ (kq.r.rf hR)) (fun r2 w3 h1 => ?_)
  obtain ⟨rfl, h1⟩ := h1
  have q4 := kq.r.tr h1
  show e_Pn 20 elay kcode eI n d 158 (4, [(0, (1, 1))], [], w3) _
  refine e_Pn.run (t' := (6, [(1, (0, 0)), (0, (1, 1))], [], w3)) kAlk 2 rfl ?_
  have hL5 : ∀ nn7 : Nat, nn7 ≤ n → ∀ (tl8 : eL) (y11 : Int) (w9 : eW), kq cd w w9 → e_Pn 20 elay kcode eI nn7 d 158 (6, (0, (1, 1)) :: (1, (0, y11)) :: tl8, [], w9) (fun r w' => r = [] ∧ kq cd w w') := by
    intro nn7
    induction nn7 with
    | zero => intro _ tl8 y11 w9 _; exact e_Pn.zero
    | succ nn7 ih6 =>
      intro hnnn7 tl8 y11 w9 q10
      refine e_Pn.runS (t' := (10, (0, (1, 1)) :: (1, (0, y11)) :: tl8, [(0, 4000), (0, y11)], w9)) kAlk 1 rfl ?_
      refine e_Pn.if2 kAlk rfl (fun h12 => ?_) (fun h12 => ?_)
      · show e_Pn 20 elay kcode eI nn7 d 158 (73, (0, (1, 1)) :: (1, (0, y11)) :: tl8, [], w9) _
        exact e_Pn.ret0 rfl ⟨rfl, q10⟩
      · show e_Pn 20 elay kcode eI nn7 d 158 (13, (0, (1, 1)) :: (1, (0, y11)) :: tl8, [], w9) _
        refine e_Pn.run (t' := (14, (0, (1, 1)) :: (1, (0, y11)) :: tl8, [(1, 1)], w9)) kAlk 1 rfl ?_
        refine e_Pn.getf (z := w9 1 5) kAlk rfl rfl rfl (fun b13 => ?_)
        refine e_Pn.run (t' := (19, (0, (1, 1)) :: (1, (0, y11)) :: tl8, [(0, 45), (0, w9 1 5)], w9)) kAlk 1 rfl ?_
        refine e_Pn.if2 kAlk rfl (fun h14 => ?_) (fun h14 => ?_)
        · show e_Pn 20 elay kcode eI nn7 d 158 (73, (0, (1, 1)) :: (1, (0, y11)) :: tl8, [], w9) _
          exact e_Pn.ret0 rfl ⟨rfl, q10⟩
        · show e_Pn 20 elay kcode eI nn7 d 158 (22, (0, (1, 1)) :: (1, (0, y11)) :: tl8, [], w9) _
          refine e_Pn.run (t' := (23, (0, (1, 1)) :: (1, (0, y11)) :: tl8, [(1, 1)], w9)) kAlk 1 rfl ?_
          refine e_Pn.getr (z := cd) kAlk rfl rfl (q10.rf hR).2.1 (by omega) ?_
          refine e_Pn.run (t' := (29, (0, (1, 1)) :: (1, (0, y11)) :: tl8, [(0, 0), (0, 12), (1, cd)], w9)) kAlk 2 rfl ?_
          refine e_Pn.callA rfl (fun n9 d9 => u_21 (q10.rf hR)) (fun r16 w17 h15 => ?_)
          obtain ⟨⟨z18, rfl⟩, h15⟩ := h15
          have q19 := q10.tr h15
          show e_Pn 20 elay kcode eI nn7 d 158 (32, (0, (1, 1)) :: (1, (0, y11)) :: tl8, [(0, z18)], w17) _
          refine e_Pn.run (t' := (34, (2, (0, z18)) :: (0, (1, 1)) :: (1, (0, y11)) :: List.filter (e_flt 0 2) tl8, [(1, 1)], w17)) kAlk 2 rfl ?_
          refine e_Pn.callA rfl (fun n9 d9 => u_123 (q19.rf hR)) (fun r21 w22 h20 => ?_)
          obtain ⟨rfl, h20⟩ := h20
          have q23 := q19.tr h20
          show e_Pn 20 elay kcode eI nn7 d 158 (37, (2, (0, z18)) :: (0, (1, 1)) :: (1, (0, y11)) :: List.filter (e_flt 0 2) tl8, [], w22) _
          refine e_Pn.run (t' := (38, (2, (0, z18)) :: (0, (1, 1)) :: (1, (0, y11)) :: List.filter (e_flt 0 2) tl8, [(1, 1)], w22)) kAlk 1 rfl ?_
          refine e_Pn.callB rfl (fun k9 hk9 d9 => ihG k9 (by omega) 159 (by decide) d9 _ _ (q23.rf hR)) (fun r25 w26 h24 => ?_)
          obtain ⟨rfl, h24⟩ := h24
          have q27 := q23.tr h24
          show e_Pn 20 elay kcode eI nn7 d 158 (41, (2, (0, z18)) :: (0, (1, 1)) :: (1, (0, y11)) :: List.filter (e_flt 0 2) tl8, [], w26) _
          refine e_Pn.run (t' := (42, (2, (0, z18)) :: (0, (1, 1)) :: (1, (0, y11)) :: List.filter (e_flt 0 2) tl8, [(1, 1)], w26)) kAlk 1 rfl ?_
          refine e_Pn.getr (z := cd) kAlk rfl rfl (q27.rf hR).2.1 (by omega) ?_
          refine e_Pn.run (t' := (48, (2, (0, z18)) :: (0, (1, 1)) :: (1, (0, y11)) :: List.filter (e_flt 0 2) tl8, [(0, 0), (0, 11), (1, cd)], w26)) kAlk 2 rfl ?_
          refine e_Pn.callA rfl (fun n9 d9 => u_21 (q27.rf hR)) (fun r29 w30 h28 => ?_)
          obtain ⟨⟨z31, rfl⟩, h28⟩ := h28
          have q32 := q27.tr h28
          show e_Pn 20 elay kcode eI nn7 d 158 (51, (2, (0, z18)) :: (0, (1, 1)) :: (1, (0, y11)) :: List.filter (e_flt 0 2) tl8, [(0, z31)], w30) _
          refine e_Pn.run (t' := (53, (2, (0, z18)) :: (0, (1, 1)) :: (1, (0, y11)) :: List.filter (e_flt 0 2) tl8, [(1, 1)], w30)) kAlk 2 rfl ?_
          refine e_Pn.getr (z := cd) kAlk rfl rfl (q32.rf hR).2.1 (by omega) ?_
          refine e_Pn.run (t' := (58, (2, (0, z18)) :: (0, (1, 1)) :: (1, (0, y11)) :: List.filter (e_flt 0 2) tl8, [(1, 1), (0, z18), (1, cd)], w30)) kAlk 2 rfl ?_
          refine e_Pn.getr (z := cd) kAlk rfl rfl (q32.rf hR).2.1 (by omega) ?_
          refine e_Pn.getf (z := w30 cd 0) kAlk rfl rfl rfl (fun b33 => ?_)
          refine e_Pn.callA rfl (fun n9 d9 => u_22 (q32.rf hR)) (fun r35 w36 h34 => ?_)
          obtain ⟨rfl, h34⟩ := h34
          have q37 := q32.tr h34
          show e_Pn 20 elay kcode eI nn7 d 158 (67, (2, (0, z18)) :: (0, (1, 1)) :: (1, (0, y11)) :: List.filter (e_flt 0 2) tl8, [], w36) _
          refine e_Pn.incU kAlk rfl rfl (fun z38 => ?_)
          show e_Pn 20 elay kcode eI nn7 d 158 (70, (1, (0, z38)) :: (2, (0, z18)) :: (0, (1, 1)) :: List.filter (e_flt 0 1) (List.filter (e_flt 0 2) tl8), [], w36) _
          refine e_Pn.run (t' := (6, (1, (0, z38)) :: (2, (0, z18)) :: (0, (1, 1)) :: List.filter (e_flt 0 1) (List.filter (e_flt 0 2) tl8), [], w36)) kAlk 1 rfl ?_
          exact e_Pn.ord kAlk [0, 1] rfl rfl ((ih6 (by omega) _ z38 w36 q37).le (by omega))
  exact e_Pn.ord kAlk [0, 1] rfl rfl (hL5 n (Nat.le_refl _) _ 0 w3 q4)
set_option maxHeartbeats 4000000 in
end
