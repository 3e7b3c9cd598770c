noncomputable section
/-! numbers that nobody knows may be known again -/
def inZ (x : Int) : Prop := -2147483648 ≤ x ∧ x ≤ 2147483647
/-- u knows all that w knows -/
def mor (w u : eW) : Prop := ∀ c k, inZ (w c k) → u c k = w c k
theorem low_in {w : eW} (hT : e_Has mTy w) {c k : Int} (h : K0 c k) : inZ (w c k) := by
  have h1 := hT c k h
  have h2 := tyP.m c k h
  unfold inZ
  exact ⟨by omega, by omega⟩
theorem mor.K {w u : eW} (hT : e_Has mTy w) (hu : mor w u) : ∀ c k, K0 c k → u c k = w c k := fun c k q => hu c k (low_in hT q)
theorem wn_276 (w : eW) (s : Int → Int) (k : Int) : wn w s 276 k = s k := by unfold wn; rw [if_pos rfl]
theorem bkI.res {w u : eW} {G : Int → Gh} {S : Int → Int → Int} (h : bkI w G S) (hT : e_Has mTy w) (hu : mor w u) : bkI u G S := by
  obtain ⟨h1, h2, h3, h4, h5, h6, h7, h8, h9⟩ := h
  have hK := mor.K hT hu
  have z : ∀ {x : Int}, -2147483648 ≤ x → x ≤ 2147483647 → inZ x := fun a b => ⟨a, b⟩
  have e5 : u 275 5 = w 275 5 := hu _ _ (z (by omega) (by omega))
  have e18 : u 275 118 = w 275 118 := hu _ _ (z (by omega) (by omega))
  have e6 : u 275 6 = w 275 6 := hu _ _ (z (by omega) (by omega))
  have hS : ∀ i k, 0 ≤ i → i ≤ w 275 5 → inZ (S i k) := fun i k g1 g2 => by
    have q := e_Has.now (h2 i g1 g2).1.1 k
    rw [wn_276] at q
    exact q
  have e56 : ∀ i, 0 ≤ i → i < w 275 5 → u 356 i = w 356 i := fun i g1 g2 => by
    have := h6 i i g1 (Int.le_refl i) g2
    exact hu _ _ (z (by omega) (by omega))
  refine ⟨fun k => by rw [e5, hK 276 k (K0_now k)]; exact h1 k, fun i g1 g2 => ?_, fun k g1 g2 => ?_, fun q k g1 g2 g3 g4 => ?_, fun i g1 g2 => ?_, fun i j g1 g2 g3 => ?_, by omega, by omega, by omega⟩
  · obtain ⟨q1, q2, q3⟩ := h2 i g1 (by omega)
    exact ⟨q1.low (wn_of (fun c k _ q => hK c k q)), q2, fun k g => by rw [hK 276 k (K0_now k)]; exact q3 k g⟩
  · have q := h3 k g1 g2
    rw [hu 277 k (by rw [q]; exact hS 0 k (by omega) h9.1)]
    exact q
  · have y := h4 q k g1 (by omega) g3 g4
    rw [hu 278 _ (by rw [y]; exact hS (100 * q) k (by omega) (by omega))]
    exact y
  · have y := h5 i g1 (by omega)
    have y6 := h6 i i g1 (Int.le_refl i) (by omega)
    obtain ⟨y1, y2⟩ := y
    have a9 : ∀ j, 4 * i ≤ j → j ≤ 4 * i + 3 → u 279 j = w 279 j := fun j j1 j2 => hu 279 j (y1 j j1 j2)
    have hw := wn_of (w := w) (v := u) (s := S i) (fun c k _ q => hK c k q)
    refine ⟨fun j j1 j2 => by rw [a9 j j1 j2]; exact y1 j j1 j2, ?_⟩
    rw [a9 (4 * i) (by omega) (by omega), a9 (4 * i + 1) (by omega) (by omega), a9 (4 * i + 2) (by omega) (by omega), a9 (4 * i + 3) (by omega) (by omega)]
    rcases y2 with ⟨q2, q3⟩ | ⟨q2, q3, z', g, z1, z2, z3, z4, z5⟩
    · exact Or.inl ⟨q2.low hw, fun k => by rw [rowF_eq hw]; exact q3 k⟩
    · have e55 : u 355 i = w 355 i := hu _ _ (z (by omega) (by omega))
      rw [e55, e56 i g1 (by omega)]
      exact Or.inr ⟨q2, q3.low hw, z', g, z1, z2, z3, fun j j1 j2 => by
        have := z4 j j1 j2
        rw [hu 354 _ (z (by omega) (by omega))]
        exact this, fun k => (z5 k).trans plN_wn⟩
  · rw [e5] at g3
    rw [e56 i g1 (by omega), e56 j (by omega) g3, e18]
    exact h6 i j g1 g2 g3
/-- the relation, whatever is found where nobody knew -/
def hTz (c k : Int) : Int × Int := if c = 275 ∧ (k = 5 ∨ k = 6 ∨ k = 118) then (1, 0) else hTy c k
def hT8 (c k : Int) : Int × Int := if (c = 275 ∧ (k = 9 ∨ k = 88 ∨ k = 95)) ∨ c = 281 then hTy c k else (1, 0)
theorem e_Has.z {u : eW} (h : e_Has hTz u) (h5 : 0 ≤ u 275 5 ∧ u 275 5 ≤ 2000) (h6 : 0 ≤ u 275 6 ∧ u 275 6 ≤ 1) (h118 : 0 ≤ u 275 118 ∧ u 275 118 ≤ 60) : e_Has hTy u := fun c k hl => by
  by_cases q : c = 275 ∧ (k = 5 ∨ k = 6 ∨ k = 118)
  · obtain ⟨rfl, rfl | rfl | rfl⟩ := q
    · exact h5
    · exact h6
    · exact h118
  · have e : hTz c k = hTy c k := if_neg q
    rw [← e] at hl ⊢
    exact h c k hl
theorem e_Has.t8 {w : eW} (h : e_Has hTy w) : e_Has hT8 w := fun c k hl => by
  by_cases q : (c = 275 ∧ (k = 9 ∨ k = 88 ∨ k = 95)) ∨ c = 281
  · have e : hT8 c k = hTy c k := if_pos q
    rw [e] at hl ⊢
    exact h c k hl
  · have e : hT8 c k = (1, 0) := if_neg q
    rw [e] at hl
    exact absurd hl (by decide)
theorem e_Has.t8fr {S : Int → Int → Prop} {w w' : eW} (h : e_Has hT8 w) (f : e_fr S w w') (hS : ∀ c k, ((c = 275 ∧ (k = 9 ∨ k = 88 ∨ k = 95)) ∨ c = 281) → ¬ S c k) : e_Has hT8 w' := fun c k hl => by
  by_cases q : (c = 275 ∧ (k = 9 ∨ k = 88 ∨ k = 95)) ∨ c = 281
  · rw [f c k (hS c k q)]
    exact h c k hl
  · have e : hT8 c k = (1, 0) := if_neg q
    rw [e] at hl
    exact absurd hl (by decide)
def mRelF (w : eW) : Prop := (∀ u, mor w u → e_Has hTz u → mRel u) ∧ e_Has hT8 w
theorem bkI.F {w : eW} {G : Int → Gh} {S : Int → Int → Int} (h : bkI w G S) (hT : e_Has mTy w) (h3 : w 275 3 = 1) (h8 : e_Has hT8 w) : mRelF w := ⟨fun u hu hH => by
  have z : ∀ {x : Int}, -2147483648 ≤ x → x ≤ 2147483647 → inZ x := fun a b => ⟨a, b⟩
  have e3 : u 275 3 = w 275 3 := hu _ _ (z (by omega) (by omega))
  have h6 := h.2.2.2.2.2.2.2.1
  have e6 : u 275 6 = w 275 6 := hu _ _ (z (by omega) (by omega))
  have h9 := h.2.2.2.2.2.2.2.2
  have h7 := h.2.2.2.2.2.2.1
  have e5 : u 275 5 = w 275 5 := hu _ _ (z (by omega) (by omega))
  have e118 : u 275 118 = w 275 118 := hu _ _ (z (by omega) (by omega))
  exact ⟨hT.low (mor.K hT hu), hH.z (by omega) (by omega) (by omega), ⟨e6.trans h6, fun g => by omega⟩, Or.inr ⟨e3.trans h3, G, S, h.res hT hu⟩⟩, h8⟩
theorem mRel.F {w : eW} (h : mRel w) : mRelF w := by
  obtain ⟨h1, h2, h3, h4⟩ := id h
  rcases h4 with ⟨g0, G, g⟩ | ⟨g0, G, S, g⟩
  · refine ⟨fun u hu hH => ?_, h2.t8⟩
    have z : ∀ {x : Int}, -2147483648 ≤ x → x ≤ 2147483647 → inZ x := fun a b => ⟨a, b⟩
    have hK := mor.K h1 hu
    have h35 := h3.2 g0
    have h36 := h3.1
    have e3 : u 275 3 = w 275 3 := hu _ _ (z (by omega) (by omega))
    have e5 : u 275 5 = w 275 5 := hu _ _ (z (by omega) (by omega))
    have e6 : u 275 6 = w 275 6 := hu _ _ (z (by omega) (by omega))
    have hT := h1.low hK
    have q118 := e_Has.get h2 (c := 275) (k := 118) (lo := 0) (hi := 60) rfl (by decide)
    have e118 : u 275 118 = w 275 118 := hu _ _ (z (by omega) (by omega))
    have hF : e_fr (fun c k => ¬ K0 c k) w u := fun c k q => hK c k (Classical.not_not.mp q)
    exact ⟨hT, hH.z (by omega) (by omega) (by omega), ⟨e6.trans h36, fun _ => e5.trans h35⟩, Or.inl ⟨e3.trans g0, G, g.1.cfg hF hT (fun c k q => ⟨fun e => q (by rw [e]; exact K0_now k), K0_cf q⟩), g.2⟩⟩
  · exact g.F h1 g0 h2.t8
end
