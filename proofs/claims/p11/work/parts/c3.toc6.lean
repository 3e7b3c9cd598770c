-- part c3
section
noncomputable section
/-! the class: core and points -/
def kLg (c k : Int) : Prop := (c = 74 ∧ k = 1) ∨ c = 75
def kCi (c k : Int) : Prop := c = 80 ∨ c = 81
def kCh (c k : Int) : Prop := c = 78 ∨ c = 79
def kPw (c k : Int) : Prop := (c = 74 ∧ (k = 1 ∨ k = 3)) ∨ c = 75 ∨ c = 80
def kCt (c k : Int) : Prop := (c = 74 ∧ (k = 1 ∨ (3 ≤ k ∧ k ≤ 6))) ∨ c = 75
def kSe (c k : Int) : Prop := c = 12 ∨ c = 13
def kPo (c k : Int) : Prop := (11 ≤ c ∧ c ≤ 14) ∨ c = 16
/-- the events that were written down are known -/
def lgK (w : eW) : Prop := ∀ i, 0 ≤ i → i < 8000 → i < 4 * w 74 1 → kn1 (w 75 i)
theorem lgK.fr {S : Int → Int → Prop} {w w' : eW} (f : e_fr S w w') (h1 : ¬ S 74 1) (h2 : ∀ k, ¬ S 75 k) (h : lgK w) : lgK w' := fun i g1 g2 g3 => by
  rw [f 74 1 h1] at g3
  rw [f 75 i (h2 i)]
  exact h i g1 g2 g3
theorem lgK.add1 {w w' : eW} {z : Int} (hz : z = w 74 1 + 1) (h1 : 2000 ≤ w 74 1) (hw : e_up w 74 1 z = w') (h : lgK w) : lgK w' := fun i g1 g2 g3 => by
  rw [← hw, e_up_ne _ _ (Or.inl (by decide))]
  exact h i g1 g2 (by omega)
theorem lgK.add2 {w w1 w2 w3 w4 w' : eW} {i1 i2 i3 i4 z1 z2 z3 z4 z : Int} (e1 : i1 = 4 * w 74 1) (e2 : i2 = i1 + 1) (e3 : i3 = i1 + 2) (e4 : i4 = i1 + 3) (hz : z = w 74 1 + 1)
    (h1 : e_up w 75 i1 z1 = w1) (h2 : e_up w1 75 i2 z2 = w2) (h3 : e_up w2 75 i3 z3 = w3) (h4 : e_up w3 75 i4 z4 = w4) (hw : e_up w4 74 1 z = w') (k1 : kn1 z1) (k2 : kn1 z2) (k3 : kn1 z3) (k4 : kn1 z4) (h : lgK w) : lgK w' := fun i g1 g2 g3 => by
  have q : w' 74 1 = z := by rw [← hw]; exact e_up_eq _ _ _ _
  rw [q] at g3
  rw [← hw, e_up_ne _ _ (Or.inl (by decide)), ← h4]
  by_cases a4 : i = i4
  · rw [a4, e_up_eq]; exact k4
  · rw [e_up_ne _ _ (Or.inr a4), ← h3]
    by_cases a3 : i = i3
    · rw [a3, e_up_eq]; exact k3
    · rw [e_up_ne _ _ (Or.inr a3), ← h2]
      by_cases a2 : i = i2
      · rw [a2, e_up_eq]; exact k2
      · rw [e_up_ne _ _ (Or.inr a2), ← h1]
        by_cases a1 : i = i1
        · rw [a1, e_up_eq]; exact k1
        · rw [e_up_ne _ _ (Or.inr a1)]
          exact h i g1 g2 (by omega)
/-- what a point is forced to is known -/
def pF (w : eW) : Prop := ∀ p, 0 ≤ p → p ≤ 63 → w 16 p ≠ 0 → kn1 (w 14 p)
theorem pF.fr {S : Int → Int → Prop} {w w' : eW} (f : e_fr S w w') (h1 : ∀ k, ¬ S 16 k ∧ ¬ S 14 k) (h : pF w) : pF w' := fun p g1 g2 g3 => by
  rw [f 16 p (h1 p).1] at g3
  rw [f 14 p (h1 p).2]
  exact h p g1 g2 g3
def rcv (w : eW) (u : Int → Int) (p : Int) : Int := if w 16 p ≠ 0 then w 14 p else if w 15 p < 0 then w 11 p else if w 17 p = 0 then u (w 15 p) else if u (w 15 p) = 0 then 1 else 0
/-- each point behind the one that its wire comes from; values that fit the wires -/
def pTo (w : eW) : Prop := ∀ i, 0 ≤ i → i ≤ 63 → 0 ≤ w 15 (w 18 i) → ∃ k, (0 ≤ k ∧ k < i) ∧ w 18 k = w 15 (w 18 i)
def pFx (w : eW) (V : Int → Int) : Prop := ∀ p, 0 ≤ p → p ≤ 63 → V p = rcv w V p
theorem no_c3_0 {k : Int} : ¬ kSe 16 k := by unfold kSe; omega
theorem no_c3_1 {k : Int} : ¬ kSe 14 k := by unfold kSe; omega
theorem no_c3_2 {k : Int} : ¬ kSe 15 k := by unfold kSe; omega
theorem no_c3_3 {k : Int} : ¬ kSe 11 k := by unfold kSe; omega
theorem no_c3_4 {k : Int} : ¬ kSe 17 k := by unfold kSe; omega
theorem rcv.fr {w v : eW} (f : e_fr kSe w v) (u : Int → Int) (p : Int) : rcv v u p = rcv w u p := by
  unfold rcv
  rw [f 16 p no_c3_0, f 14 p no_c3_1, f 15 p no_c3_2, f 11 p no_c3_3, f 17 p no_c3_4]
theorem pS.step {w v v' : eW} {V : Int → Int} {y n : Int} (hV : pFx w V) (hT : pTo w) (f : e_fr kSe w v) (hy : 0 ≤ y ∧ y ≤ 63) (ho : 0 ≤ w 18 y ∧ w 18 y ≤ 63) (h : ∀ k, 0 ≤ k → k < y → v 12 (w 18 k) = V (w 18 k)) (hn : n = rcv v (v 12) (w 18 y))
    (h1 : v' 12 (w 18 y) = n) (h2 : ∀ p, p ≠ w 18 y → v' 12 p = v 12 p) : ∀ k, 0 ≤ k → k < y + 1 → v' 12 (w 18 k) = V (w 18 k) := by
  have e : n = V (w 18 y) := by
    rw [hn, rcv.fr f, hV _ ho.1 ho.2]
    by_cases q : 0 ≤ w 15 (w 18 y)
    · obtain ⟨k, hk, ek⟩ := hT y hy.1 hy.2 q
      have := h k hk.1 hk.2
      rw [ek] at this
      simp only [rcv, this]
    · have q2 : w 15 (w 18 y) < 0 := by omega
      simp only [rcv, if_pos q2]
  intro k g1 g2
  by_cases q : w 18 k = w 18 y
  · rw [q, h1, e]
  · rw [h2 _ q]
    by_cases q2 : k = y
    · exact absurd (by rw [q2]) q
    · exact h k g1 (by omega)
def kNl (c k : Int) : Prop := ¬ (c = 74 ∧ k = 1) ∧ c ≠ 75
theorem lgK.ch {w w' : eW} (f : e_fr kNl w w') (h : lgK w) : lgK w' := h.fr f (by unfold kNl; omega) (fun k => by unfold kNl; omega)
theorem pF.up0 {w w' : eW} {c k z : Int} (h : pF w) (hw : e_up w c k z = w') (hc : c ≠ 14 ∧ c ≠ 16) : pF w' := fun p g1 g2 g3 => by
  have e16 : w' 16 p = w 16 p := by rw [← hw]; exact e_up_ne _ _ (Or.inl (fun q => hc.2 q.symm))
  have e14 : w' 14 p = w 14 p := by rw [← hw]; exact e_up_ne _ _ (Or.inl (fun q => hc.1 q.symm))
  rw [e16] at g3
  rw [e14]
  exact h p g1 g2 g3
/-- forced, and what to -/
theorem pF.up2 {w w1 w' : eW} {k z v : Int} (h : pF w) (h1 : e_up w 16 k z = w1) (hw : e_up w1 14 k v = w') (hv : kn1 v) : pF w' := fun p g1 g2 g3 => by
  have e16 : w' 16 p = w1 16 p := by rw [← hw]; exact e_up_ne _ _ (Or.inl (by decide))
  by_cases e : p = k
  · rw [e, ← hw, e_up_eq]; exact hv
  · have e14 : w' 14 p = w 14 p := by rw [← hw, e_up_ne _ _ (Or.inr e), ← h1]; exact e_up_ne _ _ (Or.inl (by decide))
    have e15 : w1 16 p = w 16 p := by rw [← h1]; exact e_up_ne _ _ (Or.inr e)
    rw [e16, e15] at g3
    rw [e14]
    exact h p g1 g2 g3
theorem c_27 {d : Nat} {w : eW} (hT : e_Has kTy w) {e1 e2 e3 : Int} (g_e1 : (-2147483648) ≤ e1 ∧ e1 ≤ 2147483647) (g_e2 : (-2147483648) ≤ e2 ∧ e2 ≤ 2147483647) (g_e3 : (-2147483648) ≤ e3 ∧ e3 ≤ 2147483647) (he : w 74 1 < 2147483647) : e_Ok 20 elay kcode eI d 27 (0, [(0, (1, 74)), (1, (0, e1)), (2, (0, e2)), (3, (0, e3))], [], w) (fun r w' => r = [] ∧ e_fr kLg w w' ∧ e_Has kTy w' ∧ (w' 74 1 = w 74 1 + 1 ∧ (lgK w → lgK w'))) := by
  have h74 := e_Has.get hT (c := 74) (k := 1) (lo := 0) (hi := 2147483647) (kt_o rfl) (by decide)
  refine e_Ok.ps1 (x := (1, 74)) (q := 1) 1 rfl ?_
  refine e_Ok.getf (z := w 74 1) rfl (el_o rfl) rfl rfl rfl (by omega) ?_
  refine e_Ok.ps1 (x := (0, 2000)) (q := 7) 1 rfl ?_
  refine e_Ok.if2 rfl (fun h1 => ?_) (fun h1 => ?_)
  · replace h1 : (w 74 1 : Int) ≥ 2000 := h1
    refine e_Ok.ps2 (x := (1, 74)) (y := (1, 74)) (q := 61) 2 rfl ?_
    refine e_Ok.getf (z := w 74 1) rfl (el_o rfl) rfl rfl rfl (by omega) ?_
    refine e_Ok.ps1 (x := (0, 1)) (q := 65) 1 rfl ?_
    refine e_Ok.add (z := w 74 1 + 1) rfl rfl (by omega) ?_
    refine e_Ok.putf rfl (el_o rfl) rfl rfl ?_
    generalize hw2 : e_up w 74 1 (w 74 1 + 1) = w2
    have hT4 : e_Has kTy w2 := e_Has.upr hT hw2 (kt_o rfl) (by omega)
    refine e_Ok.rets rfl rfl ?_
    exact ⟨rfl, (show e_fr kLg w w2 from e_fr.up (e_fr.refl w) hw2 (by first | exact Or.inl ⟨rfl, rfl⟩ | (unfold kLg; omega))), hT4, ⟨(e_ue hw2), fun hL => lgK.add1 rfl (by omega) hw2 hL⟩⟩
  · replace h1 : (w 74 1 : Int) < 2000 := Int.not_le.mp (show ¬ ((w 74 1 : Int) ≥ 2000) from h1)
    refine e_Ok.ps1 (x := (1, 74)) (q := 11) 1 rfl ?_
    refine e_Ok.getf (z := w 74 1) rfl (el_o rfl) rfl rfl rfl (by omega) ?_
    refine e_Ok.ps1 (x := (0, 4)) (q := 15) 1 rfl ?_
    refine e_Ok.mul (z := 4 * w 74 1) rfl (Int.mul_comm _ _) (by omega) ?_
    refine e_Ok.run (t' := (19, [(4, (0, 4 * w 74 1)), (0, (1, 74)), (1, (0, e1)), (2, (0, e2)), (3, (0, e3))], [(1, 74)], w)) 2 rfl ?_
    refine e_Ok.getr (z := 75) rfl (el_o rfl) rfl rfl (e_Has.eq hT (kt_o rfl)) ⟨by decide, by decide⟩ ?_
    refine e_Ok.ps2 (x := (1, 74)) (y := (0, 4 * w 74 1)) (q := 25) 2 rfl ?_
    have h5 := (e_Has.get hT (c := 74) (k := 0) (lo := 0) (hi := 6000) (kt_o rfl) (by decide))
    refine e_Ok.getf (z := w 74 0) rfl (el_o rfl) rfl rfl rfl (e_bq h5 (by decide) (by decide)) ?_
    refine e_Ok.ast rfl (el_o rfl) rfl rfl (by omega) ?_
    generalize hw6 : e_up w 75 (4 * w 74 1) (w 74 0) = w6
    have hT8 : e_Has kTy w6 := e_Has.ups hT hw6 (kt_o rfl)
    refine e_Ok.ps1 (x := (1, 74)) (q := 30) 1 rfl ?_
    refine e_Ok.getr (z := 75) rfl (el_o rfl) rfl rfl (e_uq hw6 (Or.inl (by decide)) (e_Has.eq hT (kt_o rfl))) ⟨by decide, by decide⟩ ?_
    refine e_Ok.ps2 (x := (0, 1)) (y := (0, 4 * w 74 1)) (q := 36) 2 rfl ?_
    refine e_Ok.add (z := 4 * w 74 1 + 1) rfl rfl (by omega) ?_
    refine e_Ok.ps1 (x := (0, e1)) (q := 38) 1 rfl ?_
    refine e_Ok.ast rfl (el_o rfl) rfl rfl (by omega) ?_
    generalize hw9 : e_up w6 75 (4 * w 74 1 + 1) e1 = w9
    have hT11 : e_Has kTy w9 := e_Has.ups hT8 hw9 (kt_o rfl)
    refine e_Ok.ps1 (x := (1, 74)) (q := 40) 1 rfl ?_
    refine e_Ok.getr (z := 75) rfl (el_o rfl) rfl rfl (e_uq hw9 (Or.inl (by decide)) (e_uq hw6 (Or.inl (by decide)) (e_Has.eq hT (kt_o rfl)))) ⟨by decide, by decide⟩ ?_
    refine e_Ok.ps2 (x := (0, 2)) (y := (0, 4 * w 74 1)) (q := 46) 2 rfl ?_
    refine e_Ok.add (z := 4 * w 74 1 + 2) rfl rfl (by omega) ?_
    refine e_Ok.ps1 (x := (0, e2)) (q := 48) 1 rfl ?_
    refine e_Ok.ast rfl (el_o rfl) rfl rfl (by omega) ?_
    generalize hw12 : e_up w9 75 (4 * w 74 1 + 2) e2 = w12
    have hT14 : e_Has kTy w12 := e_Has.ups hT11 hw12 (kt_o rfl)
    refine e_Ok.ps1 (x := (1, 74)) (q := 50) 1 rfl ?_
    refine e_Ok.getr (z := 75) rfl (el_o rfl) rfl rfl (e_uq hw12 (Or.inl (by decide)) (e_uq hw9 (Or.inl (by decide)) (e_uq hw6 (Or.inl (by decide)) (e_Has.eq hT (kt_o rfl))))) ⟨by decide, by decide⟩ ?_
    refine e_Ok.ps2 (x := (0, 3)) (y := (0, 4 * w 74 1)) (q := 56) 2 rfl ?_
    refine e_Ok.add (z := 4 * w 74 1 + 3) rfl rfl (by omega) ?_
    refine e_Ok.ps1 (x := (0, e3)) (q := 58) 1 rfl ?_
    refine e_Ok.ast rfl (el_o rfl) rfl rfl (by omega) ?_
    generalize hw15 : e_up w12 75 (4 * w 74 1 + 3) e3 = w15
    have hT17 : e_Has kTy w15 := e_Has.ups hT14 hw15 (kt_o rfl)
    refine e_Ok.ps2 (x := (1, 74)) (y := (1, 74)) (q := 61) 2 rfl ?_
    refine e_Ok.getf (z := w 74 1) rfl (el_o rfl) rfl rfl (e_uq hw15 (Or.inl (by decide)) (e_uq hw12 (Or.inl (by decide)) (e_uq hw9 (Or.inl (by decide)) (e_uq hw6 (Or.inl (by decide)) rfl)))) (by omega) ?_
    refine e_Ok.ps1 (x := (0, 1)) (q := 65) 1 rfl ?_
    refine e_Ok.add (z := w 74 1 + 1) rfl rfl (by omega) ?_
    refine e_Ok.putf rfl (el_o rfl) rfl rfl ?_
    generalize hw18 : e_up w15 74 1 (w 74 1 + 1) = w18
    have hT20 : e_Has kTy w18 := e_Has.upr hT17 hw18 (kt_o rfl) (by omega)
    refine e_Ok.rets rfl rfl ?_
    exact ⟨rfl, (show e_fr kLg w w18 from e_fr.up (show e_fr kLg w w15 from e_fr.up (show e_fr kLg w w12 from e_fr.up (show e_fr kLg w w9 from e_fr.up (show e_fr kLg w w6 from e_fr.up (e_fr.refl w) hw6 (by first | exact Or.inr rfl | (unfold kLg; omega))) hw9 (by first | exact Or.inr rfl | (unfold kLg; omega))) hw12 (by first | exact Or.inr rfl | (unfold kLg; omega))) hw15 (by first | exact Or.inr rfl | (unfold kLg; omega))) hw18 (by first | exact Or.inl ⟨rfl, rfl⟩ | (unfold kLg; omega))), hT20, ⟨(e_ue hw18), fun hL => lgK.add2 (by omega) (by omega) (by omega) (by omega) rfl hw6 hw9 hw12 hw15 hw18 (by unfold kn1; omega) (by unfold kn1; omega) (by unfold kn1; omega) (by unfold kn1; omega) hL⟩⟩
theorem c_29 {d : Nat} {w : eW} (hT : e_Has kTy w) {i : Int} (g_i : 0 ≤ i ∧ i ≤ 7) : e_Ok 20 elay kcode eI d 29 (0, [(0, (1, 74)), (1, (0, i))], [], w) (fun r w' => ∃ z : Int, r = [(0, z)] ∧ w = w' ∧ (0 ≤ z ∧ z ≤ 1)) := by
  refine e_Ok.ps1 (x := (1, 74)) (q := 1) 1 rfl ?_
  refine e_Ok.getr (z := 78) rfl (el_o rfl) rfl rfl (e_Has.eq hT (kt_o rfl)) ⟨by decide, by decide⟩ ?_
  refine e_Ok.ps1 (x := (0, i)) (q := 5) 1 rfl ?_
  have h1 := (e_Has.get hT (c := 78) (k := i) (lo := 0) (hi := 1) (kt_o rfl) (by decide))
  refine e_Ok.ald (z := w 78 i) rfl (el_o rfl) rfl (by omega) rfl (e_bq h1 (by decide) (by decide)) ?_
  refine e_Ok.if1 rfl (fun h2 => ?_) (fun h2 => ?_)
  · replace h2 : (w 78 i : Int) = 0 := h2
    refine e_Ok.ps1 (x := (0, 0)) (q := 32) 1 rfl ?_
    refine e_Ok.rets rfl rfl ?_
    exact ⟨_, rfl, rfl, ⟨by omega, by omega⟩⟩
  · replace h2 : (w 78 i : Int) ≠ 0 := (show ¬ ((w 78 i : Int) = 0) from h2)
    refine e_Ok.ps1 (x := (1, 74)) (q := 10) 1 rfl ?_
    refine e_Ok.getr (z := 79) rfl (el_o rfl) rfl rfl (e_Has.eq hT (kt_o rfl)) ⟨by decide, by decide⟩ ?_
    refine e_Ok.ps1 (x := (0, i)) (q := 14) 1 rfl ?_
    have h3 := (e_Has.get hT (c := 79) (k := i) (lo := 0) (hi := 1) (kt_o rfl) (by decide))
    refine e_Ok.ald (z := w 79 i) rfl (el_o rfl) rfl (by omega) rfl (e_bq h3 (by decide) (by decide)) ?_
    refine e_Ok.if1 rfl (fun h4 => ?_) (fun h4 => ?_)
    · replace h4 : (w 79 i : Int) = 0 := h4
      refine e_Ok.ps1 (x := (0, 0)) (q := 32) 1 rfl ?_
      refine e_Ok.rets rfl rfl ?_
      exact ⟨_, rfl, rfl, ⟨by omega, by omega⟩⟩
    · replace h4 : (w 79 i : Int) ≠ 0 := (show ¬ ((w 79 i : Int) = 0) from h4)
      refine e_Ok.ps1 (x := (1, 74)) (q := 19) 1 rfl ?_
      refine e_Ok.getr (z := 80) rfl (el_o rfl) rfl rfl (e_Has.eq hT (kt_o rfl)) ⟨by decide, by decide⟩ ?_
      refine e_Ok.ps1 (x := (0, i)) (q := 23) 1 rfl ?_
      have h5 := (e_Has.get hT (c := 80) (k := i) (lo := 0) (hi := 1) (kt_o rfl) (by decide))
      refine e_Ok.ald (z := w 80 i) rfl (el_o rfl) rfl (by omega) rfl (e_bq h5 (by decide) (by decide)) ?_
      have hJ8 : ∀ m7 : Int, 0 ≤ m7 ∧ m7 ≤ 1 → e_Ok 20 elay kcode eI d 29 (32, [(0, (1, 74)), (1, (0, i))], [(0, m7)], w) (fun r w' => ∃ z : Int, r = [(0, z)] ∧ w = w' ∧ (0 ≤ z ∧ z ≤ 1)) := by
        intro m7 m7r
        refine e_Ok.retb rfl (by omega) ?_
        exact ⟨_, rfl, rfl, ⟨by omega, by omega⟩⟩
      refine e_Ok.if1 rfl (fun h6 => ?_) (fun h6 => ?_)
      · exact e_Ok.run 1 rfl (hJ8 0 (by omega))
      · exact e_Ok.run 2 rfl (hJ8 1 (by omega))
theorem c_30 {d : Nat} (hd : 21 ≤ d) {w : eW} (hT : e_Has kTy w) {i : Int} (g_i : 0 ≤ i ∧ i ≤ 7) : e_Ok 20 elay kcode eI d 30 (0, [(0, (1, 74)), (1, (0, i))], [], w) (fun r w' => ∃ z : Int, r = [(0, z)] ∧ w = w' ∧ (0 ≤ z ∧ z ≤ 2)) := by
  obtain ⟨d, rfl⟩ : ∃ e, d = e + 1 := ⟨d - 1, by omega⟩
  refine e_Ok.ps1 (x := (1, 74)) (q := 1) 1 rfl ?_
  refine e_Ok.getr (z := 80) rfl (el_o rfl) rfl rfl (e_Has.eq hT (kt_o rfl)) ⟨by decide, by decide⟩ ?_
  refine e_Ok.ps1 (x := (0, i)) (q := 5) 1 rfl ?_
  have h1 := (e_Has.get hT (c := 80) (k := i) (lo := 0) (hi := 1) (kt_o rfl) (by decide))
  refine e_Ok.ald (z := w 80 i) rfl (el_o rfl) rfl (by omega) rfl (e_bq h1 (by decide) (by decide)) ?_
  refine e_Ok.if1 rfl (fun h2 => ?_) (fun h2 => ?_)
  · replace h2 : (w 80 i : Int) = 0 := h2
    refine e_Ok.ps2 (x := (0, i)) (y := (1, 74)) (q := 13) 2 rfl ?_
    refine e_Ok.callV rfl (e_dq hd rfl) rfl rfl rfl rfl (c_29 hT (by omega)) (fun r3 w4 h5 => ?_)
    obtain ⟨z7, rfl, rfl, q6r⟩ := h5
    refine e_Ok.nrm (q := 16) (st' := [(0, z7)]) rfl rfl ?_
    have hJ10 : ∀ m9 : Int, 0 ≤ m9 ∧ m9 ≤ 1 → e_Ok 20 elay kcode eI (d + 1) 30 (24, [(0, (1, 74)), (1, (0, i))], [(0, m9)], w) (fun r w' => ∃ z : Int, r = [(0, z)] ∧ w = w' ∧ (0 ≤ z ∧ z ≤ 2)) := by
      intro m9 m9r
      refine e_Ok.rets rfl rfl ?_
      exact ⟨_, rfl, rfl, ⟨by omega, by omega⟩⟩
    refine e_Ok.if1 rfl (fun h8 => ?_) (fun h8 => ?_)
    · exact e_Ok.run 1 rfl (hJ10 0 (by omega))
    · exact e_Ok.run 2 rfl (hJ10 1 (by omega))
  · replace h2 : (w 80 i : Int) ≠ 0 := (show ¬ ((w 80 i : Int) = 0) from h2)
    refine e_Ok.ps1 (x := (0, 2)) (q := 10) 1 rfl ?_
    refine e_Ok.rets rfl rfl ?_
    exact ⟨_, rfl, rfl, ⟨by omega, by omega⟩⟩
theorem c_31 {d : Nat} {w : eW} (hT : e_Has kTy w) : e_Ok 20 elay kcode eI d 31 (0, [(0, (1, 74))], [], w) (fun r w' => ∃ z : Int, r = [(0, z)] ∧ w = w' ∧ (0 ≤ z ∧ z ≤ 1)) := by
  refine e_Ok.run (t' := (2, [(1, (0, 0)), (0, (1, 74))], [], w)) 2 rfl ?_
  have hL1 : ∀ (nn : Nat) (y1 : Int), 0 ≤ y1 ∧ y1 ≤ 8 → 8 - y1 < nn → e_Ok 20 elay kcode eI d 31 (2, [(0, (1, 74)), (1, (0, y1))], [], w) (fun r w' => ∃ z : Int, r = [(0, z)] ∧ w = w' ∧ (0 ≤ z ∧ z ≤ 1)) := by
    intro nn
    induction nn with
    | zero => intro y1 hj hm; obtain j3 := hj; exfalso; omega
    | succ nn ih2 =>
      intro y1 hj hm
      obtain j3 := hj
      refine e_Ok.run (t' := (4, [(0, (1, 74)), (1, (0, y1))], [(1, 74), (0, y1)], w)) 2 rfl ?_
      have h4 := (e_Has.get hT (c := 74) (k := 2) (lo := 0) (hi := 8) (kt_o rfl) (by decide))
      refine e_Ok.getf (z := w 74 2) rfl (el_o rfl) rfl rfl rfl (e_bq h4 (by decide) (by decide)) ?_
      refine e_Ok.if2 rfl (fun h5 => ?_) (fun h5 => ?_)
      · replace h5 : (y1 : Int) ≥ w 74 2 := h5
        refine e_Ok.ps1 (x := (0, 1)) (q := 37) 1 rfl ?_
        refine e_Ok.rets rfl rfl ?_
        exact ⟨_, rfl, rfl, ⟨by omega, by omega⟩⟩
      · replace h5 : (y1 : Int) < w 74 2 := Int.not_le.mp (show ¬ ((y1 : Int) ≥ w 74 2) from h5)
        refine e_Ok.ps1 (x := (1, 74)) (q := 11) 1 rfl ?_
        refine e_Ok.getr (z := 78) rfl (el_o rfl) rfl rfl (e_Has.eq hT (kt_o rfl)) ⟨by decide, by decide⟩ ?_
        refine e_Ok.ps1 (x := (0, y1)) (q := 15) 1 rfl ?_
        have h6 := (e_Has.get hT (c := 78) (k := y1) (lo := 0) (hi := 1) (kt_o rfl) (by decide))
        refine e_Ok.ald (z := w 78 y1) rfl (el_o rfl) rfl (by omega) rfl (e_bq h6 (by decide) (by decide)) ?_
        refine e_Ok.if1 rfl (fun h7 => ?_) (fun h7 => ?_)
        · replace h7 : (w 78 y1 : Int) = 0 := h7
          refine e_Ok.ps1 (x := (0, 0)) (q := 29) 1 rfl ?_
          refine e_Ok.rets rfl rfl ?_
          exact ⟨_, rfl, rfl, ⟨by omega, by omega⟩⟩
        · replace h7 : (w 78 y1 : Int) ≠ 0 := (show ¬ ((w 78 y1 : Int) = 0) from h7)
          refine e_Ok.ps1 (x := (1, 74)) (q := 20) 1 rfl ?_
          refine e_Ok.getr (z := 79) rfl (el_o rfl) rfl rfl (e_Has.eq hT (kt_o rfl)) ⟨by decide, by decide⟩ ?_
          refine e_Ok.ps1 (x := (0, y1)) (q := 24) 1 rfl ?_
          have h8 := (e_Has.get hT (c := 79) (k := y1) (lo := 0) (hi := 1) (kt_o rfl) (by decide))
          refine e_Ok.ald (z := w 79 y1) rfl (el_o rfl) rfl (by omega) rfl (e_bq h8 (by decide) (by decide)) ?_
          refine e_Ok.if1 rfl (fun h9 => ?_) (fun h9 => ?_)
          · replace h9 : (w 79 y1 : Int) ≠ 0 := h9
            refine e_Ok.inc (z := y1 + 1) rfl rfl (by first | with_reducible rfl | omega) (by omega) ?_
            show e_Ok 20 elay kcode eI d 31 (33, [(1, (0, y1 + 1)), (0, (1, 74))], [], w) _
            refine e_Ok.ps0 (q := 2) 1 rfl ?_
            refine e_Ok.sub kAlk (e_sub_of rfl ?_) (ih2 (y1 + 1) (by omega) (by omega))
            exact ⟨rfl, rfl, trivial⟩
          · replace h9 : (w 79 y1 : Int) = 0 := Classical.not_not.mp (show ¬ ((w 79 y1 : Int) ≠ 0) from h9)
            refine e_Ok.ps1 (x := (0, 0)) (q := 29) 1 rfl ?_
            refine e_Ok.rets rfl rfl ?_
            exact ⟨_, rfl, rfl, ⟨by omega, by omega⟩⟩
  refine e_Ok.sub kAlk (e_sub_of rfl ?_) (hL1 (8 + 1 : Int).toNat 0 (by omega) (by omega))
  exact ⟨rfl, rfl, trivial⟩
theorem c_28 {d : Nat} {w : eW} (hT : e_Has kTy w) {i u v : Int} (g_i : 0 ≤ i ∧ i ≤ 7) (g_u : 0 ≤ u ∧ u ≤ 1) (g_v : 0 ≤ v ∧ v ≤ 1) : e_Ok 20 elay kcode eI d 28 (0, [(0, (1, 74)), (1, (0, i)), (2, (0, u)), (3, (0, v))], [], w) (fun r w' => ∃ z : Int, r = [(0, z)] ∧ e_fr kCh w w' ∧ e_Has kTy w' ∧ (0 ≤ z ∧ z ≤ 0)) := by
  refine e_Ok.ps1 (x := (1, 74)) (q := 1) 1 rfl ?_
  refine e_Ok.getr (z := 78) rfl (el_o rfl) rfl rfl (e_Has.eq hT (kt_o rfl)) ⟨by decide, by decide⟩ ?_
  refine e_Ok.ps2 (x := (0, u)) (y := (0, i)) (q := 6) 2 rfl ?_
  refine e_Ok.ast rfl (el_o rfl) rfl (e_nar_b (by omega)) (by omega) ?_
  generalize hw1 : e_up w 78 i u = w1
  have hT3 : e_Has kTy w1 := e_Has.upr hT hw1 (kt_o rfl) (by omega)
  refine e_Ok.ps1 (x := (1, 74)) (q := 8) 1 rfl ?_
  refine e_Ok.getr (z := 79) rfl (el_o rfl) rfl rfl (e_uq hw1 (Or.inl (by decide)) (e_Has.eq hT (kt_o rfl))) ⟨by decide, by decide⟩ ?_
  refine e_Ok.ps2 (x := (0, v)) (y := (0, i)) (q := 13) 2 rfl ?_
  refine e_Ok.ast rfl (el_o rfl) rfl (e_nar_b (by omega)) (by omega) ?_
  generalize hw4 : e_up w1 79 i v = w4
  have hT6 : e_Has kTy w4 := e_Has.upr hT3 hw4 (kt_o rfl) (by omega)
  refine e_Ok.ps1 (x := (0, 0)) (q := 15) 1 rfl ?_
  refine e_Ok.rets rfl rfl ?_
  exact ⟨_, rfl, (show e_fr kCh w w4 from e_fr.up (show e_fr kCh w w1 from e_fr.up (e_fr.refl w) hw1 (by first | exact Or.inl rfl | (unfold kCh; omega))) hw4 (by first | exact Or.inr rfl | (unfold kCh; omega))), hT6, ⟨by omega, by omega⟩⟩
theorem no_c3_5 {k : Int} : ¬ kCi 74 k := by unfold kCi; omega
theorem no_c3_6 {k : Int} : ¬ kCi 78 k := by unfold kCi; omega
theorem no_c3_7 {k : Int} : ¬ kCi 79 k := by unfold kCi; omega
theorem no_c3_8 {k : Int} : ¬ kCi 76 k := by unfold kCi; omega
theorem c_32 {d : Nat} (hd : 21 ≤ d) {w : eW} (hT : e_Has kTy w) : e_Ok 20 elay kcode eI d 32 (0, [(0, (1, 74))], [], w) (fun r w' => ∃ z : Int, r = [(0, z)] ∧ e_fr kCi w w' ∧ e_Has kTy w' ∧ ((-1) ≤ z ∧ z ≤ 7)) := by
  obtain ⟨d, rfl⟩ : ∃ e, d = e + 1 := ⟨d - 1, by omega⟩
  refine e_Ok.run (t' := (3, [(1, (0, (-1))), (0, (1, 74))], [(1, 74)], w)) 3 rfl ?_
  have h1 := (e_Has.get hT (c := 74) (k := 2) (lo := 0) (hi := 8) (kt_o rfl) (by decide))
  refine e_Ok.getf (z := w 74 2) rfl (el_o rfl) rfl rfl rfl (e_bq h1 (by decide) (by decide)) ?_
  refine e_Ok.ps1 (x := (0, 1)) (q := 7) 1 rfl ?_
  refine e_Ok.sub' (z := w 74 2 - 1) rfl rfl (by omega) ?_
  refine e_Ok.run (t' := (9, [(2, (0, w 74 2 - 1)), (1, (0, (-1))), (0, (1, 74))], [], w)) 1 rfl ?_
  have hL2 : ∀ (nn : Nat) (y1 : Int) (y2 : Int) (v1 : eW), e_fr kCi w v1 ∧ e_Has kTy v1 ∧ ((-1) ≤ y1 ∧ y1 ≤ 7) ∧ ((-1) ≤ y2 ∧ y2 ≤ 7) → y2 + 1 < nn → e_Ok 20 elay kcode eI (d + 1) 32 (9, [(0, (1, 74)), (1, (0, y1)), (2, (0, y2))], [], v1) (fun r w' => ∃ z : Int, r = [(0, z)] ∧ e_fr kCi w w' ∧ e_Has kTy w' ∧ ((-1) ≤ z ∧ z ≤ 7)) := by
    intro nn
    induction nn with
    | zero => intro y1 y2 v1 hj hm; obtain ⟨j4, j5, j6, j7⟩ := hj; exfalso; omega
    | succ nn ih3 =>
      intro y1 y2 v1 hj hm
      obtain ⟨j4, j5, j6, j7⟩ := hj
      refine e_Ok.run (t' := (10, [(0, (1, 74)), (1, (0, y1)), (2, (0, y2))], [(0, y2)], v1)) 1 rfl ?_
      refine e_Ok.if1 rfl (fun h8 => ?_) (fun h8 => ?_)
      · replace h8 : (y2 : Int) < 0 := h8
        refine e_Ok.ps1 (x := (0, y1)) (q := 85) 1 rfl ?_
        refine e_Ok.rets rfl rfl ?_
        exact ⟨_, rfl, j4, j5, ⟨by omega, by omega⟩⟩
      · replace h8 : (y2 : Int) ≥ 0 := Int.not_lt.mp (show ¬ ((y2 : Int) < 0) from h8)
        refine e_Ok.ps1 (x := (1, 74)) (q := 14) 1 rfl ?_
        refine e_Ok.getr (z := 81) rfl (el_o rfl) rfl rfl ((j4 74 14 no_c3_5).trans (e_Has.eq hT (kt_o rfl))) ⟨by decide, by decide⟩ ?_
        refine e_Ok.ps2 (x := (1, 74)) (y := (0, y2)) (q := 19) 2 rfl ?_
        refine e_Ok.getr (z := 78) rfl (el_o rfl) rfl rfl ((j4 74 11 no_c3_5).trans (e_Has.eq hT (kt_o rfl))) ⟨by decide, by decide⟩ ?_
        refine e_Ok.ps1 (x := (0, y2)) (q := 23) 1 rfl ?_
        have h9 := (e_Has.get hT (c := 78) (k := y2) (lo := 0) (hi := 1) (kt_o rfl) (by decide))
        refine e_Ok.ald (z := w 78 y2) rfl (el_o rfl) rfl (by omega) ((j4 78 y2 no_c3_6).trans rfl) (e_bq h9 (by decide) (by decide)) ?_
        refine e_Ok.ps1 (x := (1, 74)) (q := 25) 1 rfl ?_
        refine e_Ok.getr (z := 79) rfl (el_o rfl) rfl rfl ((j4 74 12 no_c3_5).trans (e_Has.eq hT (kt_o rfl))) ⟨by decide, by decide⟩ ?_
        refine e_Ok.ps1 (x := (0, y2)) (q := 29) 1 rfl ?_
        have h10 := (e_Has.get hT (c := 79) (k := y2) (lo := 0) (hi := 1) (kt_o rfl) (by decide))
        refine e_Ok.ald (z := w 79 y2) rfl (el_o rfl) rfl (by omega) ((j4 79 y2 no_c3_7).trans rfl) (e_bq h10 (by decide) (by decide)) ?_
        refine e_Ok.if2 rfl (fun h11 => ?_) (fun h11 => ?_)
        · replace h11 : (w 78 y2 : Int) ≠ w 79 y2 := h11
          refine e_Ok.ps1 (x := (1, 74)) (q := 38) 1 rfl ?_
          refine e_Ok.getr (z := 81) rfl (el_o rfl) rfl rfl ((j4 74 14 no_c3_5).trans (e_Has.eq hT (kt_o rfl))) ⟨by decide, by decide⟩ ?_
          refine e_Ok.ps1 (x := (0, y2)) (q := 42) 1 rfl ?_
          have h12 := (e_Has.get j5 (c := 81) (k := y2) (lo := (-2147483648)) (hi := 2147483647) rfl (by decide))
          refine e_Ok.ald (z := v1 81 y2) rfl (el_o rfl) rfl (by omega) rfl (e_bq h12 (by decide) (by decide)) ?_
          refine e_Ok.ps1 (x := (0, 1)) (q := 44) 1 rfl ?_
          refine e_Ok.any rfl (eF_add_any _ _) (fun z13 z13a z13b => ?_)
          refine e_Ok.ast rfl (el_o rfl) rfl rfl (by omega) ?_
          generalize hw14 : e_up v1 81 y2 z13 = w14
          have f15 : e_fr kCi w w14 := e_fr.up j4 hw14 (by first | exact Or.inr rfl | (unfold kCi; omega))
          have hT16 : e_Has kTy w14 := e_Has.upr j5 hw14 rfl (by omega)
          refine e_Ok.ps1 (x := (1, 74)) (q := 47) 1 rfl ?_
          refine e_Ok.getr (z := 81) rfl (el_o rfl) rfl rfl (e_uq hw14 (Or.inl (by decide)) ((j4 74 14 no_c3_5).trans (e_Has.eq hT (kt_o rfl)))) ⟨by decide, by decide⟩ ?_
          refine e_Ok.ps1 (x := (0, y2)) (q := 51) 1 rfl ?_
          refine e_Ok.ald (z := z13) rfl (el_o rfl) rfl (by omega) (e_ue hw14) (by omega) ?_
          refine e_Ok.ps1 (x := (1, 74)) (q := 53) 1 rfl ?_
          refine e_Ok.getr (z := 76) rfl (el_o rfl) rfl rfl (e_uq hw14 (Or.inl (by decide)) ((j4 74 9 no_c3_5).trans (e_Has.eq hT (kt_o rfl)))) ⟨by decide, by decide⟩ ?_
          refine e_Ok.ps1 (x := (0, y2)) (q := 57) 1 rfl ?_
          have h17 := (e_Has.get hT (c := 76) (k := y2) (lo := (-2147483648)) (hi := 2147483647) (kt_o rfl) (by decide))
          refine e_Ok.ald (z := w 76 y2) rfl (el_o rfl) rfl (by omega) (e_uq hw14 (Or.inl (by decide)) ((j4 76 y2 no_c3_8).trans rfl)) (e_bq h17 (by decide) (by decide)) ?_
          refine e_Ok.if2 rfl (fun h18 => ?_) (fun h18 => ?_)
          · replace h18 : (z13 : Int) ≤ w 76 y2 := h18
            refine e_Ok.ps2 (x := (0, y2)) (y := (1, 74)) (q := 70) 2 rfl ?_
            refine e_Ok.callV rfl (e_dq hd rfl) rfl rfl rfl rfl (c_29 hT16 (by omega)) (fun r19 w20 h21 => ?_)
            obtain ⟨z23, rfl, rfl, q22r⟩ := h21
            refine e_Ok.nrm (q := 73) (st' := [(0, z23)]) rfl rfl ?_
            refine e_Ok.if1 rfl (fun h24 => ?_) (fun h24 => ?_)
            · replace h24 : (z23 : Int) ≠ 0 := h24
              refine e_Ok.inc (z := y2 - 1) rfl rfl (by first | with_reducible rfl | omega) (by omega) ?_
              show e_Ok 20 elay kcode eI (d + 1) 32 (81, [(2, (0, y2 - 1)), (0, (1, 74)), (1, (0, y1))], [], w14) _
              refine e_Ok.ps0 (q := 9) 1 rfl ?_
              refine e_Ok.sub kAlk (e_sub_of rfl ?_) (ih3 y1 (y2 - 1) w14 ⟨f15, hT16, by omega, by omega⟩ (by omega))
              exact ⟨rfl, rfl, rfl, trivial⟩
            · replace h24 : (z23 : Int) = 0 := Classical.not_not.mp (show ¬ ((z23 : Int) ≠ 0) from h24)
              refine e_Ok.run (t' := (78, [(1, (0, y2)), (0, (1, 74)), (2, (0, y2))], [], w14)) 2 rfl ?_
              refine e_Ok.inc (z := y2 - 1) rfl rfl (by first | with_reducible rfl | omega) (by omega) ?_
              show e_Ok 20 elay kcode eI (d + 1) 32 (81, [(2, (0, y2 - 1)), (1, (0, y2)), (0, (1, 74))], [], w14) _
              refine e_Ok.ps0 (q := 9) 1 rfl ?_
              refine e_Ok.sub kAlk (e_sub_of rfl ?_) (ih3 y2 (y2 - 1) w14 ⟨f15, hT16, by omega, by omega⟩ (by omega))
              exact ⟨rfl, rfl, rfl, trivial⟩
          · replace h18 : (z13 : Int) > w 76 y2 := Int.not_le.mp (show ¬ ((z13 : Int) ≤ w 76 y2) from h18)
            refine e_Ok.ps1 (x := (1, 74)) (q := 62) 1 rfl ?_
            refine e_Ok.getr (z := 80) rfl (el_o rfl) rfl rfl (e_uq hw14 (Or.inl (by decide)) ((j4 74 13 no_c3_5).trans (e_Has.eq hT (kt_o rfl)))) ⟨by decide, by decide⟩ ?_
            refine e_Ok.ps2 (x := (0, 1)) (y := (0, y2)) (q := 67) 2 rfl ?_
            refine e_Ok.ast rfl (el_o rfl) rfl (e_nar_b (by omega)) (by omega) ?_
            generalize hw25 : e_up w14 80 y2 1 = w25
            have f26 : e_fr kCi w w25 := e_fr.up f15 hw25 (by first | exact Or.inl rfl | (unfold kCi; omega))
            have hT27 : e_Has kTy w25 := e_Has.upr hT16 hw25 (kt_o rfl) (by omega)
            refine e_Ok.ps2 (x := (0, y2)) (y := (1, 74)) (q := 70) 2 rfl ?_
            refine e_Ok.callV rfl (e_dq hd rfl) rfl rfl rfl rfl (c_29 hT27 (by omega)) (fun r28 w29 h30 => ?_)
            obtain ⟨z32, rfl, rfl, q31r⟩ := h30
            refine e_Ok.nrm (q := 73) (st' := [(0, z32)]) rfl rfl ?_
            refine e_Ok.if1 rfl (fun h33 => ?_) (fun h33 => ?_)
            · replace h33 : (z32 : Int) ≠ 0 := h33
              refine e_Ok.inc (z := y2 - 1) rfl rfl (by first | with_reducible rfl | omega) (by omega) ?_
              show e_Ok 20 elay kcode eI (d + 1) 32 (81, [(2, (0, y2 - 1)), (0, (1, 74)), (1, (0, y1))], [], w25) _
              refine e_Ok.ps0 (q := 9) 1 rfl ?_
              refine e_Ok.sub kAlk (e_sub_of rfl ?_) (ih3 y1 (y2 - 1) w25 ⟨f26, hT27, by omega, by omega⟩ (by omega))
              exact ⟨rfl, rfl, rfl, trivial⟩
            · replace h33 : (z32 : Int) = 0 := Classical.not_not.mp (show ¬ ((z32 : Int) ≠ 0) from h33)
              refine e_Ok.run (t' := (78, [(1, (0, y2)), (0, (1, 74)), (2, (0, y2))], [], w25)) 2 rfl ?_
              refine e_Ok.inc (z := y2 - 1) rfl rfl (by first | with_reducible rfl | omega) (by omega) ?_
              show e_Ok 20 elay kcode eI (d + 1) 32 (81, [(2, (0, y2 - 1)), (1, (0, y2)), (0, (1, 74))], [], w25) _
              refine e_Ok.ps0 (q := 9) 1 rfl ?_
              refine e_Ok.sub kAlk (e_sub_of rfl ?_) (ih3 y2 (y2 - 1) w25 ⟨f26, hT27, by omega, by omega⟩ (by omega))
              exact ⟨rfl, rfl, rfl, trivial⟩
        · replace h11 : (w 78 y2 : Int) = w 79 y2 := Classical.not_not.mp (show ¬ ((w 78 y2 : Int) ≠ w 79 y2) from h11)
          refine e_Ok.ps1 (x := (0, 0)) (q := 45) 2 rfl ?_
          refine e_Ok.ast rfl (el_o rfl) rfl rfl (by omega) ?_
          generalize hw34 : e_up v1 81 y2 0 = w34
          have f35 : e_fr kCi w w34 := e_fr.up j4 hw34 (by first | exact Or.inr rfl | (unfold kCi; omega))
          have hT36 : e_Has kTy w34 := e_Has.upr j5 hw34 rfl (by omega)
          refine e_Ok.ps1 (x := (1, 74)) (q := 47) 1 rfl ?_
          refine e_Ok.getr (z := 81) rfl (el_o rfl) rfl rfl (e_uq hw34 (Or.inl (by decide)) ((j4 74 14 no_c3_5).trans (e_Has.eq hT (kt_o rfl)))) ⟨by decide, by decide⟩ ?_
          refine e_Ok.ps1 (x := (0, y2)) (q := 51) 1 rfl ?_
          refine e_Ok.ald (z := 0) rfl (el_o rfl) rfl (by omega) (e_ue hw34) (by omega) ?_
          refine e_Ok.ps1 (x := (1, 74)) (q := 53) 1 rfl ?_
          refine e_Ok.getr (z := 76) rfl (el_o rfl) rfl rfl (e_uq hw34 (Or.inl (by decide)) ((j4 74 9 no_c3_5).trans (e_Has.eq hT (kt_o rfl)))) ⟨by decide, by decide⟩ ?_
          refine e_Ok.ps1 (x := (0, y2)) (q := 57) 1 rfl ?_
          have h37 := (e_Has.get hT (c := 76) (k := y2) (lo := (-2147483648)) (hi := 2147483647) (kt_o rfl) (by decide))
          refine e_Ok.ald (z := w 76 y2) rfl (el_o rfl) rfl (by omega) (e_uq hw34 (Or.inl (by decide)) ((j4 76 y2 no_c3_8).trans rfl)) (e_bq h37 (by decide) (by decide)) ?_
          refine e_Ok.if2 rfl (fun h38 => ?_) (fun h38 => ?_)
          · replace h38 : (0 : Int) ≤ w 76 y2 := h38
            refine e_Ok.ps2 (x := (0, y2)) (y := (1, 74)) (q := 70) 2 rfl ?_
            refine e_Ok.callV rfl (e_dq hd rfl) rfl rfl rfl rfl (c_29 hT36 (by omega)) (fun r40 w41 h42 => ?_)
            obtain ⟨z44, rfl, rfl, q43r⟩ := h42
            refine e_Ok.nrm (q := 73) (st' := [(0, z44)]) rfl rfl ?_
            refine e_Ok.if1 rfl (fun h45 => ?_) (fun h45 => ?_)
            · replace h45 : (z44 : Int) ≠ 0 := h45
              refine e_Ok.inc (z := y2 - 1) rfl rfl (by first | with_reducible rfl | omega) (by omega) ?_
              show e_Ok 20 elay kcode eI (d + 1) 32 (81, [(2, (0, y2 - 1)), (0, (1, 74)), (1, (0, y1))], [], w34) _
              refine e_Ok.ps0 (q := 9) 1 rfl ?_
              refine e_Ok.sub kAlk (e_sub_of rfl ?_) (ih3 y1 (y2 - 1) w34 ⟨f35, hT36, by omega, by omega⟩ (by omega))
              exact ⟨rfl, rfl, rfl, trivial⟩
            · replace h45 : (z44 : Int) = 0 := Classical.not_not.mp (show ¬ ((z44 : Int) ≠ 0) from h45)
              refine e_Ok.run (t' := (78, [(1, (0, y2)), (0, (1, 74)), (2, (0, y2))], [], w34)) 2 rfl ?_
              refine e_Ok.inc (z := y2 - 1) rfl rfl (by first | with_reducible rfl | omega) (by omega) ?_
              show e_Ok 20 elay kcode eI (d + 1) 32 (81, [(2, (0, y2 - 1)), (1, (0, y2)), (0, (1, 74))], [], w34) _
              refine e_Ok.ps0 (q := 9) 1 rfl ?_
              refine e_Ok.sub kAlk (e_sub_of rfl ?_) (ih3 y2 (y2 - 1) w34 ⟨f35, hT36, by omega, by omega⟩ (by omega))
              exact ⟨rfl, rfl, rfl, trivial⟩
          · replace h38 : (0 : Int) > w 76 y2 := Int.not_le.mp (show ¬ ((0 : Int) ≤ w 76 y2) from h38)
            refine e_Ok.ps1 (x := (1, 74)) (q := 62) 1 rfl ?_
            refine e_Ok.getr (z := 80) rfl (el_o rfl) rfl rfl (e_uq hw34 (Or.inl (by decide)) ((j4 74 13 no_c3_5).trans (e_Has.eq hT (kt_o rfl)))) ⟨by decide, by decide⟩ ?_
            refine e_Ok.ps2 (x := (0, 1)) (y := (0, y2)) (q := 67) 2 rfl ?_
            refine e_Ok.ast rfl (el_o rfl) rfl (e_nar_b (by omega)) (by omega) ?_
            generalize hw46 : e_up w34 80 y2 1 = w46
            have f47 : e_fr kCi w w46 := e_fr.up f35 hw46 (by first | exact Or.inl rfl | (unfold kCi; omega))
            have hT48 : e_Has kTy w46 := e_Has.upr hT36 hw46 (kt_o rfl) (by omega)
            refine e_Ok.ps2 (x := (0, y2)) (y := (1, 74)) (q := 70) 2 rfl ?_
            refine e_Ok.callV rfl (e_dq hd rfl) rfl rfl rfl rfl (c_29 hT48 (by omega)) (fun r49 w50 h51 => ?_)
            obtain ⟨z53, rfl, rfl, q52r⟩ := h51
            refine e_Ok.nrm (q := 73) (st' := [(0, z53)]) rfl rfl ?_
            refine e_Ok.if1 rfl (fun h54 => ?_) (fun h54 => ?_)
            · replace h54 : (z53 : Int) ≠ 0 := h54
              refine e_Ok.inc (z := y2 - 1) rfl rfl (by first | with_reducible rfl | omega) (by omega) ?_
              show e_Ok 20 elay kcode eI (d + 1) 32 (81, [(2, (0, y2 - 1)), (0, (1, 74)), (1, (0, y1))], [], w46) _
              refine e_Ok.ps0 (q := 9) 1 rfl ?_
              refine e_Ok.sub kAlk (e_sub_of rfl ?_) (ih3 y1 (y2 - 1) w46 ⟨f47, hT48, by omega, by omega⟩ (by omega))
              exact ⟨rfl, rfl, rfl, trivial⟩
            · replace h54 : (z53 : Int) = 0 := Classical.not_not.mp (show ¬ ((z53 : Int) ≠ 0) from h54)
              refine e_Ok.run (t' := (78, [(1, (0, y2)), (0, (1, 74)), (2, (0, y2))], [], w46)) 2 rfl ?_
              refine e_Ok.inc (z := y2 - 1) rfl rfl (by first | with_reducible rfl | omega) (by omega) ?_
              show e_Ok 20 elay kcode eI (d + 1) 32 (81, [(2, (0, y2 - 1)), (1, (0, y2)), (0, (1, 74))], [], w46) _
              refine e_Ok.ps0 (q := 9) 1 rfl ?_
              refine e_Ok.sub kAlk (e_sub_of rfl ?_) (ih3 y2 (y2 - 1) w46 ⟨f47, hT48, by omega, by omega⟩ (by omega))
              exact ⟨rfl, rfl, rfl, trivial⟩
  refine e_Ok.sub kAlk (e_sub_of rfl ?_) (hL2 (9 + 1 : Int).toNat (-1) (w 74 2 - 1) w ⟨(e_fr.refl w), hT, by omega, by omega⟩ (by omega))
  exact ⟨rfl, rfl, rfl, trivial⟩
theorem no_c3_9 : ¬ kLg 74 3 := by unfold kLg; omega
theorem su_c3_14 {c k : Int} (q : kLg c k) : kCt c k := by
  unfold kLg at q
  rcases q with ⟨q, q⟩ | q
  · exact Or.inl ⟨(by omega), Or.inl (by omega)⟩
  · exact Or.inr (by omega)
theorem c_34 {d : Nat} (hd : 21 ≤ d) {w : eW} (hT : e_Has kTy w) {e1 e2 : Int} (g_e1 : (-2147483648) ≤ e1 ∧ e1 ≤ 2147483647) (g_e2 : (-2147483648) ≤ e2 ∧ e2 ≤ 2147483647) (he : w 74 1 < 2147483647) : e_Ok 20 elay kcode eI d 34 (0, [(0, (1, 74)), (1, (0, e1)), (2, (0, e2))], [], w) (fun r w' => r = [] ∧ e_fr kCt w w' ∧ e_Has kTy w' ∧ (w' 74 1 = w 74 1 + 1 ∧ (lgK w → lgK w')) ∧ w' 74 3 = 0) := by
  obtain ⟨d, rfl⟩ : ∃ e, d = e + 1 := ⟨d - 1, by omega⟩
  have h74 := e_Has.get hT (c := 74) (k := 1) (lo := 0) (hi := 2147483647) (kt_o rfl) (by decide)
  refine e_Ok.ps2 (x := (0, 0)) (y := (1, 74)) (q := 2) 2 rfl ?_
  refine e_Ok.putb rfl (el_o rfl) rfl rfl (by omega) ?_
  generalize hw1 : e_up w 74 3 0 = w1
  have hT3 : e_Has kTy w1 := e_Has.upr hT hw1 (kt_o rfl) (by omega)
  refine e_Ok.ps2 (x := (0, e1)) (y := (1, 74)) (q := 7) 2 rfl ?_
  refine e_Ok.putf rfl (el_o rfl) rfl rfl ?_
  generalize hw4 : e_up w1 74 4 e1 = w4
  have hT6 : e_Has kTy w4 := e_Has.upr hT3 hw4 (kt_o rfl) (by omega)
  refine e_Ok.ps2 (x := (0, e2)) (y := (1, 74)) (q := 12) 2 rfl ?_
  refine e_Ok.putf rfl (el_o rfl) rfl rfl ?_
  generalize hw7 : e_up w4 74 5 e2 = w7
  have hT9 : e_Has kTy w7 := e_Has.upr hT6 hw7 (kt_o rfl) (by omega)
  refine e_Ok.ps2 (x := (1, 74)) (y := (1, 74)) (q := 17) 2 rfl ?_
  have h10 := (e_Has.get hT (c := 74) (k := 0) (lo := 0) (hi := 6000) (kt_o rfl) (by decide))
  refine e_Ok.getf (z := w 74 0) rfl (el_o rfl) rfl rfl (e_uq hw7 (Or.inr (by decide)) (e_uq hw4 (Or.inr (by decide)) (e_uq hw1 (Or.inr (by decide)) rfl))) (e_bq h10 (by decide) (by decide)) ?_
  refine e_Ok.putf rfl (el_o rfl) rfl rfl ?_
  generalize hw11 : e_up w7 74 6 (w 74 0) = w11
  have hT13 : e_Has kTy w11 := e_Has.upr hT9 hw11 (kt_o rfl) (by omega)
  refine e_Ok.ps4 (x := (0, e2)) (y := (0, e1)) (z := (0, 2)) (u := (1, 74)) (q := 27) 4 rfl ?_
  refine e_Ok.callV rfl (e_dq hd rfl) rfl rfl rfl rfl (c_27 hT13 (by omega) (by omega) (by omega) (by rw [(show e_fr kNl w w11 from e_fr.up (show e_fr kNl w w7 from e_fr.up (show e_fr kNl w w4 from e_fr.up (show e_fr kNl w w1 from e_fr.up (show e_fr kNl w w from e_fr.refl w) hw1 (by unfold kNl; omega)) hw4 (by unfold kNl; omega)) hw7 (by unfold kNl; omega)) hw11 (by unfold kNl; omega)) _ _ (by unfold kNl; omega)]; exact he)) (fun r14 w15 h16 => ?_)
  obtain ⟨rfl, q17f, q17T, q17x⟩ := h16
  refine e_Ok.nrm (q := 30) (st' := []) rfl rfl ?_
  refine e_Ok.rets rfl rfl ?_
  exact ⟨rfl, (show e_fr kCt w w15 from e_fr.trans (show e_fr kCt w w11 from e_fr.up (show e_fr kCt w w7 from e_fr.up (show e_fr kCt w w4 from e_fr.up (show e_fr kCt w w1 from e_fr.up (e_fr.refl w) hw1 (by first | exact Or.inl ⟨rfl, Or.inr ⟨(by decide), (by decide)⟩⟩ | (unfold kCt; omega))) hw4 (by first | exact Or.inl ⟨rfl, Or.inr ⟨(by decide), (by decide)⟩⟩ | (unfold kCt; omega))) hw7 (by first | exact Or.inl ⟨rfl, Or.inr ⟨(by decide), (by decide)⟩⟩ | (unfold kCt; omega))) hw11 (by first | exact Or.inl ⟨rfl, Or.inr ⟨(by decide), (by decide)⟩⟩ | (unfold kCt; omega))) (e_fr.mono q17f (fun c k q => su_c3_14 q))), q17T, ⟨(by rw [q17x.1, (show e_fr kNl w w11 from e_fr.up (show e_fr kNl w w7 from e_fr.up (show e_fr kNl w w4 from e_fr.up (show e_fr kNl w w1 from e_fr.up (show e_fr kNl w w from e_fr.refl w) hw1 (by unfold kNl; omega)) hw4 (by unfold kNl; omega)) hw7 (by unfold kNl; omega)) hw11 (by unfold kNl; omega)) _ _ (by unfold kNl; omega)]), fun hL => q17x.2 (by have f := (show e_fr kNl w w11 from e_fr.up (show e_fr kNl w w7 from e_fr.up (show e_fr kNl w w4 from e_fr.up (show e_fr kNl w w1 from e_fr.up (show e_fr kNl w w from e_fr.refl w) hw1 (by unfold kNl; omega)) hw4 (by unfold kNl; omega)) hw7 (by unfold kNl; omega)) hw11 (by unfold kNl; omega)); exact lgK.ch f hL)⟩, ((q17f 74 3 no_c3_9).trans (e_uq hw11 (Or.inr (by first | decide | omega)) (e_uq hw7 (Or.inr (by first | decide | omega)) (e_uq hw4 (Or.inr (by first | decide | omega)) (e_ue hw1)))))⟩
theorem no_c3_10 : ¬ kPw 74 2 := by unfold kPw; omega
theorem no_c3_11 : ¬ kPw 74 13 := by unfold kPw; omega
theorem su_c3_15 {c k : Int} (q : kLg c k) : kPw c k := by
  unfold kLg at q
  rcases q with ⟨q, q⟩ | q
  · exact Or.inl ⟨(by omega), Or.inl (by omega)⟩
  · exact Or.inr (Or.inl (by omega))
theorem c_33 {d : Nat} (hd : 21 ≤ d) {w : eW} (hT : e_Has kTy w) {e1 : Int} (g_e1 : (-2147483648) ≤ e1 ∧ e1 ≤ 2147483647) (he : w 74 1 < 2147483647) : e_Ok 20 elay kcode eI d 33 (0, [(0, (1, 74)), (1, (0, e1))], [], w) (fun r w' => ∃ z : Int, r = [(0, z)] ∧ e_fr kPw w w' ∧ e_Has kTy w' ∧ (1 ≤ z ∧ z ≤ 1) ∧ (w' 74 1 = w 74 1 + 1 ∧ (lgK w → lgK w'))) := by
  obtain ⟨d, rfl⟩ : ∃ e, d = e + 1 := ⟨d - 1, by omega⟩
  have h74 := e_Has.get hT (c := 74) (k := 1) (lo := 0) (hi := 2147483647) (kt_o rfl) (by decide)
  refine e_Ok.run (t' := (2, [(2, (0, 0)), (0, (1, 74)), (1, (0, e1))], [], w)) 2 rfl ?_
  have hL1 : ∀ (nn : Nat) (y2 : Int) (v1 : eW), e_fr kPw w v1 ∧ e_Has kTy v1 ∧ e_fr kNl w v1 ∧ (0 ≤ y2 ∧ y2 ≤ 8) → 8 - y2 < nn → e_Ok 20 elay kcode eI (d + 1) 33 (2, [(0, (1, 74)), (1, (0, e1)), (2, (0, y2))], [], v1) (fun r w' => ∃ z : Int, r = [(0, z)] ∧ e_fr kPw w w' ∧ e_Has kTy w' ∧ (1 ≤ z ∧ z ≤ 1) ∧ (w' 74 1 = w 74 1 + 1 ∧ (lgK w → lgK w'))) := by
    intro nn
    induction nn with
    | zero => intro y2 v1 hj hm; obtain ⟨j3, j4, j5, j6⟩ := hj; exfalso; omega
    | succ nn ih2 =>
      intro y2 v1 hj hm
      obtain ⟨j3, j4, j5, j6⟩ := hj
      refine e_Ok.run (t' := (4, [(0, (1, 74)), (1, (0, e1)), (2, (0, y2))], [(1, 74), (0, y2)], v1)) 2 rfl ?_
      have h7 := (e_Has.get hT (c := 74) (k := 2) (lo := 0) (hi := 8) (kt_o rfl) (by decide))
      refine e_Ok.getf (z := w 74 2) rfl (el_o rfl) rfl rfl ((j3 74 2 no_c3_10).trans rfl) (e_bq h7 (by decide) (by decide)) ?_
      refine e_Ok.if2 rfl (fun h8 => ?_) (fun h8 => ?_)
      · replace h8 : (y2 : Int) ≥ w 74 2 := h8
        refine e_Ok.ps2 (x := (0, 1)) (y := (1, 74)) (q := 25) 2 rfl ?_
        refine e_Ok.putb rfl (el_o rfl) rfl rfl (by omega) ?_
        generalize hw9 : e_up v1 74 3 1 = w9
        have hT11 : e_Has kTy w9 := e_Has.upr j4 hw9 rfl (by omega)
        refine e_Ok.ps4 (x := (0, 0)) (y := (0, e1)) (z := (0, 3)) (u := (1, 74)) (q := 32) 4 rfl ?_
        refine e_Ok.callV rfl (e_dq hd rfl) rfl rfl rfl rfl (c_27 hT11 (by omega) (by omega) (by omega) (by rw [(show e_fr kNl w w9 from e_fr.up j5 hw9 (by unfold kNl; omega)) _ _ (by unfold kNl; omega)]; exact he)) (fun r12 w13 h14 => ?_)
        obtain ⟨rfl, q15f, q15T, q15x⟩ := h14
        refine e_Ok.nrm (q := 35) (st' := []) rfl rfl ?_
        refine e_Ok.ps1 (x := (0, 1)) (q := 36) 1 rfl ?_
        refine e_Ok.rets rfl rfl ?_
        exact ⟨_, rfl, (show e_fr kPw w w13 from e_fr.trans (show e_fr kPw w w9 from e_fr.up j3 hw9 (by first | exact Or.inl ⟨rfl, Or.inr rfl⟩ | (unfold kPw; omega))) (e_fr.mono q15f (fun c k q => su_c3_15 q))), q15T, ⟨by omega, by omega⟩, ⟨(by rw [q15x.1, (show e_fr kNl w w9 from e_fr.up j5 hw9 (by unfold kNl; omega)) _ _ (by unfold kNl; omega)]), fun hL => q15x.2 (by have f := (show e_fr kNl w w9 from e_fr.up j5 hw9 (by unfold kNl; omega)); exact lgK.ch f hL)⟩⟩
      · replace h8 : (y2 : Int) < w 74 2 := Int.not_le.mp (show ¬ ((y2 : Int) ≥ w 74 2) from h8)
        refine e_Ok.ps1 (x := (1, 74)) (q := 11) 1 rfl ?_
        refine e_Ok.getr (z := 80) rfl (el_o rfl) rfl rfl ((j3 74 13 no_c3_11).trans (e_Has.eq hT (kt_o rfl))) ⟨by decide, by decide⟩ ?_
        refine e_Ok.ps2 (x := (0, 0)) (y := (0, y2)) (q := 16) 2 rfl ?_
        refine e_Ok.ast rfl (el_o rfl) rfl (e_nar_b (by omega)) (by omega) ?_
        generalize hw17 : e_up v1 80 y2 0 = w17
        have hT19 : e_Has kTy w17 := e_Has.upr j4 hw17 rfl (by omega)
        refine e_Ok.inc (z := y2 + 1) rfl rfl (by first | with_reducible rfl | omega) (by omega) ?_
        show e_Ok 20 elay kcode eI (d + 1) 33 (20, [(2, (0, y2 + 1)), (0, (1, 74)), (1, (0, e1))], [], w17) _
        refine e_Ok.ps0 (q := 2) 1 rfl ?_
        refine e_Ok.sub kAlk (e_sub_of rfl ?_) (ih2 (y2 + 1) w17 ⟨(show e_fr kPw w w17 from e_fr.up j3 hw17 (by first | exact Or.inr (Or.inr rfl) | (unfold kPw; omega))), hT19, (show e_fr kNl w w17 from e_fr.up j5 hw17 (by unfold kNl; omega)), by omega⟩ (by omega))
        exact ⟨rfl, rfl, rfl, trivial⟩
  refine e_Ok.sub kAlk (e_sub_of rfl ?_) (hL1 (8 + 1 : Int).toNat 0 w ⟨(e_fr.refl w), hT, (e_fr.refl w), by omega⟩ (by omega))
  exact ⟨rfl, rfl, rfl, trivial⟩
theorem c_117 {d : Nat} {w : eW} (hT : e_Has kTy w) {p : Int} (g_p : 0 ≤ p ∧ p ≤ 63) (hp : pF w) : e_Ok 20 elay kcode eI d 117 (0, [(0, (1, 10)), (1, (0, p))], [], w) (fun r w' => ∃ z : Int, r = [(0, z)] ∧ w = w' ∧ ((-2147483648) ≤ z ∧ z ≤ 2147483647) ∧ z = rcv w (w 12) p) := by
  refine e_Ok.ps1 (x := (1, 10)) (q := 1) 1 rfl ?_
  refine e_Ok.getr (z := 16) rfl (el_o rfl) rfl rfl (e_Has.eq hT (kt_o rfl)) ⟨by decide, by decide⟩ ?_
  refine e_Ok.ps1 (x := (0, p)) (q := 5) 1 rfl ?_
  have h1 := (e_Has.get hT (c := 16) (k := p) (lo := 0) (hi := 1) (kt_o rfl) (by decide))
  refine e_Ok.ald (z := w 16 p) rfl (el_o rfl) rfl (by omega) rfl (e_bq h1 (by decide) (by decide)) ?_
  refine e_Ok.if1 rfl (fun h2 => ?_) (fun h2 => ?_)
  · replace h2 : (w 16 p : Int) = 0 := h2
    refine e_Ok.ps1 (x := (1, 10)) (q := 17) 1 rfl ?_
    refine e_Ok.getr (z := 15) rfl (el_o rfl) rfl rfl (e_Has.eq hT (kt_o rfl)) ⟨by decide, by decide⟩ ?_
    refine e_Ok.ps1 (x := (0, p)) (q := 21) 1 rfl ?_
    have h3 := (e_Has.get hT (c := 15) (k := p) (lo := (-1)) (hi := 63) (kt_o rfl) (by decide))
    refine e_Ok.ald (z := w 15 p) rfl (el_o rfl) rfl (by omega) rfl (e_bq h3 (by decide) (by decide)) ?_
    refine e_Ok.if1 rfl (fun h4 => ?_) (fun h4 => ?_)
    · replace h4 : (w 15 p : Int) ≥ 0 := h4
      refine e_Ok.ps1 (x := (1, 10)) (q := 33) 1 rfl ?_
      refine e_Ok.getr (z := 12) rfl (el_o rfl) rfl rfl (e_Has.eq hT (kt_o rfl)) ⟨by decide, by decide⟩ ?_
      refine e_Ok.ps1 (x := (1, 10)) (q := 37) 1 rfl ?_
      refine e_Ok.getr (z := 15) rfl (el_o rfl) rfl rfl (e_Has.eq hT (kt_o rfl)) ⟨by decide, by decide⟩ ?_
      refine e_Ok.ps1 (x := (0, p)) (q := 41) 1 rfl ?_
      refine e_Ok.ald (z := w 15 p) rfl (el_o rfl) rfl (by omega) rfl (by omega) ?_
      have h5 := (e_Has.get hT (c := 12) (k := w 15 p) (lo := (-2147483648)) (hi := 2147483647) (kt_o rfl) (by decide))
      refine e_Ok.ald (z := w 12 (w 15 p)) rfl (el_o rfl) rfl (by omega) rfl (e_bq h5 (by decide) (by decide)) ?_
      refine e_Ok.run (t' := (45, [(2, (0, w 12 (w 15 p))), (0, (1, 10)), (1, (0, p))], [(1, 10)], w)) 2 rfl ?_
      refine e_Ok.getr (z := 17) rfl (el_o rfl) rfl rfl (e_Has.eq hT (kt_o rfl)) ⟨by decide, by decide⟩ ?_
      refine e_Ok.ps1 (x := (0, p)) (q := 49) 1 rfl ?_
      have h6 := (e_Has.get hT (c := 17) (k := p) (lo := 0) (hi := 1) (kt_o rfl) (by decide))
      refine e_Ok.ald (z := w 17 p) rfl (el_o rfl) rfl (by omega) rfl (e_bq h6 (by decide) (by decide)) ?_
      refine e_Ok.if1 rfl (fun h7 => ?_) (fun h7 => ?_)
      · replace h7 : (w 17 p : Int) ≠ 0 := h7
        refine e_Ok.ps1 (x := (0, w 12 (w 15 p))) (q := 56) 1 rfl ?_
        refine e_Ok.if1 rfl (fun h8 => ?_) (fun h8 => ?_)
        · replace h8 : (w 12 (w 15 p) : Int) ≠ 0 := h8
          refine e_Ok.ps1 (x := (0, 0)) (q := 64) 1 rfl ?_
          refine e_Ok.rets rfl rfl ?_
          exact ⟨_, rfl, rfl, ⟨by omega, by omega⟩, (by unfold rcv; split <;> (try split) <;> (try split) <;> (try split) <;> omega)⟩
        · replace h8 : (w 12 (w 15 p) : Int) = 0 := Classical.not_not.mp (show ¬ ((w 12 (w 15 p) : Int) ≠ 0) from h8)
          refine e_Ok.ps1 (x := (0, 1)) (q := 64) 2 rfl ?_
          refine e_Ok.rets rfl rfl ?_
          exact ⟨_, rfl, rfl, ⟨by omega, by omega⟩, (by unfold rcv; split <;> (try split) <;> (try split) <;> (try split) <;> omega)⟩
      · replace h7 : (w 17 p : Int) = 0 := Classical.not_not.mp (show ¬ ((w 17 p : Int) ≠ 0) from h7)
        refine e_Ok.ps1 (x := (0, w 12 (w 15 p))) (q := 54) 1 rfl ?_
        refine e_Ok.rets rfl rfl ?_
        exact ⟨_, rfl, rfl, ⟨by omega, by omega⟩, (by unfold rcv; split <;> (try split) <;> (try split) <;> (try split) <;> omega)⟩
    · replace h4 : (w 15 p : Int) < 0 := Int.not_le.mp (show ¬ ((w 15 p : Int) ≥ 0) from h4)
      refine e_Ok.ps1 (x := (1, 10)) (q := 26) 1 rfl ?_
      refine e_Ok.getr (z := 11) rfl (el_o rfl) rfl rfl (e_Has.eq hT (kt_o rfl)) ⟨by decide, by decide⟩ ?_
      refine e_Ok.ps1 (x := (0, p)) (q := 30) 1 rfl ?_
      have h9 := (e_Has.get hT (c := 11) (k := p) (lo := (-2147483648)) (hi := 2147483647) (kt_o rfl) (by decide))
      refine e_Ok.ald (z := w 11 p) rfl (el_o rfl) rfl (by omega) rfl (e_bq h9 (by decide) (by decide)) ?_
      refine e_Ok.rets rfl rfl ?_
      exact ⟨_, rfl, rfl, ⟨by omega, by omega⟩, (by unfold rcv; split <;> (try split) <;> (try split) <;> (try split) <;> omega)⟩
  · replace h2 : (w 16 p : Int) ≠ 0 := (show ¬ ((w 16 p : Int) = 0) from h2)
    refine e_Ok.ps1 (x := (1, 10)) (q := 10) 1 rfl ?_
    refine e_Ok.getr (z := 14) rfl (el_o rfl) rfl rfl (e_Has.eq hT (kt_o rfl)) ⟨by decide, by decide⟩ ?_
    refine e_Ok.ps1 (x := (0, p)) (q := 14) 1 rfl ?_
    have h10 := ((fun i g1 g2 => by rw [show i = p by omega]; exact hp p (by omega) (by omega) (by omega) : e_kn w 14 p p) p (by omega) (by omega))
    refine e_Ok.ald (z := w 14 p) rfl (el_o rfl) rfl (by omega) rfl (by omega) ?_
    refine e_Ok.rets rfl rfl ?_
    exact ⟨_, rfl, rfl, ⟨by omega, by omega⟩, (by unfold rcv; split <;> (try split) <;> (try split) <;> (try split) <;> omega)⟩
theorem no_c3_12 {k : Int} : ¬ kSe 10 k := by unfold kSe; omega
theorem no_c3_13 {k : Int} : ¬ kSe 18 k := by unfold kSe; omega
theorem c_116 {d : Nat} (hd : 21 ≤ d) {w : eW} (hT : e_Has kTy w) (hp : pF w) : e_Ok 20 elay kcode eI d 116 (0, [(0, (1, 10))], [], w) (fun r w' => r = [] ∧ e_fr kSe w w' ∧ e_Has kTy w' ∧ (∀ V, pFx w V → pTo w → ∀ k, 0 ≤ k → k < 64 → w' 12 (w 18 k) = V (w 18 k))) := by
  obtain ⟨d, rfl⟩ : ∃ e, d = e + 1 := ⟨d - 1, by omega⟩
  refine e_Ok.run (t' := (2, [(1, (0, 0)), (0, (1, 10))], [], w)) 2 rfl ?_
  have hL1 : ∀ (nn : Nat) (y1 : Int) (v1 : eW), e_fr kSe w v1 ∧ e_Has kTy v1 ∧ (∀ V, pFx w V → pTo w → ∀ k, 0 ≤ k → k < y1 → v1 12 (w 18 k) = V (w 18 k)) ∧ (0 ≤ y1 ∧ y1 ≤ 64) → 64 - y1 < nn → e_Ok 20 elay kcode eI (d + 1) 116 (2, [(0, (1, 10)), (1, (0, y1))], [], v1) (fun r w' => r = [] ∧ e_fr kSe w w' ∧ e_Has kTy w' ∧ (∀ V, pFx w V → pTo w → ∀ k, 0 ≤ k → k < 64 → w' 12 (w 18 k) = V (w 18 k))) := by
    intro nn
    induction nn with
    | zero => intro y1 v1 hj hm; obtain ⟨j3, j4, j5, j6⟩ := hj; exfalso; omega
    | succ nn ih2 =>
      intro y1 v1 hj hm
      obtain ⟨j3, j4, j5, j6⟩ := hj
      refine e_Ok.run (t' := (5, [(0, (1, 10)), (1, (0, y1))], [(0, 64), (0, y1)], v1)) 2 rfl ?_
      refine e_Ok.if2 rfl (fun h7 => ?_) (fun h7 => ?_)
      · replace h7 : (y1 : Int) ≥ 64 := h7
        refine e_Ok.rets rfl rfl ?_
        exact ⟨rfl, j3, j4, fun V hV hT k g1 g2 => j5 V hV hT k g1 (by omega)⟩
      · replace h7 : (y1 : Int) < 64 := Int.not_le.mp (show ¬ ((y1 : Int) ≥ 64) from h7)
        refine e_Ok.ps1 (x := (1, 10)) (q := 9) 1 rfl ?_
        refine e_Ok.getr (z := 18) rfl (el_o rfl) rfl rfl ((j3 10 7 no_c3_12).trans (e_Has.eq hT (kt_o rfl))) ⟨by decide, by decide⟩ ?_
        refine e_Ok.ps1 (x := (0, y1)) (q := 13) 1 rfl ?_
        have h8 := (e_Has.get hT (c := 18) (k := y1) (lo := 0) (hi := 63) (kt_o rfl) (by decide))
        refine e_Ok.ald (z := w 18 y1) rfl (el_o rfl) rfl (by omega) ((j3 18 y1 no_c3_13).trans rfl) (e_bq h8 (by decide) (by decide)) ?_
        refine e_Ok.run (t' := (17, [(2, (0, w 18 y1)), (0, (1, 10)), (1, (0, y1))], [(0, w 18 y1), (1, 10)], v1)) 3 rfl ?_
        refine e_Ok.callV rfl (e_dq hd rfl) rfl rfl rfl rfl (c_117 j4 (by omega) (pF.fr j3 (fun k => by unfold kSe; omega) hp)) (fun r9 w10 h11 => ?_)
        obtain ⟨z13, rfl, rfl, q12r, q12x⟩ := h11
        refine e_Ok.nrm (q := 20) (st' := [(0, z13)]) rfl rfl ?_
        refine e_Ok.run (t' := (22, [(3, (0, z13)), (2, (0, w 18 y1)), (0, (1, 10)), (1, (0, y1))], [(1, 10)], v1)) 2 rfl ?_
        refine e_Ok.getr (z := 12) rfl (el_o rfl) rfl rfl ((j3 10 1 no_c3_12).trans (e_Has.eq hT (kt_o rfl))) ⟨by decide, by decide⟩ ?_
        refine e_Ok.ps1 (x := (0, w 18 y1)) (q := 26) 1 rfl ?_
        have h14 := (e_Has.get j4 (c := 12) (k := w 18 y1) (lo := (-2147483648)) (hi := 2147483647) rfl (by decide))
        refine e_Ok.ald (z := v1 12 (w 18 y1)) rfl (el_o rfl) rfl (by omega) rfl (e_bq h14 (by decide) (by decide)) ?_
        refine e_Ok.if1 rfl (fun h15 => ?_) (fun h15 => ?_)
        · replace h15 : (v1 12 (w 18 y1) : Int) ≠ 0 := h15
          refine e_Ok.ps1 (x := (1, 10)) (q := 45) 1 rfl ?_
          refine e_Ok.getr (z := 12) rfl (el_o rfl) rfl rfl ((j3 10 1 no_c3_12).trans (e_Has.eq hT (kt_o rfl))) ⟨by decide, by decide⟩ ?_
          refine e_Ok.ps2 (x := (0, z13)) (y := (0, w 18 y1)) (q := 50) 2 rfl ?_
          refine e_Ok.ast rfl (el_o rfl) rfl rfl (by omega) ?_
          generalize hw16 : e_up v1 12 (w 18 y1) z13 = w16
          have hT18 : e_Has kTy w16 := e_Has.upr j4 hw16 rfl (by omega)
          refine e_Ok.inc (z := y1 + 1) rfl rfl (by first | with_reducible rfl | omega) (by omega) ?_
          show e_Ok 20 elay kcode eI (d + 1) 116 (54, [(1, (0, y1 + 1)), (3, (0, z13)), (2, (0, w 18 y1)), (0, (1, 10))], [], w16) _
          refine e_Ok.ps0 (q := 2) 1 rfl ?_
          refine e_Ok.sub kAlk (e_sub_of rfl ?_) (ih2 (y1 + 1) w16 ⟨(show e_fr kSe w w16 from e_fr.up j3 hw16 (by first | exact Or.inl rfl | (unfold kSe; omega))), hT18, (fun V hV hT => pS.step hV hT j3 (by omega) (by omega) (j5 V hV hT) q12x (e_ue hw16) (fun p hp => by rw [← hw16]; exact e_up_ne _ _ (Or.inr hp))), by omega⟩ (by omega))
          exact ⟨rfl, rfl, trivial⟩
        · replace h15 : (v1 12 (w 18 y1) : Int) = 0 := Classical.not_not.mp (show ¬ ((v1 12 (w 18 y1) : Int) ≠ 0) from h15)
          refine e_Ok.ps1 (x := (0, z13)) (q := 31) 1 rfl ?_
          refine e_Ok.if1 rfl (fun h19 => ?_) (fun h19 => ?_)
          · replace h19 : (z13 : Int) = 0 := h19
            refine e_Ok.ps1 (x := (1, 10)) (q := 45) 1 rfl ?_
            refine e_Ok.getr (z := 12) rfl (el_o rfl) rfl rfl ((j3 10 1 no_c3_12).trans (e_Has.eq hT (kt_o rfl))) ⟨by decide, by decide⟩ ?_
            refine e_Ok.ps2 (x := (0, z13)) (y := (0, w 18 y1)) (q := 50) 2 rfl ?_
            refine e_Ok.ast rfl (el_o rfl) rfl rfl (by omega) ?_
            generalize hw20 : e_up v1 12 (w 18 y1) z13 = w20
            have hT22 : e_Has kTy w20 := e_Has.upr j4 hw20 rfl (by omega)
            refine e_Ok.inc (z := y1 + 1) rfl rfl (by first | with_reducible rfl | omega) (by omega) ?_
            show e_Ok 20 elay kcode eI (d + 1) 116 (54, [(1, (0, y1 + 1)), (3, (0, z13)), (2, (0, w 18 y1)), (0, (1, 10))], [], w20) _
            refine e_Ok.ps0 (q := 2) 1 rfl ?_
            refine e_Ok.sub kAlk (e_sub_of rfl ?_) (ih2 (y1 + 1) w20 ⟨(show e_fr kSe w w20 from e_fr.up j3 hw20 (by first | exact Or.inl rfl | (unfold kSe; omega))), hT22, (fun V hV hT => pS.step hV hT j3 (by omega) (by omega) (j5 V hV hT) q12x (e_ue hw20) (fun p hp => by rw [← hw20]; exact e_up_ne _ _ (Or.inr hp))), by omega⟩ (by omega))
            exact ⟨rfl, rfl, trivial⟩
          · replace h19 : (z13 : Int) ≠ 0 := (show ¬ ((z13 : Int) = 0) from h19)
            refine e_Ok.ps1 (x := (1, 10)) (q := 35) 1 rfl ?_
            refine e_Ok.getr (z := 13) rfl (el_o rfl) rfl rfl ((j3 10 2 no_c3_12).trans (e_Has.eq hT (kt_o rfl))) ⟨by decide, by decide⟩ ?_
            refine e_Ok.ps3 (x := (0, w 18 y1)) (y := (1, 13)) (z := (0, w 18 y1)) (q := 40) 2 rfl ?_
            have h23 := (e_Has.get j4 (c := 13) (k := w 18 y1) (lo := (-2147483648)) (hi := 2147483647) rfl (by decide))
            refine e_Ok.ald (z := v1 13 (w 18 y1)) rfl (el_o rfl) rfl (by omega) rfl (e_bq h23 (by decide) (by decide)) ?_
            refine e_Ok.ps1 (x := (0, 1)) (q := 42) 1 rfl ?_
            refine e_Ok.any rfl (eF_add_any _ _) (fun z24 z24a z24b => ?_)
            refine e_Ok.ast rfl (el_o rfl) rfl rfl (by omega) ?_
            generalize hw25 : e_up v1 13 (w 18 y1) z24 = w25
            have hT27 : e_Has kTy w25 := e_Has.upr j4 hw25 rfl (by omega)
            refine e_Ok.ps1 (x := (1, 10)) (q := 45) 1 rfl ?_
            refine e_Ok.getr (z := 12) rfl (el_o rfl) rfl rfl (e_uq hw25 (Or.inl (by decide)) ((j3 10 1 no_c3_12).trans (e_Has.eq hT (kt_o rfl)))) ⟨by decide, by decide⟩ ?_
            refine e_Ok.ps2 (x := (0, z13)) (y := (0, w 18 y1)) (q := 50) 2 rfl ?_
            refine e_Ok.ast rfl (el_o rfl) rfl rfl (by omega) ?_
            generalize hw28 : e_up w25 12 (w 18 y1) z13 = w28
            have hT30 : e_Has kTy w28 := e_Has.upr hT27 hw28 (kt_o rfl) (by omega)
            refine e_Ok.inc (z := y1 + 1) rfl rfl (by first | with_reducible rfl | omega) (by omega) ?_
            show e_Ok 20 elay kcode eI (d + 1) 116 (54, [(1, (0, y1 + 1)), (3, (0, z13)), (2, (0, w 18 y1)), (0, (1, 10))], [], w28) _
            refine e_Ok.ps0 (q := 2) 1 rfl ?_
            refine e_Ok.sub kAlk (e_sub_of rfl ?_) (ih2 (y1 + 1) w28 ⟨(show e_fr kSe w w28 from e_fr.up (show e_fr kSe w w25 from e_fr.up j3 hw25 (by first | exact Or.inr rfl | (unfold kSe; omega))) hw28 (by first | exact Or.inl rfl | (unfold kSe; omega))), hT30, (fun V hV hT => pS.step hV hT j3 (by omega) (by omega) (j5 V hV hT) q12x (e_ue hw28) (fun p hp => by rw [← hw28, e_up_ne _ _ (Or.inr hp), ← hw25]; exact e_up_ne _ _ (Or.inl (by decide)))), by omega⟩ (by omega))
            exact ⟨rfl, rfl, trivial⟩
  refine e_Ok.sub kAlk (e_sub_of rfl ?_) (hL1 (64 + 1 : Int).toNat 0 w ⟨(e_fr.refl w), hT, (fun V hV hT k g1 g2 => by omega), by omega⟩ (by omega))
  exact ⟨rfl, rfl, trivial⟩
theorem su_c3_16 {c k : Int} (q : kSe c k) : kPo c k := by
  unfold kSe at q
  rcases q with q | q
  · exact Or.inl ⟨(by omega), (by omega)⟩
  · exact Or.inl ⟨(by omega), (by omega)⟩
theorem c_113 {d : Nat} (hd : 22 ≤ d) {w : eW} (hT : e_Has kTy w) {p v : Int} (g_p : 0 ≤ p ∧ p ≤ 63) (g_v : (-2147483648) ≤ v ∧ v ≤ 2147483647) (hp : pF w) : e_Ok 20 elay kcode eI d 113 (0, [(0, (1, 10)), (1, (0, p)), (2, (0, v))], [], w) (fun r w' => ∃ z : Int, r = [(0, z)] ∧ e_fr kPo w w' ∧ e_Has kTy w' ∧ ((-2147483648) ≤ z ∧ z ≤ 2147483647) ∧ pF w') := by
  obtain ⟨d, rfl⟩ : ∃ e, d = e + 1 := ⟨d - 1, by omega⟩
  refine e_Ok.ps1 (x := (1, 10)) (q := 1) 1 rfl ?_
  refine e_Ok.getr (z := 11) rfl (el_o rfl) rfl rfl (e_Has.eq hT (kt_o rfl)) ⟨by decide, by decide⟩ ?_
  refine e_Ok.ps1 (x := (0, p)) (q := 5) 1 rfl ?_
  have h1 := (e_Has.get hT (c := 11) (k := p) (lo := (-2147483648)) (hi := 2147483647) (kt_o rfl) (by decide))
  refine e_Ok.ald (z := w 11 p) rfl (el_o rfl) rfl (by omega) rfl (e_bq h1 (by decide) (by decide)) ?_
  refine e_Ok.run (t' := (8, [(3, (0, w 11 p)), (0, (1, 10)), (1, (0, p)), (2, (0, v))], [(1, 10)], w)) 2 rfl ?_
  refine e_Ok.getr (z := 11) rfl (el_o rfl) rfl rfl (e_Has.eq hT (kt_o rfl)) ⟨by decide, by decide⟩ ?_
  refine e_Ok.ps2 (x := (0, v)) (y := (0, p)) (q := 13) 2 rfl ?_
  refine e_Ok.ast rfl (el_o rfl) rfl rfl (by omega) ?_
  generalize hw2 : e_up w 11 p v = w2
  have f3 : e_fr kPo w w2 := e_fr.up (e_fr.refl w) hw2 (by first | exact Or.inl ⟨(by decide), (by decide)⟩ | (unfold kPo; omega))
  have hT4 : e_Has kTy w2 := e_Has.upr hT hw2 (kt_o rfl) (by omega)
  refine e_Ok.ps2 (x := (0, p)) (y := (1, 10)) (q := 16) 2 rfl ?_
  refine e_Ok.callV rfl (e_dq hd rfl) rfl rfl rfl rfl (c_117 hT4 (by omega) (pF.up0 hp hw2 (by omega))) (fun r5 w6 h7 => ?_)
  obtain ⟨z9, rfl, rfl, q8r, q8x⟩ := h7
  refine e_Ok.nrm (q := 19) (st' := [(0, z9)]) rfl rfl ?_
  refine e_Ok.ps1 (x := (1, 10)) (q := 20) 1 rfl ?_
  refine e_Ok.getr (z := 12) rfl (el_o rfl) rfl rfl (e_uq hw2 (Or.inl (by decide)) (e_Has.eq hT (kt_o rfl))) ⟨by decide, by decide⟩ ?_
  refine e_Ok.ps1 (x := (0, p)) (q := 24) 1 rfl ?_
  have h10 := (e_Has.get hT (c := 12) (k := p) (lo := (-2147483648)) (hi := 2147483647) (kt_o rfl) (by decide))
  refine e_Ok.ald (z := w 12 p) rfl (el_o rfl) rfl (by omega) (e_uq hw2 (Or.inl (by decide)) rfl) (e_bq h10 (by decide) (by decide)) ?_
  refine e_Ok.if2 rfl (fun h11 => ?_) (fun h11 => ?_)
  · replace h11 : (z9 : Int) = w 12 p := h11
    refine e_Ok.ps1 (x := (0, w 11 p)) (q := 33) 1 rfl ?_
    refine e_Ok.rets rfl rfl ?_
    exact ⟨_, rfl, f3, hT4, ⟨by omega, by omega⟩, (pF.up0 hp hw2 (by omega))⟩
  · replace h11 : (z9 : Int) ≠ w 12 p := (show ¬ ((z9 : Int) = w 12 p) from h11)
    refine e_Ok.ps1 (x := (1, 10)) (q := 29) 1 rfl ?_
    refine e_Ok.callV rfl (e_dq hd rfl) rfl rfl rfl rfl (c_116 (e_dq hd rfl) hT4 (pF.up0 hp hw2 (by omega))) (fun r12 w13 h14 => ?_)
    obtain ⟨rfl, q15f, q15T, q15x⟩ := h14
    refine e_Ok.nrm (q := 32) (st' := []) rfl rfl ?_
    refine e_Ok.ps1 (x := (0, w 11 p)) (q := 33) 1 rfl ?_
    refine e_Ok.rets rfl rfl ?_
    exact ⟨_, rfl, (show e_fr kPo w w13 from e_fr.trans f3 (e_fr.mono q15f (fun c k q => su_c3_16 q))), q15T, ⟨by omega, by omega⟩, (pF.fr q15f (fun k => by unfold kSe; omega) (pF.up0 hp hw2 (by omega)))⟩
theorem c_114 {d : Nat} (hd : 22 ≤ d) {w : eW} (hT : e_Has kTy w) {p v o : Int} (g_p : 0 ≤ p ∧ p ≤ 63) (g_v : (-2147483648) ≤ v ∧ v ≤ 2147483647) (g_o : 0 ≤ o ∧ o ≤ 1) (hp : pF w) : e_Ok 20 elay kcode eI d 114 (0, [(0, (1, 10)), (1, (0, p)), (2, (0, v)), (3, (0, o))], [], w) (fun r w' => ∃ z : Int, r = [(0, z)] ∧ e_fr kPo w w' ∧ e_Has kTy w' ∧ (0 ≤ z ∧ z ≤ 1) ∧ pF w') := by
  obtain ⟨d, rfl⟩ : ∃ e, d = e + 1 := ⟨d - 1, by omega⟩
  refine e_Ok.ps1 (x := (1, 10)) (q := 1) 1 rfl ?_
  refine e_Ok.getr (z := 16) rfl (el_o rfl) rfl rfl (e_Has.eq hT (kt_o rfl)) ⟨by decide, by decide⟩ ?_
  refine e_Ok.ps1 (x := (0, p)) (q := 5) 1 rfl ?_
  have h1 := (e_Has.get hT (c := 16) (k := p) (lo := 0) (hi := 1) (kt_o rfl) (by decide))
  refine e_Ok.ald (z := w 16 p) rfl (el_o rfl) rfl (by omega) rfl (e_bq h1 (by decide) (by decide)) ?_
  have hJ4 : ∀ m3 : Int, 0 ≤ m3 ∧ m3 ≤ 1 → e_Ok 20 elay kcode eI (d + 1) 114 (14, [(0, (1, 10)), (1, (0, p)), (2, (0, v)), (3, (0, o))], [(0, m3)], w) (fun r w' => ∃ z : Int, r = [(0, z)] ∧ e_fr kPo w w' ∧ e_Has kTy w' ∧ (0 ≤ z ∧ z ≤ 1) ∧ pF w') := by
    intro m3 m3r
    refine e_Ok.run (t' := (17, [(4, (0, m3)), (0, (1, 10)), (1, (0, p)), (2, (0, v)), (3, (0, o))], [(1, 10)], w)) 2 rfl ?_
    refine e_Ok.getr (z := 16) rfl (el_o rfl) rfl rfl (e_Has.eq hT (kt_o rfl)) ⟨by decide, by decide⟩ ?_
    refine e_Ok.ps2 (x := (0, o)) (y := (0, p)) (q := 22) 2 rfl ?_
    refine e_Ok.ast rfl (el_o rfl) rfl (e_nar_b (by omega)) (by omega) ?_
    generalize hw5 : e_up w 16 p o = w5
    have hT7 : e_Has kTy w5 := e_Has.upr hT hw5 (kt_o rfl) (by omega)
    refine e_Ok.ps1 (x := (1, 10)) (q := 24) 1 rfl ?_
    refine e_Ok.getr (z := 14) rfl (el_o rfl) rfl rfl (e_uq hw5 (Or.inl (by decide)) (e_Has.eq hT (kt_o rfl))) ⟨by decide, by decide⟩ ?_
    refine e_Ok.ps2 (x := (0, v)) (y := (0, p)) (q := 29) 2 rfl ?_
    refine e_Ok.ast rfl (el_o rfl) rfl rfl (by omega) ?_
    generalize hw8 : e_up w5 14 p v = w8
    have f9 : e_fr kPo w w8 := e_fr.up (show e_fr kPo w w5 from e_fr.up (e_fr.refl w) hw5 (by first | exact Or.inr rfl | (unfold kPo; omega))) hw8 (by first | exact Or.inl ⟨(by decide), (by decide)⟩ | (unfold kPo; omega))
    have hT10 : e_Has kTy w8 := e_Has.ups hT7 hw8 (kt_o rfl)
    refine e_Ok.ps2 (x := (0, p)) (y := (1, 10)) (q := 32) 2 rfl ?_
    refine e_Ok.callV rfl (e_dq hd rfl) rfl rfl rfl rfl (c_117 hT10 (by omega) (pF.up2 hp hw5 hw8 (by unfold kn1; omega))) (fun r11 w12 h13 => ?_)
    obtain ⟨z15, rfl, rfl, q14r, q14x⟩ := h13
    refine e_Ok.nrm (q := 35) (st' := [(0, z15)]) rfl rfl ?_
    refine e_Ok.ps1 (x := (1, 10)) (q := 36) 1 rfl ?_
    refine e_Ok.getr (z := 12) rfl (el_o rfl) rfl rfl (e_uq hw8 (Or.inl (by decide)) (e_uq hw5 (Or.inl (by decide)) (e_Has.eq hT (kt_o rfl)))) ⟨by decide, by decide⟩ ?_
    refine e_Ok.ps1 (x := (0, p)) (q := 40) 1 rfl ?_
    have h16 := (e_Has.get hT (c := 12) (k := p) (lo := (-2147483648)) (hi := 2147483647) (kt_o rfl) (by decide))
    refine e_Ok.ald (z := w 12 p) rfl (el_o rfl) rfl (by omega) (e_uq hw8 (Or.inl (by decide)) (e_uq hw5 (Or.inl (by decide)) rfl)) (e_bq h16 (by decide) (by decide)) ?_
    refine e_Ok.if2 rfl (fun h17 => ?_) (fun h17 => ?_)
    · replace h17 : (z15 : Int) = w 12 p := h17
      refine e_Ok.ps1 (x := (0, m3)) (q := 50) 1 rfl ?_
      refine e_Ok.rets rfl rfl ?_
      exact ⟨_, rfl, f9, hT10, ⟨by omega, by omega⟩, (pF.up2 hp hw5 hw8 (by unfold kn1; omega))⟩
    · replace h17 : (z15 : Int) ≠ w 12 p := (show ¬ ((z15 : Int) = w 12 p) from h17)
      refine e_Ok.ps1 (x := (1, 10)) (q := 45) 1 rfl ?_
      refine e_Ok.callV rfl (e_dq hd rfl) rfl rfl rfl rfl (c_116 (e_dq hd rfl) hT10 (pF.up2 hp hw5 hw8 (by unfold kn1; omega))) (fun r18 w19 h20 => ?_)
      obtain ⟨rfl, q21f, q21T, q21x⟩ := h20
      refine e_Ok.nrm (q := 48) (st' := []) rfl rfl ?_
      refine e_Ok.ps1 (x := (0, m3)) (q := 50) 1 rfl ?_
      refine e_Ok.rets rfl rfl ?_
      exact ⟨_, rfl, (show e_fr kPo w w19 from e_fr.trans f9 (e_fr.mono q21f (fun c k q => su_c3_16 q))), q21T, ⟨by omega, by omega⟩, (pF.fr q21f (fun k => by unfold kSe; omega) (pF.up2 hp hw5 hw8 (by unfold kn1; omega)))⟩
  refine e_Ok.if1 rfl (fun h2 => ?_) (fun h2 => ?_)
  · exact e_Ok.run 1 rfl (hJ4 0 (by omega))
  · exact e_Ok.run 2 rfl (hJ4 1 (by omega))
end
end
-- part c4
section
noncomputable section
/-! the class: belts and parts -/
def kFl (c k : Int) : Prop := (31 ≤ c ∧ c ≤ 37) ∨ c = 39 ∨ c = 40
def kWy (c k : Int) : Prop := c = 37
/-- a belt's order; a part; the floor -/
def fO (w : eW) (b : Int) : Prop := (0 ≤ w 35 b ∧ w 35 b ≤ 32) ∧ ∀ i, 0 ≤ i → i < w 35 b → (0 ≤ w (b + 31) i ∧ w (b + 31) i < w 19 1) ∧ w 36 (w (b + 31) i) = b
def fP (w : eW) (p : Int) : Prop := (0 ≤ w 36 p ∧ w 36 p ≤ 8) ∧ (w 36 p < 4 → w 36 p < w 19 0 ∧ kn1 (w 37 p)) ∧ (w 36 p = 8 → kn1 (w 39 p) ∧ kn1 (w 40 p))
def fK (w : eW) : Prop := (∀ b, 0 ≤ b → b < w 19 0 → fO w b) ∧ ∀ p, 0 ≤ p → p < w 19 1 → fP w p
theorem fK.ord {w : eW} (h : fK w) {b i : Int} (hb : 0 ≤ b ∧ b < w 19 0) (hi : 0 ≤ i ∧ i < w 35 b) : (0 ≤ w (b + 31) i ∧ w (b + 31) i < w 19 1) ∧ w 36 (w (b + 31) i) = b := (h.1 b hb.1 hb.2).2 i hi.1 hi.2
theorem fK.way {w : eW} (h : fK w) (hB : w 19 0 ≤ 4) {b i : Int} (hb : 0 ≤ b ∧ b < w 19 0) (hi : 0 ≤ i ∧ i < w 35 b) : -2147483648 ≤ w 37 (w (b + 31) i) ∧ w 37 (w (b + 31) i) ≤ 2147483647 := by
  have q := h.ord hb hi
  exact ((h.2 _ q.1.1 q.1.2).2.1 (by omega)).2
theorem fK.fr {S : Int → Int → Prop} {w w' : eW} (f : e_fr S w w') (h1 : ∀ c k, 31 ≤ c → c ≤ 37 → ¬ S c k) (h2 : ∀ k, ¬ S 39 k ∧ ¬ S 40 k) (h3 : ¬ S 19 0 ∧ ¬ S 19 1) (hB : w 19 0 ≤ 4) (h : fK w) : fK w' := by
  have e35 : ∀ k, w' 35 k = w 35 k := fun k => f _ _ (h1 _ _ (by decide) (by decide))
  have e36 : ∀ k, w' 36 k = w 36 k := fun k => f _ _ (h1 _ _ (by decide) (by decide))
  have e37 : ∀ k, w' 37 k = w 37 k := fun k => f _ _ (h1 _ _ (by decide) (by decide))
  have e39 : ∀ k, w' 39 k = w 39 k := fun k => f _ _ (h2 k).1
  have e40 : ∀ k, w' 40 k = w 40 k := fun k => f _ _ (h2 k).2
  have e0 := f _ _ h3.1
  have e1 := f _ _ h3.2
  refine ⟨fun b g1 g2 => ?_, fun p g1 g2 => ?_⟩
  · rw [e0] at g2
    have q := h.1 b g1 g2
    have eo : ∀ k, w' (b + 31) k = w (b + 31) k := fun k => f _ _ (h1 _ _ (by omega) (by omega))
    unfold fO at q ⊢
    simp only [e35, e36, eo, e1]
    exact q
  · rw [e1] at g2
    have q := h.2 p g1 g2
    unfold fP at q ⊢
    simp only [e36, e37, e39, e40, e0]
    exact q
theorem fK.grip {w v w' : eW} {p a y : Int} (hf : fK w) (hB : w 19 0 ≤ 4) (hp : 0 ≤ p ∧ p < w 19 1) (hb : w 36 p < 4) (ha : 0 ≤ a ∧ a ≤ 3) (h1 : ∀ c k, c ≠ w 36 p + 31 → ¬ (c = 36 ∧ k = p) → v c k = w c k) (h2 : v 36 p = 4 + a)
    (h3 : ∀ j, 0 ≤ j → j < y → (0 ≤ v (w 36 p + 31) j ∧ v (w 36 p + 31) j < w 19 1) ∧ v (w 36 p + 31) j ≠ p ∧ w 36 (v (w 36 p + 31) j) = w 36 p) (hy : 0 ≤ y ∧ y ≤ w 35 (w 36 p)) (hw : e_up v 35 (w 36 p) y = w') : fK w' ∧ w' 36 p = 4 + a ∧ ∀ q, q ≠ p → w' 36 q = w 36 q := by
  have hP := hf.2 p hp.1 hp.2
  have hb0 : 0 ≤ w 36 p := hP.1.1
  have hbn : w 36 p < w 19 0 := (hP.2.1 hb).1
  have hO := hf.1 _ hb0 hbn
  have ev : ∀ c k, c ≠ 35 → w' c k = v c k := fun c k g => by rw [← hw]; exact e_up_ne _ _ (Or.inl g)
  have e : ∀ c k, c ≠ 35 → c ≠ w 36 p + 31 → ¬ (c = 36 ∧ k = p) → w' c k = w c k := fun c k g1 g2 g3 => (ev c k g1).trans (h1 c k g2 g3)
  have e35 : ∀ k, k ≠ w 36 p → w' 35 k = w 35 k := fun k g => by rw [← hw, e_up_ne _ _ (Or.inr g)]; exact h1 _ _ (by omega) (by omega)
  have e35b : w' 35 (w 36 p) = y := by rw [← hw]; exact e_up_eq _ _ _ _
  have ep : w' 36 p = 4 + a := (ev _ _ (by decide)).trans h2
  have eq : ∀ q, q ≠ p → w' 36 q = w 36 q := fun q g => e _ _ (by decide) (by omega) (by omega)
  have e0 : w' 19 0 = w 19 0 := e _ _ (by decide) (by omega) (by omega)
  have e1 : w' 19 1 = w 19 1 := e _ _ (by decide) (by omega) (by omega)
  refine ⟨⟨fun b g1 g2 => ?_, fun q g1 g2 => ?_⟩, ep, eq⟩
  · rw [e0] at g2
    by_cases hbb : b = w 36 p
    · rw [hbb]
      refine ⟨by rw [e35b]; have := hO.1; omega, fun i g3 g4 => ?_⟩
      rw [e35b] at g4
      have q := h3 i g3 g4
      rw [ev _ _ (by omega), e1, eq _ q.2.1]
      exact ⟨q.1, q.2.2⟩
    · have hOb := hf.1 b g1 g2
      have eo : ∀ k, w' (b + 31) k = w (b + 31) k := fun k => e _ _ (by omega) (by omega) (by omega)
      refine ⟨by rw [e35 b hbb]; exact hOb.1, fun i g3 g4 => ?_⟩
      rw [e35 b hbb] at g4
      have q := hOb.2 i g3 g4
      rw [eo, e1]
      have hne : w (b + 31) i ≠ p := fun g => by rw [g] at q; exact hbb q.2.symm
      rw [eq _ hne]
      exact q
  · rw [e1] at g2
    have hq := hf.2 q g1 g2
    unfold fP at hq ⊢
    rw [e 37 q (by decide) (by omega) (by omega), e 39 q (by decide) (by omega) (by omega), e 40 q (by decide) (by omega) (by omega), e0]
    by_cases g : q = p
    · rw [g, ep]
      exact ⟨by omega, fun g => by omega, fun g => by omega⟩
    · rw [eq q g]
      exact hq
theorem fK.grip8 {w w' : eW} {p a z : Int} (hf : fK w) (hB : w 19 0 ≤ 4) (hp : 0 ≤ p ∧ p < w 19 1) (hb : 4 ≤ w 36 p) (ha : 0 ≤ a ∧ a ≤ 3) (hz : z = 4 + a) (hw : e_up w 36 p z = w') : fK w' ∧ w' 36 p = 4 + a ∧ ∀ q, q ≠ p → w' 36 q = w 36 q := by
  have e : ∀ c k, ¬ (c = 36 ∧ k = p) → w' c k = w c k := fun c k g => by
    rw [← hw]
    refine e_up_ne _ _ ?_
    by_cases q : c = 36
    · exact Or.inr (fun q2 => g ⟨q, q2⟩)
    · exact Or.inl q
  have ep : w' 36 p = 4 + a := by rw [← hw, e_up_eq, hz]
  have eq : ∀ q, q ≠ p → w' 36 q = w 36 q := fun q g => e _ _ (by omega)
  refine ⟨⟨fun b g1 g2 => ?_, fun q g1 g2 => ?_⟩, ep, eq⟩
  · rw [e 19 0 (by omega)] at g2
    have hOb := hf.1 b g1 g2
    have eo : ∀ k, w' (b + 31) k = w (b + 31) k := fun k => e _ _ (by omega)
    refine ⟨by rw [e 35 b (by omega)]; exact hOb.1, fun i g3 g4 => ?_⟩
    rw [e 35 b (by omega)] at g4
    have q := hOb.2 i g3 g4
    rw [eo, e 19 1 (by omega)]
    have hne : w (b + 31) i ≠ p := fun g => by rw [g] at q; omega
    rw [eq _ hne]
    exact q
  · rw [e 19 1 (by omega)] at g2
    have hq := hf.2 q g1 g2
    unfold fP at hq ⊢
    rw [e 37 q (by omega), e 39 q (by omega), e 40 q (by omega), e 19 0 (by omega)]
    by_cases g : q = p
    · rw [g, ep]
      exact ⟨by omega, fun g => by omega, fun g => by omega⟩
    · rw [eq q g]
      exact hq
/-- a part comes to a belt -/
def cmT (w w' : eW) (b p s : Int) : Prop := (32 ≤ w 35 b ∧ w' = w) ∨ (w 35 b < 32 ∧ (w' 35 b = w 35 b + 1 ∧ w' 36 p = b ∧ w' 37 p = s) ∧ (∀ c k, c ≠ b + 31 → ¬ (c = 35 ∧ k = b) → ¬ (c = 36 ∧ k = p) → ¬ (c = 37 ∧ k = p) → w' c k = w c k) ∧ ∀ j, 0 ≤ j → j ≤ w 35 b → w' (b + 31) j = p ∨ ∃ i, (0 ≤ i ∧ i < w 35 b) ∧ w' (b + 31) j = w (b + 31) i)
theorem cmT.mk {w v w1 w2 w3 w' : eW} {b p s y n : Int} (hb : 0 ≤ b ∧ b ≤ 3) (h0 : w 35 b < 32) (hy : 0 ≤ y ∧ y ≤ w 35 b) (hv : ∀ c k, c ≠ b + 31 → v c k = w c k) (hl : ∀ j, 0 ≤ j → j < y → v (b + 31) j = w (b + 31) j) (hu : ∀ j, y < j → j ≤ w 35 b → v (b + 31) j = w (b + 31) (j - 1))
    (hn : n = w 35 b + 1) (h1 : e_up v (b + 31) y p = w1) (h2 : e_up w1 35 b n = w2) (h3 : e_up w2 36 p b = w3) (h4 : e_up w3 37 p s = w') : cmT w w' b p s := by
  have e4 : ∀ c k, ¬ (c = 37 ∧ k = p) → w' c k = w3 c k := fun c k g => by
    rw [← h4]; refine e_up_ne _ _ ?_
    by_cases q : c = 37
    · exact Or.inr (fun q2 => g ⟨q, q2⟩)
    · exact Or.inl q
  have e3 : ∀ c k, ¬ (c = 36 ∧ k = p) → w3 c k = w2 c k := fun c k g => by
    rw [← h3]; refine e_up_ne _ _ ?_
    by_cases q : c = 36
    · exact Or.inr (fun q2 => g ⟨q, q2⟩)
    · exact Or.inl q
  have e2 : ∀ c k, ¬ (c = 35 ∧ k = b) → w2 c k = w1 c k := fun c k g => by
    rw [← h2]; refine e_up_ne _ _ ?_
    by_cases q : c = 35
    · exact Or.inr (fun q2 => g ⟨q, q2⟩)
    · exact Or.inl q
  have e1 : ∀ c k, c ≠ b + 31 → w1 c k = v c k := fun c k g => by rw [← h1]; exact e_up_ne _ _ (Or.inl g)
  refine Or.inr ⟨h0, ⟨?_, ?_, ?_⟩, fun c k g1 g2 g3 g4 => ?_, fun j g1 g2 => ?_⟩
  · rw [e4 _ _ (by omega), e3 _ _ (by omega), ← h2, e_up_eq, hn]
  · rw [e4 _ _ (by omega), ← h3, e_up_eq]
  · rw [← h4, e_up_eq]
  · rw [e4 _ _ g4, e3 _ _ g3, e2 _ _ g2, e1 _ _ g1, hv _ _ g1]
  · rw [e4 _ _ (by omega), e3 _ _ (by omega), e2 _ _ (by omega)]
    by_cases q : j = y
    · rw [q, ← h1, e_up_eq]; exact Or.inl rfl
    · rw [← h1, e_up_ne _ _ (Or.inr q)]
      by_cases q2 : j < y
      · exact Or.inr ⟨j, by omega, hl j g1 q2⟩
      · exact Or.inr ⟨j - 1, by omega, hu j (by omega) g2⟩
theorem fK.come {w w' : eW} {b p s : Int} (hf : fK w) (hB : w 19 0 ≤ 4) (hb : 0 ≤ b ∧ b < w 19 0) (hp : 0 ≤ p ∧ p < w 19 1) (hs : kn1 s) (hn : ∀ b i, 0 ≤ b → b < w 19 0 → 0 ≤ i → i < w 35 b → w (b + 31) i ≠ p) (h : cmT w w' b p s) : fK w' ∧ ∀ q, q ≠ p → w' 36 q = w 36 q := by
  rcases h with ⟨-, rfl⟩ | ⟨h0, ⟨h35, h36, h37⟩, he, ho⟩
  · exact ⟨hf, fun _ _ => rfl⟩
  have e0 : w' 19 0 = w 19 0 := he _ _ (by omega) (by omega) (by omega) (by omega)
  have e1 : w' 19 1 = w 19 1 := he _ _ (by omega) (by omega) (by omega) (by omega)
  have eq : ∀ q, q ≠ p → w' 36 q = w 36 q := fun q g => he _ _ (by omega) (by omega) (by omega) (by omega)
  have hOb := hf.1 b hb.1 hb.2
  refine ⟨⟨fun b' g1 g2 => ?_, fun q g1 g2 => ?_⟩, eq⟩
  · rw [e0] at g2
    by_cases g : b' = b
    · rw [g]
      refine ⟨by rw [h35]; have := hOb.1; omega, fun i g3 g4 => ?_⟩
      rw [h35] at g4
      rcases ho i g3 (by omega) with q | ⟨j, hj, q⟩
      · rw [q, e1, h36]
        exact ⟨hp, rfl⟩
      · have q2 := hOb.2 j hj.1 hj.2
        rw [q, e1, eq _ (hn b j hb.1 hb.2 hj.1 hj.2)]
        exact q2
    · have hO := hf.1 b' g1 g2
      have eo : ∀ k, w' (b' + 31) k = w (b' + 31) k := fun k => he _ _ (by omega) (by omega) (by omega) (by omega)
      have e35 : w' 35 b' = w 35 b' := he _ _ (by omega) (by omega) (by omega) (by omega)
      refine ⟨by rw [e35]; exact hO.1, fun i g3 g4 => ?_⟩
      rw [e35] at g4
      rw [eo, e1, eq _ (hn b' i g1 g2 g3 g4)]
      exact hO.2 i g3 g4
  · rw [e1] at g2
    by_cases g : q = p
    · rw [g]
      unfold fP
      rw [h36, h37, e0]
      exact ⟨by omega, fun _ => ⟨hb.2, hs⟩, fun g => by omega⟩
    · have hq := hf.2 q g1 g2
      unfold fP at hq ⊢
      rw [eq q g, he 37 q (by omega) (by omega) (by omega) (by omega), he 39 q (by omega) (by omega) (by omega) (by omega), he 40 q (by omega) (by omega) (by omega) (by omega), e0]
      exact hq
theorem fK.lie {w w1 w2 w' : eW} {p x y : Int} (hf : fK w) (hB : w 19 0 ≤ 4) (hx : kn1 x) (hy : kn1 y) (hn : ∀ b i, 0 ≤ b → b < w 19 0 → 0 ≤ i → i < w 35 b → w (b + 31) i ≠ p) (h1 : e_up w 36 p 8 = w1) (h2 : e_up w1 39 p x = w2) (h3 : e_up w2 40 p y = w') : fK w' ∧ ∀ q, q ≠ p → w' 36 q = w 36 q := by
  have e : ∀ c k, k ≠ p ∨ (c ≠ 36 ∧ c ≠ 39 ∧ c ≠ 40) → w' c k = w c k := fun c k g => by
    rw [← h3, e_up_ne _ _ (by omega), ← h2, e_up_ne _ _ (by omega), ← h1]; exact e_up_ne _ _ (by omega)
  have e36 : w' 36 p = 8 := by rw [← h3, e_up_ne _ _ (by omega), ← h2, e_up_ne _ _ (by omega), ← h1]; exact e_up_eq _ _ _ _
  have e39 : w' 39 p = x := by rw [← h3, e_up_ne _ _ (by omega), ← h2]; exact e_up_eq _ _ _ _
  have e40 : w' 40 p = y := by rw [← h3]; exact e_up_eq _ _ _ _
  have e0 : w' 19 0 = w 19 0 := e _ _ (by omega)
  have e1 : w' 19 1 = w 19 1 := e _ _ (by omega)
  have eq : ∀ q, q ≠ p → w' 36 q = w 36 q := fun q g => e _ _ (Or.inl g)
  refine ⟨⟨fun b g1 g2 => ?_, fun q g1 g2 => ?_⟩, eq⟩
  · rw [e0] at g2
    have hO := hf.1 b g1 g2
    have eo : ∀ k, w' (b + 31) k = w (b + 31) k := fun k => e _ _ (by omega)
    have e35 : w' 35 b = w 35 b := e _ _ (by omega)
    refine ⟨by rw [e35]; exact hO.1, fun i g3 g4 => ?_⟩
    rw [e35] at g4
    rw [eo, e1, eq _ (hn b i g1 g2 g3 g4)]
    exact hO.2 i g3 g4
  · rw [e1] at g2
    by_cases g : q = p
    · rw [g]
      unfold fP
      rw [e36, e39, e40]
      exact ⟨by omega, fun g => by omega, fun _ => ⟨hx, hy⟩⟩
    · have hq := hf.2 q g1 g2
      unfold fP at hq ⊢
      rw [eq q g, e 37 q (Or.inl g), e 39 q (Or.inl g), e 40 q (Or.inl g), e0]
      exact hq
theorem c_81 {d : Nat} {w : eW} (hT : e_Has kTy w) {p : Int} (g_p : 0 ≤ p ∧ p ≤ 31) (hf : fK w) (hq : p < w 19 1) (hh : w 36 p < 4 ∨ w 36 p = 8) : e_Ok 20 elay kcode eI d 81 (0, [(0, (1, 19)), (1, (0, p))], [], w) (fun r w' => ∃ z : Int, r = [(0, z)] ∧ w = w' ∧ ((-2147483648) ≤ z ∧ z ≤ 2147483647)) := by
  have hB0 := e_Has.get hT (c := 19) (k := 0) (lo := 0) (hi := 4) (kt_o rfl) (by decide)
  have hP := hf.2 p (by omega) hq
  unfold fP kn1 at hP
  refine e_Ok.ps1 (x := (1, 19)) (q := 1) 1 rfl ?_
  refine e_Ok.getr (z := 36) rfl (el_o rfl) rfl rfl (e_Has.eq hT (kt_o rfl)) ⟨by decide, by decide⟩ ?_
  refine e_Ok.ps1 (x := (0, p)) (q := 5) 1 rfl ?_
  refine e_Ok.ald (z := w 36 p) rfl (el_o rfl) rfl (by omega) rfl (by omega) ?_
  refine e_Ok.run (t' := (9, [(2, (0, w 36 p)), (0, (1, 19)), (1, (0, p))], [(0, 4), (0, w 36 p)], w)) 3 rfl ?_
  refine e_Ok.if2 rfl (fun h1 => ?_) (fun h1 => ?_)
  · replace h1 : (w 36 p : Int) ≥ 4 := h1
    refine e_Ok.ps1 (x := (1, 19)) (q := 36) 1 rfl ?_
    refine e_Ok.getr (z := 39) rfl (el_o rfl) rfl rfl (e_Has.eq hT (kt_o rfl)) ⟨by decide, by decide⟩ ?_
    refine e_Ok.ps1 (x := (0, p)) (q := 40) 1 rfl ?_
    refine e_Ok.ald (z := w 39 p) rfl (el_o rfl) rfl (by omega) rfl (by omega) ?_
    refine e_Ok.rets rfl rfl ?_
    exact ⟨_, rfl, rfl, ⟨by omega, by omega⟩⟩
  · replace h1 : (w 36 p : Int) < 4 := Int.not_le.mp (show ¬ ((w 36 p : Int) ≥ 4) from h1)
    refine e_Ok.ps1 (x := (1, 19)) (q := 13) 1 rfl ?_
    refine e_Ok.getr (z := 25) rfl (el_o rfl) rfl rfl (e_Has.eq hT (kt_o rfl)) ⟨by decide, by decide⟩ ?_
    refine e_Ok.ps1 (x := (0, w 36 p)) (q := 17) 1 rfl ?_
    have h2 := (e_Has.get hT (c := 25) (k := w 36 p) (lo := (-2147483648)) (hi := 2147483647) (kt_o rfl) (by decide))
    refine e_Ok.ald (z := w 25 (w 36 p)) rfl (el_o rfl) rfl (by omega) rfl (e_bq h2 (by decide) (by decide)) ?_
    refine e_Ok.ps1 (x := (1, 19)) (q := 19) 1 rfl ?_
    refine e_Ok.getr (z := 37) rfl (el_o rfl) rfl rfl (e_Has.eq hT (kt_o rfl)) ⟨by decide, by decide⟩ ?_
    refine e_Ok.ps1 (x := (0, p)) (q := 23) 1 rfl ?_
    refine e_Ok.ald (z := w 37 p) rfl (el_o rfl) rfl (by omega) rfl (by omega) ?_
    refine e_Ok.ps1 (x := (1, 19)) (q := 25) 1 rfl ?_
    refine e_Ok.getr (z := 27) rfl (el_o rfl) rfl rfl (e_Has.eq hT (kt_o rfl)) ⟨by decide, by decide⟩ ?_
    refine e_Ok.ps1 (x := (0, w 36 p)) (q := 29) 1 rfl ?_
    have h3 := (e_Has.get hT (c := 27) (k := w 36 p) (lo := (-2147483648)) (hi := 2147483647) (kt_o rfl) (by decide))
    refine e_Ok.ald (z := w 27 (w 36 p)) rfl (el_o rfl) rfl (by omega) rfl (e_bq h3 (by decide) (by decide)) ?_
    refine e_Ok.any rfl (eF_mul_any _ _) (fun z4 z4a z4b => ?_)
    refine e_Ok.any rfl (eF_add_any _ _) (fun z5 z5a z5b => ?_)
    refine e_Ok.ps0 (q := 41) 1 rfl ?_
    refine e_Ok.rets rfl rfl ?_
    exact ⟨_, rfl, rfl, ⟨by omega, by omega⟩⟩
theorem c_82 {d : Nat} {w : eW} (hT : e_Has kTy w) {p : Int} (g_p : 0 ≤ p ∧ p ≤ 31) (hf : fK w) (hq : p < w 19 1) (hh : w 36 p < 4 ∨ w 36 p = 8) : e_Ok 20 elay kcode eI d 82 (0, [(0, (1, 19)), (1, (0, p))], [], w) (fun r w' => ∃ z : Int, r = [(0, z)] ∧ w = w' ∧ ((-2147483648) ≤ z ∧ z ≤ 2147483647)) := by
  have hB0 := e_Has.get hT (c := 19) (k := 0) (lo := 0) (hi := 4) (kt_o rfl) (by decide)
  have hP := hf.2 p (by omega) hq
  unfold fP kn1 at hP
  refine e_Ok.ps1 (x := (1, 19)) (q := 1) 1 rfl ?_
  refine e_Ok.getr (z := 36) rfl (el_o rfl) rfl rfl (e_Has.eq hT (kt_o rfl)) ⟨by decide, by decide⟩ ?_
  refine e_Ok.ps1 (x := (0, p)) (q := 5) 1 rfl ?_
  refine e_Ok.ald (z := w 36 p) rfl (el_o rfl) rfl (by omega) rfl (by omega) ?_
  refine e_Ok.run (t' := (9, [(2, (0, w 36 p)), (0, (1, 19)), (1, (0, p))], [(0, 4), (0, w 36 p)], w)) 3 rfl ?_
  refine e_Ok.if2 rfl (fun h1 => ?_) (fun h1 => ?_)
  · replace h1 : (w 36 p : Int) ≥ 4 := h1
    refine e_Ok.ps1 (x := (1, 19)) (q := 36) 1 rfl ?_
    refine e_Ok.getr (z := 40) rfl (el_o rfl) rfl rfl (e_Has.eq hT (kt_o rfl)) ⟨by decide, by decide⟩ ?_
    refine e_Ok.ps1 (x := (0, p)) (q := 40) 1 rfl ?_
    refine e_Ok.ald (z := w 40 p) rfl (el_o rfl) rfl (by omega) rfl (by omega) ?_
    refine e_Ok.rets rfl rfl ?_
    exact ⟨_, rfl, rfl, ⟨by omega, by omega⟩⟩
  · replace h1 : (w 36 p : Int) < 4 := Int.not_le.mp (show ¬ ((w 36 p : Int) ≥ 4) from h1)
    refine e_Ok.ps1 (x := (1, 19)) (q := 13) 1 rfl ?_
    refine e_Ok.getr (z := 26) rfl (el_o rfl) rfl rfl (e_Has.eq hT (kt_o rfl)) ⟨by decide, by decide⟩ ?_
    refine e_Ok.ps1 (x := (0, w 36 p)) (q := 17) 1 rfl ?_
    have h2 := (e_Has.get hT (c := 26) (k := w 36 p) (lo := (-2147483648)) (hi := 2147483647) (kt_o rfl) (by decide))
    refine e_Ok.ald (z := w 26 (w 36 p)) rfl (el_o rfl) rfl (by omega) rfl (e_bq h2 (by decide) (by decide)) ?_
    refine e_Ok.ps1 (x := (1, 19)) (q := 19) 1 rfl ?_
    refine e_Ok.getr (z := 37) rfl (el_o rfl) rfl rfl (e_Has.eq hT (kt_o rfl)) ⟨by decide, by decide⟩ ?_
    refine e_Ok.ps1 (x := (0, p)) (q := 23) 1 rfl ?_
    refine e_Ok.ald (z := w 37 p) rfl (el_o rfl) rfl (by omega) rfl (by omega) ?_
    refine e_Ok.ps1 (x := (1, 19)) (q := 25) 1 rfl ?_
    refine e_Ok.getr (z := 28) rfl (el_o rfl) rfl rfl (e_Has.eq hT (kt_o rfl)) ⟨by decide, by decide⟩ ?_
    refine e_Ok.ps1 (x := (0, w 36 p)) (q := 29) 1 rfl ?_
    have h3 := (e_Has.get hT (c := 28) (k := w 36 p) (lo := (-2147483648)) (hi := 2147483647) (kt_o rfl) (by decide))
    refine e_Ok.ald (z := w 28 (w 36 p)) rfl (el_o rfl) rfl (by omega) rfl (e_bq h3 (by decide) (by decide)) ?_
    refine e_Ok.any rfl (eF_mul_any _ _) (fun z4 z4a z4b => ?_)
    refine e_Ok.any rfl (eF_add_any _ _) (fun z5 z5a z5b => ?_)
    refine e_Ok.ps0 (q := 41) 1 rfl ?_
    refine e_Ok.rets rfl rfl ?_
    exact ⟨_, rfl, rfl, ⟨by omega, by omega⟩⟩
theorem c_83 {d : Nat} (hd : 21 ≤ d) {w : eW} (hT : e_Has kTy w) {x y rr : Int} (g_x : (-2147483648) ≤ x ∧ x ≤ 2147483647) (g_y : (-2147483648) ≤ y ∧ y ≤ 2147483647) (g_rr : (-2147483648) ≤ rr ∧ rr ≤ 2147483647) (hf : fK w) : e_Ok 20 elay kcode eI d 83 (0, [(0, (1, 19)), (1, (0, x)), (2, (0, y)), (3, (0, rr))], [], w) (fun r w' => ∃ z : Int, r = [(0, z)] ∧ w = w' ∧ ((-1) ≤ z ∧ z ≤ 31) ∧ z < w 19 1 ∧ (0 ≤ z → w 36 z < 4 ∨ w 36 z = 8)) := by
  obtain ⟨d, rfl⟩ : ∃ e, d = e + 1 := ⟨d - 1, by omega⟩
  have hB0 := e_Has.get hT (c := 19) (k := 0) (lo := 0) (hi := 4) (kt_o rfl) (by decide)
  have hM0 := e_Has.get hT (c := 19) (k := 1) (lo := 0) (hi := 32) (kt_o rfl) (by decide)
  refine e_Ok.run (t' := (7, [(4, (0, (-1))), (0, (1, 19)), (1, (0, x)), (2, (0, y)), (3, (0, rr))], [(4, rr), (4, rr)], w)) 6 rfl ?_
  refine e_Ok.anyL rfl ⟨_, rfl⟩ (fun x1 => ?_)
  refine e_Ok.run (t' := (13, [(7, (0, 0)), (5, (4, x1)), (4, (0, (-1))), (0, (1, 19)), (1, (0, x)), (2, (0, y)), (3, (0, rr))], [], w)) 3 rfl ?_
  have hL2 : ∀ (nn : Nat) (y4 : Int) (y5 : Int) (y7 : Int), ((-1 ≤ y4 ∧ y4 < w 19 1)) ∧ (0 ≤ y4 → w 36 y4 < 4 ∨ w 36 y4 = 8) ∧ (0 ≤ y7 ∧ y7 ≤ 32) → 32 - y7 < nn → e_Ok 20 elay kcode eI (d + 1) 83 (13, [(0, (1, 19)), (1, (0, x)), (2, (0, y)), (4, (0, y4)), (5, (4, y5)), (7, (0, y7))], [], w) (fun r w' => ∃ z : Int, r = [(0, z)] ∧ w = w' ∧ ((-1) ≤ z ∧ z ≤ 31) ∧ z < w 19 1 ∧ (0 ≤ z → w 36 z < 4 ∨ w 36 z = 8)) := by
    intro nn
    induction nn with
    | zero => intro y4 y5 y7 hj hm; obtain ⟨j4, j5, j6⟩ := hj; exfalso; omega
    | succ nn ih3 =>
      intro y4 y5 y7 hj hm
      obtain ⟨j4, j5, j6⟩ := hj
      refine e_Ok.run (t' := (16, [(0, (1, 19)), (1, (0, x)), (2, (0, y)), (4, (0, y4)), (5, (4, y5)), (7, (0, y7))], [(1, 19), (0, y7)], w)) 2 rfl ?_
      have h7 := (e_Has.get hT (c := 19) (k := 1) (lo := 0) (hi := 32) (kt_o rfl) (by decide))
      refine e_Ok.getf (z := w 19 1) rfl (el_o rfl) rfl rfl rfl (e_bq h7 (by decide) (by decide)) ?_
      refine e_Ok.if2 rfl (fun h8 => ?_) (fun h8 => ?_)
      · replace h8 : (y7 : Int) ≥ w 19 1 := h8
        refine e_Ok.ps1 (x := (0, y4)) (q := 106) 1 rfl ?_
        refine e_Ok.rets rfl rfl ?_
        exact ⟨_, rfl, rfl, ⟨by omega, by omega⟩, by omega, by omega⟩
      · replace h8 : (y7 : Int) < w 19 1 := Int.not_le.mp (show ¬ ((y7 : Int) ≥ w 19 1) from h8)
        have hP := hf.2 y7 (by omega) (by omega)
        unfold fP kn1 at hP; replace hP := hP.1
        refine e_Ok.ps1 (x := (1, 19)) (q := 23) 1 rfl ?_
        refine e_Ok.getr (z := 36) rfl (el_o rfl) rfl rfl (e_Has.eq hT (kt_o rfl)) ⟨by decide, by decide⟩ ?_
        refine e_Ok.ps1 (x := (0, y7)) (q := 28) 1 rfl ?_
        refine e_Ok.ald (z := w 36 y7) rfl (el_o rfl) rfl (by omega) rfl (by omega) ?_
        refine e_Ok.ps1 (x := (0, 4)) (q := 30) 1 rfl ?_
        refine e_Ok.if2 rfl (fun h9 => ?_) (fun h9 => ?_)
        · replace h9 : (w 36 y7 : Int) < 4 := h9
          refine e_Ok.ps2 (x := (0, y7)) (y := (1, 19)) (q := 51) 2 rfl ?_
          refine e_Ok.callV rfl (e_dq hd rfl) rfl rfl rfl rfl (c_81 hT (by omega) hf (by omega) (by omega)) (fun r10 w11 h12 => ?_)
          obtain ⟨z14, rfl, rfl, q13r⟩ := h12
          refine e_Ok.nrm (q := 54) (st' := [(0, z14)]) rfl rfl ?_
          refine e_Ok.ps1 (x := (0, x)) (q := 55) 1 rfl ?_
          refine e_Ok.any rfl (eF_sub_any _ _) (fun z15 z15a z15b => ?_)
          refine e_Ok.ps2 (x := (0, y7)) (y := (1, 19)) (q := 59) 2 rfl ?_
          refine e_Ok.callV rfl (e_dq hd rfl) rfl rfl rfl rfl (c_82 hT (by omega) hf (by omega) (by omega)) (fun r16 w17 h18 => ?_)
          obtain ⟨z20, rfl, rfl, q19r⟩ := h18
          refine e_Ok.nrm (q := 62) (st' := [(0, z20), (0, z15)]) rfl rfl ?_
          refine e_Ok.ps1 (x := (0, y)) (q := 63) 1 rfl ?_
          refine e_Ok.any rfl (eF_sub_any _ _) (fun z21 z21a z21b => ?_)
          refine e_Ok.callS rfl (e_dq hd rfl) rfl rfl (c_178 (by omega) (by omega)) (fun r22 w23 h24 => ?_)
          obtain ⟨x25, rfl, rfl⟩ := h24
          refine e_Ok.nrm (q := 67) (st' := [(4, x25)]) rfl rfl ?_
          refine e_Ok.run (t' := (73, [(8, (4, x25)), (0, (1, 19)), (1, (0, x)), (2, (0, y)), (4, (0, y4)), (5, (4, y5)), (7, (0, y7))], [(4, y5), (4, x25)], w)) 3 rfl ?_
          refine e_Ok.lcmp rfl (fun z26 z26a z26b z26c => ?_)
          refine e_Ok.if1 rfl (fun h27 => ?_) (fun h27 => ?_)
          · replace h27 : (z26 : Int) < 0 := h27
            refine e_Ok.run (t' := (98, [(5, (4, x25)), (4, (0, y7)), (8, (4, x25)), (0, (1, 19)), (1, (0, x)), (2, (0, y)), (7, (0, y7))], [], w)) 4 rfl ?_
            refine e_Ok.inc (z := y7 + 1) rfl rfl (by first | with_reducible rfl | omega) (by omega) ?_
            show e_Ok 20 elay kcode eI (d + 1) 83 (101, [(7, (0, y7 + 1)), (5, (4, x25)), (4, (0, y7)), (8, (4, x25)), (0, (1, 19)), (1, (0, x)), (2, (0, y))], [], w) _
            refine e_Ok.ps0 (q := 13) 1 rfl ?_
            refine e_Ok.sub kAlk (e_sub_of rfl ?_) (ih3 y7 x25 (y7 + 1) ⟨by omega, by omega, by omega⟩ (by omega))
            exact ⟨rfl, rfl, rfl, rfl, rfl, rfl, trivial⟩
          · replace h27 : (z26 : Int) ≥ 0 := Int.not_lt.mp (show ¬ ((z26 : Int) < 0) from h27)
            refine e_Ok.ps2 (x := (4, y5)) (y := (4, x25)) (q := 81) 2 rfl ?_
            refine e_Ok.lcmp rfl (fun z28 z28a z28b z28c => ?_)
            refine e_Ok.if1 rfl (fun h29 => ?_) (fun h29 => ?_)
            · replace h29 : (z28 : Int) ≠ 0 := h29
              refine e_Ok.inc (z := y7 + 1) rfl rfl (by first | with_reducible rfl | omega) (by omega) ?_
              show e_Ok 20 elay kcode eI (d + 1) 83 (101, [(7, (0, y7 + 1)), (8, (4, x25)), (0, (1, 19)), (1, (0, x)), (2, (0, y)), (4, (0, y4)), (5, (4, y5))], [], w) _
              refine e_Ok.ps0 (q := 13) 1 rfl ?_
              refine e_Ok.sub kAlk (e_sub_of rfl ?_) (ih3 y4 y5 (y7 + 1) ⟨by omega, by omega, by omega⟩ (by omega))
              exact ⟨rfl, rfl, rfl, rfl, rfl, rfl, trivial⟩
            · replace h29 : (z28 : Int) = 0 := Classical.not_not.mp (show ¬ ((z28 : Int) ≠ 0) from h29)
              refine e_Ok.ps1 (x := (0, y4)) (q := 87) 1 rfl ?_
              refine e_Ok.if1 rfl (fun h30 => ?_) (fun h30 => ?_)
              · replace h30 : (y4 : Int) ≥ 0 := h30
                refine e_Ok.inc (z := y7 + 1) rfl rfl (by first | with_reducible rfl | omega) (by omega) ?_
                show e_Ok 20 elay kcode eI (d + 1) 83 (101, [(7, (0, y7 + 1)), (8, (4, x25)), (0, (1, 19)), (1, (0, x)), (2, (0, y)), (4, (0, y4)), (5, (4, y5))], [], w) _
                refine e_Ok.ps0 (q := 13) 1 rfl ?_
                refine e_Ok.sub kAlk (e_sub_of rfl ?_) (ih3 y4 y5 (y7 + 1) ⟨by omega, by omega, by omega⟩ (by omega))
                exact ⟨rfl, rfl, rfl, rfl, rfl, rfl, trivial⟩
              · replace h30 : (y4 : Int) < 0 := Int.not_le.mp (show ¬ ((y4 : Int) ≥ 0) from h30)
                refine e_Ok.run (t' := (98, [(5, (4, x25)), (4, (0, y7)), (8, (4, x25)), (0, (1, 19)), (1, (0, x)), (2, (0, y)), (7, (0, y7))], [], w)) 4 rfl ?_
                refine e_Ok.inc (z := y7 + 1) rfl rfl (by first | with_reducible rfl | omega) (by omega) ?_
                show e_Ok 20 elay kcode eI (d + 1) 83 (101, [(7, (0, y7 + 1)), (5, (4, x25)), (4, (0, y7)), (8, (4, x25)), (0, (1, 19)), (1, (0, x)), (2, (0, y))], [], w) _
                refine e_Ok.ps0 (q := 13) 1 rfl ?_
                refine e_Ok.sub kAlk (e_sub_of rfl ?_) (ih3 y7 x25 (y7 + 1) ⟨by omega, by omega, by omega⟩ (by omega))
                exact ⟨rfl, rfl, rfl, rfl, rfl, rfl, trivial⟩
        · replace h9 : (w 36 y7 : Int) ≥ 4 := Int.not_lt.mp (show ¬ ((w 36 y7 : Int) < 4) from h9)
          refine e_Ok.ps1 (x := (1, 19)) (q := 34) 1 rfl ?_
          refine e_Ok.getr (z := 36) rfl (el_o rfl) rfl rfl (e_Has.eq hT (kt_o rfl)) ⟨by decide, by decide⟩ ?_
          refine e_Ok.ps1 (x := (0, y7)) (q := 39) 1 rfl ?_
          refine e_Ok.ald (z := w 36 y7) rfl (el_o rfl) rfl (by omega) rfl (by omega) ?_
          refine e_Ok.ps1 (x := (0, 8)) (q := 42) 1 rfl ?_
          refine e_Ok.if2 rfl (fun h31 => ?_) (fun h31 => ?_)
          · replace h31 : (w 36 y7 : Int) = 8 := h31
            refine e_Ok.ps2 (x := (0, y7)) (y := (1, 19)) (q := 51) 2 rfl ?_
            refine e_Ok.callV rfl (e_dq hd rfl) rfl rfl rfl rfl (c_81 hT (by omega) hf (by omega) (by omega)) (fun r32 w33 h34 => ?_)
            obtain ⟨z36, rfl, rfl, q35r⟩ := h34
            refine e_Ok.nrm (q := 54) (st' := [(0, z36)]) rfl rfl ?_
            refine e_Ok.ps1 (x := (0, x)) (q := 55) 1 rfl ?_
            refine e_Ok.any rfl (eF_sub_any _ _) (fun z37 z37a z37b => ?_)
            refine e_Ok.ps2 (x := (0, y7)) (y := (1, 19)) (q := 59) 2 rfl ?_
            refine e_Ok.callV rfl (e_dq hd rfl) rfl rfl rfl rfl (c_82 hT (by omega) hf (by omega) (by omega)) (fun r38 w40 h41 => ?_)
            obtain ⟨z43, rfl, rfl, q42r⟩ := h41
            refine e_Ok.nrm (q := 62) (st' := [(0, z43), (0, z37)]) rfl rfl ?_
            refine e_Ok.ps1 (x := (0, y)) (q := 63) 1 rfl ?_
            refine e_Ok.any rfl (eF_sub_any _ _) (fun z44 z44a z44b => ?_)
            refine e_Ok.callS rfl (e_dq hd rfl) rfl rfl (c_178 (by omega) (by omega)) (fun r45 w46 h47 => ?_)
            obtain ⟨x48, rfl, rfl⟩ := h47
            refine e_Ok.nrm (q := 67) (st' := [(4, x48)]) rfl rfl ?_
            refine e_Ok.run (t' := (73, [(8, (4, x48)), (0, (1, 19)), (1, (0, x)), (2, (0, y)), (4, (0, y4)), (5, (4, y5)), (7, (0, y7))], [(4, y5), (4, x48)], w)) 3 rfl ?_
            refine e_Ok.lcmp rfl (fun z49 z49a z49b z49c => ?_)
            refine e_Ok.if1 rfl (fun h50 => ?_) (fun h50 => ?_)
            · replace h50 : (z49 : Int) < 0 := h50
              refine e_Ok.run (t' := (98, [(5, (4, x48)), (4, (0, y7)), (8, (4, x48)), (0, (1, 19)), (1, (0, x)), (2, (0, y)), (7, (0, y7))], [], w)) 4 rfl ?_
              refine e_Ok.inc (z := y7 + 1) rfl rfl (by first | with_reducible rfl | omega) (by omega) ?_
              show e_Ok 20 elay kcode eI (d + 1) 83 (101, [(7, (0, y7 + 1)), (5, (4, x48)), (4, (0, y7)), (8, (4, x48)), (0, (1, 19)), (1, (0, x)), (2, (0, y))], [], w) _
              refine e_Ok.ps0 (q := 13) 1 rfl ?_
              refine e_Ok.sub kAlk (e_sub_of rfl ?_) (ih3 y7 x48 (y7 + 1) ⟨by omega, by omega, by omega⟩ (by omega))
              exact ⟨rfl, rfl, rfl, rfl, rfl, rfl, trivial⟩
            · replace h50 : (z49 : Int) ≥ 0 := Int.not_lt.mp (show ¬ ((z49 : Int) < 0) from h50)
              refine e_Ok.ps2 (x := (4, y5)) (y := (4, x48)) (q := 81) 2 rfl ?_
              refine e_Ok.lcmp rfl (fun z51 z51a z51b z51c => ?_)
              refine e_Ok.if1 rfl (fun h52 => ?_) (fun h52 => ?_)
              · replace h52 : (z51 : Int) ≠ 0 := h52
                refine e_Ok.inc (z := y7 + 1) rfl rfl (by first | with_reducible rfl | omega) (by omega) ?_
                show e_Ok 20 elay kcode eI (d + 1) 83 (101, [(7, (0, y7 + 1)), (8, (4, x48)), (0, (1, 19)), (1, (0, x)), (2, (0, y)), (4, (0, y4)), (5, (4, y5))], [], w) _
                refine e_Ok.ps0 (q := 13) 1 rfl ?_
                refine e_Ok.sub kAlk (e_sub_of rfl ?_) (ih3 y4 y5 (y7 + 1) ⟨by omega, by omega, by omega⟩ (by omega))
                exact ⟨rfl, rfl, rfl, rfl, rfl, rfl, trivial⟩
              · replace h52 : (z51 : Int) = 0 := Classical.not_not.mp (show ¬ ((z51 : Int) ≠ 0) from h52)
                refine e_Ok.ps1 (x := (0, y4)) (q := 87) 1 rfl ?_
                refine e_Ok.if1 rfl (fun h53 => ?_) (fun h53 => ?_)
                · replace h53 : (y4 : Int) ≥ 0 := h53
                  refine e_Ok.inc (z := y7 + 1) rfl rfl (by first | with_reducible rfl | omega) (by omega) ?_
                  show e_Ok 20 elay kcode eI (d + 1) 83 (101, [(7, (0, y7 + 1)), (8, (4, x48)), (0, (1, 19)), (1, (0, x)), (2, (0, y)), (4, (0, y4)), (5, (4, y5))], [], w) _
                  refine e_Ok.ps0 (q := 13) 1 rfl ?_
                  refine e_Ok.sub kAlk (e_sub_of rfl ?_) (ih3 y4 y5 (y7 + 1) ⟨by omega, by omega, by omega⟩ (by omega))
                  exact ⟨rfl, rfl, rfl, rfl, rfl, rfl, trivial⟩
                · replace h53 : (y4 : Int) < 0 := Int.not_le.mp (show ¬ ((y4 : Int) ≥ 0) from h53)
                  refine e_Ok.run (t' := (98, [(5, (4, x48)), (4, (0, y7)), (8, (4, x48)), (0, (1, 19)), (1, (0, x)), (2, (0, y)), (7, (0, y7))], [], w)) 4 rfl ?_
                  refine e_Ok.inc (z := y7 + 1) rfl rfl (by first | with_reducible rfl | omega) (by omega) ?_
                  show e_Ok 20 elay kcode eI (d + 1) 83 (101, [(7, (0, y7 + 1)), (5, (4, x48)), (4, (0, y7)), (8, (4, x48)), (0, (1, 19)), (1, (0, x)), (2, (0, y))], [], w) _
                  refine e_Ok.ps0 (q := 13) 1 rfl ?_
                  refine e_Ok.sub kAlk (e_sub_of rfl ?_) (ih3 y7 x48 (y7 + 1) ⟨by omega, by omega, by omega⟩ (by omega))
                  exact ⟨rfl, rfl, rfl, rfl, rfl, rfl, trivial⟩
          · replace h31 : (w 36 y7 : Int) ≠ 8 := (show ¬ ((w 36 y7 : Int) = 8) from h31)
            refine e_Ok.ps0 (q := 98) 1 rfl ?_
            refine e_Ok.inc (z := y7 + 1) rfl rfl (by first | with_reducible rfl | omega) (by omega) ?_
            show e_Ok 20 elay kcode eI (d + 1) 83 (101, [(7, (0, y7 + 1)), (0, (1, 19)), (1, (0, x)), (2, (0, y)), (4, (0, y4)), (5, (4, y5))], [], w) _
            refine e_Ok.ps0 (q := 13) 1 rfl ?_
            refine e_Ok.sub kAlk (e_sub_of rfl ?_) (ih3 y4 y5 (y7 + 1) ⟨by omega, by omega, by omega⟩ (by omega))
            exact ⟨rfl, rfl, rfl, rfl, rfl, rfl, trivial⟩
  refine e_Ok.sub kAlk (e_sub_of rfl ?_) (hL2 (32 + 1 : Int).toNat (-1) x1 0 ⟨by omega, by omega, by omega⟩ (by omega))
  exact ⟨rfl, rfl, rfl, rfl, rfl, rfl, trivial⟩
theorem no_c4_0 {k : Int} : ¬ kFl 19 k := by unfold kFl; omega
theorem no_c4_1 {k : Int} : ¬ kFl 30 k := by unfold kFl; omega
theorem c_84 {d : Nat} {w : eW} (hT : e_Has kTy w) {a p : Int} (g_a : 0 ≤ a ∧ a ≤ 3) (g_p : 0 ≤ p ∧ p ≤ 31) (hf : fK w) (hq0 : p < w 19 1) (hh : w 36 p < 4 ∨ w 36 p = 8) : e_Ok 20 elay kcode eI d 84 (0, [(0, (1, 19)), (1, (0, a)), (2, (0, p))], [], w) (fun r w' => r = [] ∧ e_fr kFl w w' ∧ e_Has kTy w' ∧ (fK w' ∧ w' 36 p = 4 + a ∧ ∀ q, q ≠ p → w' 36 q = w 36 q)) := by
  have hB0 := e_Has.get hT (c := 19) (k := 0) (lo := 0) (hi := 4) (kt_o rfl) (by decide)
  have hM0 := e_Has.get hT (c := 19) (k := 1) (lo := 0) (hi := 32) (kt_o rfl) (by decide)
  have hP := hf.2 p (by omega) hq0
  unfold fP kn1 at hP
  have hO := hf.1 (w 36 p)
  unfold fO at hO
  refine e_Ok.ps1 (x := (1, 19)) (q := 1) 1 rfl ?_
  refine e_Ok.getr (z := 36) rfl (el_o rfl) rfl rfl (e_Has.eq hT (kt_o rfl)) ⟨by decide, by decide⟩ ?_
  refine e_Ok.ps1 (x := (0, p)) (q := 5) 1 rfl ?_
  refine e_Ok.ald (z := w 36 p) rfl (el_o rfl) rfl (by omega) rfl (by omega) ?_
  refine e_Ok.run (t' := (8, [(3, (0, w 36 p)), (0, (1, 19)), (1, (0, a)), (2, (0, p))], [(1, 19)], w)) 2 rfl ?_
  refine e_Ok.getr (z := 36) rfl (el_o rfl) rfl rfl (e_Has.eq hT (kt_o rfl)) ⟨by decide, by decide⟩ ?_
  refine e_Ok.ps3 (x := (0, a)) (y := (0, 4)) (z := (0, p)) (q := 14) 3 rfl ?_
  refine e_Ok.add (z := a + 4) rfl (Int.add_comm _ _) (by omega) ?_
  refine e_Ok.ast rfl (el_o rfl) rfl rfl (by omega) ?_
  generalize hw1 : e_up w 36 p (a + 4) = w1
  have f2 : e_fr kFl w w1 := e_fr.up (e_fr.refl w) hw1 (by first | exact Or.inl ⟨(by decide), (by decide)⟩ | (unfold kFl; omega))
  have hT3 : e_Has kTy w1 := e_Has.ups hT hw1 (kt_o rfl)
  refine e_Ok.ps2 (x := (0, 4)) (y := (0, w 36 p)) (q := 18) 2 rfl ?_
  refine e_Ok.if2 rfl (fun h4 => ?_) (fun h4 => ?_)
  · replace h4 : (w 36 p : Int) < 4 := h4
    refine e_Ok.run (t' := (28, [(5, (0, 0)), (4, (0, 0)), (3, (0, w 36 p)), (0, (1, 19)), (1, (0, a)), (2, (0, p))], [], w1)) 4 rfl ?_
    have hL5 : ∀ (nn : Nat) (y4 : Int) (y5 : Int) (v1 : eW), e_fr kFl w v1 ∧ e_Has kTy v1 ∧ (∀ c k, c ≠ w 36 p + 31 → ¬ (c = 36 ∧ k = p) → v1 c k = w c k) ∧ v1 36 p = 4 + a ∧ (∀ j, y5 ≤ j → v1 (w 36 p + 31) j = w (w 36 p + 31) j) ∧ (∀ j, 0 ≤ j → j < y4 → (0 ≤ v1 (w 36 p + 31) j ∧ v1 (w 36 p + 31) j < w 19 1) ∧ v1 (w 36 p + 31) j ≠ p ∧ w 36 (v1 (w 36 p + 31) j) = w 36 p) ∧ ((y4 ≤ y5 ∧ y5 ≤ w 35 (w 36 p))) ∧ (0 ≤ y4 ∧ y4 ≤ 32) ∧ (0 ≤ y5 ∧ y5 ≤ 32) → 32 - y5 < nn → e_Ok 20 elay kcode eI d 84 (28, [(0, (1, 19)), (1, (0, a)), (2, (0, p)), (3, (0, w 36 p)), (4, (0, y4)), (5, (0, y5))], [], v1) (fun r w' => r = [] ∧ e_fr kFl w w' ∧ e_Has kTy w' ∧ (fK w' ∧ w' 36 p = 4 + a ∧ ∀ q, q ≠ p → w' 36 q = w 36 q)) := by
      intro nn
      induction nn with
      | zero => intro y4 y5 v1 hj hm; obtain ⟨j7, j8, j9, j10, j11, j12, j13, j14, j15⟩ := hj; exfalso; omega
      | succ nn ih6 =>
        intro y4 y5 v1 hj hm
        obtain ⟨j7, j8, j9, j10, j11, j12, j13, j14, j15⟩ := hj
        have hO1 := (hO (by omega) (by omega)).1
        have e35 : v1 35 (w 36 p) = w 35 (w 36 p) := j9 _ _ (by omega) (by omega)
        refine e_Ok.run (t' := (31, [(0, (1, 19)), (1, (0, a)), (2, (0, p)), (3, (0, w 36 p)), (4, (0, y4)), (5, (0, y5))], [(1, 19), (0, y5)], v1)) 2 rfl ?_
        refine e_Ok.getr (z := 35) rfl (el_o rfl) rfl rfl ((j7 19 13 no_c4_0).trans (e_Has.eq hT (kt_o rfl))) ⟨by decide, by decide⟩ ?_
        refine e_Ok.ps1 (x := (0, w 36 p)) (q := 35) 1 rfl ?_
        refine e_Ok.ald (z := w 35 (w 36 p)) rfl (el_o rfl) rfl (by omega) e35 (by omega) ?_
        refine e_Ok.if2 rfl (fun h16 => ?_) (fun h16 => ?_)
        · replace h16 : (y5 : Int) ≥ w 35 (w 36 p) := h16
          refine e_Ok.ps1 (x := (1, 19)) (q := 80) 1 rfl ?_
          refine e_Ok.getr (z := 35) rfl (el_o rfl) rfl rfl ((j7 19 13 no_c4_0).trans (e_Has.eq hT (kt_o rfl))) ⟨by decide, by decide⟩ ?_
          refine e_Ok.ps2 (x := (0, y4)) (y := (0, w 36 p)) (q := 86) 2 rfl ?_
          refine e_Ok.ast rfl (el_o rfl) rfl rfl (by omega) ?_
          generalize hw17 : e_up v1 35 (w 36 p) y4 = w17
          have hT19 : e_Has kTy w17 := e_Has.ups j8 hw17 rfl
          refine e_Ok.rets rfl rfl ?_
          exact ⟨rfl, (show e_fr kFl w w17 from e_fr.up j7 hw17 (by first | exact Or.inl ⟨(by decide), (by decide)⟩ | (unfold kFl; omega))), hT19, fK.grip hf (by omega) (by omega) (by omega) (by omega) j9 (by omega) j12 (by omega) hw17⟩
        · replace h16 : (y5 : Int) < w 35 (w 36 p) := Int.not_le.mp (show ¬ ((y5 : Int) ≥ w 35 (w 36 p)) from h16)
          have hq := hf.ord (b := w 36 p) (i := y5) (by omega) (by omega)
          have eq5 : v1 (w 36 p + 31) y5 = w (w 36 p + 31) y5 := j11 y5 (by omega)
          refine e_Ok.ps1 (x := (1, 19)) (q := 40) 1 rfl ?_
          refine e_Ok.getr (z := 30) rfl (el_o rfl) rfl rfl ((j7 19 12 no_c4_0).trans (e_Has.eq hT (kt_o rfl))) ⟨by decide, by decide⟩ ?_
          refine e_Ok.ps1 (x := (0, w 36 p)) (q := 44) 1 rfl ?_
          refine e_Ok.aald (z := w 36 p + 31) rfl (el_o rfl) rfl (by omega) ((j7 30 (w 36 p) no_c4_1).trans (Eq.trans (e_Has.eq hT (k30 (by omega))) (by omega))) (by omega) ?_
          refine e_Ok.ps1 (x := (0, y5)) (q := 47) 1 rfl ?_
          refine e_Ok.ald (z := w (w 36 p + 31) y5) rfl (lO (b := (w 36 p)) (by omega) (by omega)) rfl (by omega) eq5 (by omega) ?_
          refine e_Ok.ps1 (x := (0, p)) (q := 49) 1 rfl ?_
          refine e_Ok.if2 rfl (fun h20 => ?_) (fun h20 => ?_)
          · replace h20 : (w (w 36 p + 31) y5 : Int) = p := h20
            refine e_Ok.inc (z := y5 + 1) rfl rfl (by first | with_reducible rfl | omega) (by omega) ?_
            show e_Ok 20 elay kcode eI d 84 (76, [(5, (0, y5 + 1)), (0, (1, 19)), (1, (0, a)), (2, (0, p)), (3, (0, w 36 p)), (4, (0, y4))], [], v1) _
            refine e_Ok.ps0 (q := 28) 1 rfl ?_
            refine e_Ok.sub kAlk (e_sub_of rfl ?_) (ih6 y4 (y5 + 1) v1 ⟨j7, j8, j9, j10, (fun j g => j11 j (by omega)), j12, by omega, by omega, by omega⟩ (by omega))
            exact ⟨rfl, rfl, rfl, rfl, rfl, rfl, trivial⟩
          · replace h20 : (w (w 36 p + 31) y5 : Int) ≠ p := (show ¬ ((w (w 36 p + 31) y5 : Int) = p) from h20)
            refine e_Ok.ps1 (x := (1, 19)) (q := 53) 1 rfl ?_
            refine e_Ok.getr (z := 30) rfl (el_o rfl) rfl rfl ((j7 19 12 no_c4_0).trans (e_Has.eq hT (kt_o rfl))) ⟨by decide, by decide⟩ ?_
            refine e_Ok.ps1 (x := (0, w 36 p)) (q := 57) 1 rfl ?_
            refine e_Ok.aald (z := w 36 p + 31) rfl (el_o rfl) rfl (by omega) ((j7 30 (w 36 p) no_c4_1).trans (Eq.trans (e_Has.eq hT (k30 (by omega))) (by omega))) (by omega) ?_
            refine e_Ok.ps2 (x := (1, 19)) (y := (0, y4)) (q := 61) 2 rfl ?_
            refine e_Ok.getr (z := 30) rfl (el_o rfl) rfl rfl ((j7 19 12 no_c4_0).trans (e_Has.eq hT (kt_o rfl))) ⟨by decide, by decide⟩ ?_
            refine e_Ok.ps1 (x := (0, w 36 p)) (q := 65) 1 rfl ?_
            refine e_Ok.aald (z := w 36 p + 31) rfl (el_o rfl) rfl (by omega) ((j7 30 (w 36 p) no_c4_1).trans (Eq.trans (e_Has.eq hT (k30 (by omega))) (by omega))) (by omega) ?_
            refine e_Ok.ps1 (x := (0, y5)) (q := 68) 1 rfl ?_
            refine e_Ok.ald (z := w (w 36 p + 31) y5) rfl (lO (b := (w 36 p)) (by omega) (by omega)) rfl (by omega) eq5 (by omega) ?_
            refine e_Ok.ast rfl (lO (b := (w 36 p)) (by omega) (by omega)) rfl rfl (by omega) ?_
            generalize hw21 : e_up v1 (w 36 p + 31) y4 (w (w 36 p + 31) y5) = w21
            have hT23 : e_Has kTy w21 := e_Has.ups j8 hw21 (kO (b := (w 36 p)) _ (by omega) (by omega))
            refine e_Ok.inc (z := y4 + 1) rfl rfl (by first | with_reducible rfl | omega) (by omega) ?_
            show e_Ok 20 elay kcode eI d 84 (73, [(4, (0, y4 + 1)), (0, (1, 19)), (1, (0, a)), (2, (0, p)), (3, (0, w 36 p)), (5, (0, y5))], [], w21) _
            refine e_Ok.inc (z := y5 + 1) rfl rfl (by first | with_reducible rfl | omega) (by omega) ?_
            show e_Ok 20 elay kcode eI d 84 (76, [(5, (0, y5 + 1)), (4, (0, y4 + 1)), (0, (1, 19)), (1, (0, a)), (2, (0, p)), (3, (0, w 36 p))], [], w21) _
            refine e_Ok.ps0 (q := 28) 1 rfl ?_
            refine e_Ok.sub kAlk (e_sub_of rfl ?_) (ih6 (y4 + 1) (y5 + 1) w21 ⟨(show e_fr kFl w w21 from e_fr.up j7 hw21 (by unfold kFl; omega)), hT23, (fun c k g1 g2 => by rw [← hw21, e_up_ne _ _ (Or.inl g1)]; exact j9 c k g1 g2), (e_uq hw21 (Or.inl (by omega)) j10), (fun j g => by rw [← hw21, e_up_ne _ _ (Or.inr (by omega))]; exact j11 j (by omega)), (fun j g1 g2 => by rw [← hw21]; by_cases e : j = y4; (rw [e, e_up_eq]; exact ⟨hq.1, by omega, hq.2⟩); (rw [e_up_ne _ _ (Or.inr e)]; exact j12 j g1 (by omega))), by omega, by omega, by omega⟩ (by omega))
            exact ⟨rfl, rfl, rfl, rfl, rfl, rfl, trivial⟩
    refine e_Ok.sub kAlk (e_sub_of rfl ?_) (hL5 (32 + 1 : Int).toNat 0 0 w1 ⟨f2, hT3, (fun c k g1 g2 => by rw [← hw1]; exact e_up_ne _ _ (by omega)), (by rw [← hw1, e_up_eq]; omega), (fun j g => by rw [← hw1]; exact e_up_ne _ _ (Or.inl (by omega))), (fun j g1 g2 => by omega), (by have := hO (by omega) (by omega); omega), by omega, by omega⟩ (by omega))
    exact ⟨rfl, rfl, rfl, rfl, rfl, rfl, trivial⟩
  · replace h4 : (w 36 p : Int) ≥ 4 := Int.not_lt.mp (show ¬ ((w 36 p : Int) < 4) from h4)
    refine e_Ok.rets rfl rfl ?_
    exact ⟨rfl, f2, hT3, fK.grip8 hf (by omega) (by omega) (by omega) (by omega) (by omega) hw1⟩
theorem c_79 {d : Nat} {w : eW} (hT : e_Has kTy w) {p x y : Int} (gp : 0 ≤ p ∧ p ≤ 31) (gx : -2147483648 ≤ x ∧ x ≤ 2147483647) (gy : -2147483648 ≤ y ∧ y ≤ 2147483647) : e_Ok 20 elay kcode eI d 79 (0, [(0, (1, 19)), (1, (0, p)), (2, (0, x)), (3, (0, y))], [], w) (fun r w' => r = [] ∧ e_fr kFl w w' ∧ e_Has kTy w' ∧ ∃ z8 w1 w2, z8 = 8 ∧ e_up w 36 p z8 = w1 ∧ e_up w1 39 p x = w2 ∧ e_up w2 40 p y = w') := by
  refine e_Ok.ps1 (x := (1, 19)) (q := 1) 1 rfl ?_
  refine e_Ok.getr (z := 36) rfl (el_o rfl) rfl rfl (e_Has.eq hT (kt_o rfl)) ⟨by decide, by decide⟩ ?_
  refine e_Ok.ps2 (x := (0, 8)) (y := (0, p)) (q := 7) 2 rfl ?_
  refine e_Ok.ast rfl (el_o rfl) rfl rfl (by omega) ?_
  generalize hw1 : e_up w 36 p 8 = w1
  have hT3 : e_Has kTy w1 := e_Has.ups hT hw1 (kt_o rfl)
  refine e_Ok.ps1 (x := (1, 19)) (q := 9) 1 rfl ?_
  refine e_Ok.getr (z := 39) rfl (el_o rfl) rfl rfl (e_uq hw1 (Or.inl (by decide)) (e_Has.eq hT (kt_o rfl))) ⟨by decide, by decide⟩ ?_
  refine e_Ok.ps2 (x := (0, x)) (y := (0, p)) (q := 14) 2 rfl ?_
  refine e_Ok.ast rfl (el_o rfl) rfl rfl (by omega) ?_
  generalize hw4 : e_up w1 39 p x = w4
  have hT6 : e_Has kTy w4 := e_Has.ups hT3 hw4 (kt_o rfl)
  refine e_Ok.ps1 (x := (1, 19)) (q := 16) 1 rfl ?_
  refine e_Ok.getr (z := 40) rfl (el_o rfl) rfl rfl (e_uq hw4 (Or.inl (by decide)) (e_uq hw1 (Or.inl (by decide)) (e_Has.eq hT (kt_o rfl)))) ⟨by decide, by decide⟩ ?_
  refine e_Ok.ps2 (x := (0, y)) (y := (0, p)) (q := 21) 2 rfl ?_
  refine e_Ok.ast rfl (el_o rfl) rfl rfl (by omega) ?_
  generalize hw7 : e_up w4 40 p y = w7
  have hT9 : e_Has kTy w7 := e_Has.ups hT6 hw7 (kt_o rfl)
  refine e_Ok.rets rfl rfl ?_
  exact ⟨rfl, (show e_fr kFl w w7 from e_fr.up (show e_fr kFl w w4 from e_fr.up (show e_fr kFl w w1 from e_fr.up (e_fr.refl w) hw1 (by first | exact Or.inl ⟨(by decide), (by decide)⟩ | (unfold kFl; omega))) hw4 (by first | exact Or.inr (Or.inl rfl) | (unfold kFl; omega))) hw7 (by first | exact Or.inr (Or.inr rfl) | (unfold kFl; omega))), hT9, 8, _, _, rfl, hw1, hw4, hw7⟩
theorem c_80 {d : Nat} {w : eW} (hT : e_Has kTy w) {b p s : Int} (g_b : 0 ≤ b ∧ b ≤ 3) (g_p : 0 ≤ p ∧ p ≤ 31) (g_s : (-2147483648) ≤ s ∧ s ≤ 2147483647) (hO : (0 ≤ w 35 b ∧ w 35 b ≤ 32) ∧ ∀ i, 0 ≤ i → i < w 35 b → (0 ≤ w (b + 31) i ∧ w (b + 31) i ≤ 31) ∧ kn1 (w 37 (w (b + 31) i))) : e_Ok 20 elay kcode eI d 80 (0, [(0, (1, 19)), (1, (0, b)), (2, (0, p)), (3, (0, s))], [], w) (fun r w' => r = [] ∧ e_fr kFl w w' ∧ e_Has kTy w' ∧ cmT w w' b p s) := by
  refine e_Ok.ps1 (x := (1, 19)) (q := 1) 1 rfl ?_
  refine e_Ok.getr (z := 35) rfl (el_o rfl) rfl rfl (e_Has.eq hT (kt_o rfl)) ⟨by decide, by decide⟩ ?_
  refine e_Ok.ps1 (x := (0, b)) (q := 5) 1 rfl ?_
  refine e_Ok.ald (z := w 35 b) rfl (el_o rfl) rfl (by omega) rfl (by omega) ?_
  refine e_Ok.ps1 (x := (0, 32)) (q := 8) 1 rfl ?_
  refine e_Ok.if2 rfl (fun h1 => ?_) (fun h1 => ?_)
  · replace h1 : (w 35 b : Int) < 32 := h1
    refine e_Ok.ps1 (x := (1, 19)) (q := 13) 1 rfl ?_
    refine e_Ok.getr (z := 35) rfl (el_o rfl) rfl rfl (e_Has.eq hT (kt_o rfl)) ⟨by decide, by decide⟩ ?_
    refine e_Ok.ps1 (x := (0, b)) (q := 17) 1 rfl ?_
    refine e_Ok.ald (z := w 35 b) rfl (el_o rfl) rfl (by omega) rfl (by omega) ?_
    refine e_Ok.run (t' := (20, [(4, (0, w 35 b)), (0, (1, 19)), (1, (0, b)), (2, (0, p)), (3, (0, s))], [], w)) 1 rfl ?_
    have hL2 : ∀ (nn : Nat) (y4 : Int) (v1 : eW), e_fr kFl w v1 ∧ e_Has kTy v1 ∧ (∀ c k, c ≠ b + 31 → v1 c k = w c k) ∧ (∀ j, 0 ≤ j → j < y4 → v1 (b + 31) j = w (b + 31) j) ∧ (∀ j, y4 < j → j ≤ w 35 b → v1 (b + 31) j = w (b + 31) (j - 1)) ∧ y4 ≤ w 35 b ∧ (0 ≤ y4 ∧ y4 ≤ 32) → y4 < nn → e_Ok 20 elay kcode eI d 80 (20, [(0, (1, 19)), (1, (0, b)), (2, (0, p)), (3, (0, s)), (4, (0, y4))], [], v1) (fun r w' => r = [] ∧ e_fr kFl w w' ∧ e_Has kTy w' ∧ cmT w w' b p s) := by
      intro nn
      induction nn with
      | zero => intro y4 v1 hj hm; obtain ⟨j4, j5, j6, j7, j8, j9, j10⟩ := hj; exfalso; omega
      | succ nn ih3 =>
        intro y4 v1 hj hm
        obtain ⟨j4, j5, j6, j7, j8, j9, j10⟩ := hj
        refine e_Ok.run (t' := (22, [(0, (1, 19)), (1, (0, b)), (2, (0, p)), (3, (0, s)), (4, (0, y4))], [(0, y4)], v1)) 1 rfl ?_
        refine e_Ok.if1 rfl (fun h11 => ?_) (fun h11 => ?_)
        · replace h11 : (y4 : Int) ≤ 0 := h11
          have e35 : v1 35 b = w 35 b := j6 _ _ (by omega)
          refine e_Ok.ps1 (x := (1, 19)) (q := 72) 1 rfl ?_
          refine e_Ok.getr (z := 30) rfl (el_o rfl) rfl rfl ((j4 19 12 no_c4_0).trans (e_Has.eq hT (kt_o rfl))) ⟨by decide, by decide⟩ ?_
          refine e_Ok.ps1 (x := (0, b)) (q := 76) 1 rfl ?_
          refine e_Ok.aald (z := b + 31) rfl (el_o rfl) rfl (by omega) ((j4 30 b no_c4_1).trans (Eq.trans (e_Has.eq hT (k30 (by omega))) (by omega))) (by omega) ?_
          refine e_Ok.ps2 (x := (0, p)) (y := (0, y4)) (q := 80) 2 rfl ?_
          refine e_Ok.ast rfl (lO (b := b) (by omega) (by omega)) rfl rfl (by omega) ?_
          generalize hw12 : e_up v1 (b + 31) y4 p = w12
          have hT14 : e_Has kTy w12 := e_Has.ups j5 hw12 (kO (b := b) _ (by omega) (by omega))
          refine e_Ok.ps1 (x := (1, 19)) (q := 82) 1 rfl ?_
          refine e_Ok.getr (z := 35) rfl (el_o rfl) rfl rfl (e_uq hw12 (Or.inl (by omega)) ((j4 19 13 no_c4_0).trans (e_Has.eq hT (kt_o rfl)))) ⟨by decide, by decide⟩ ?_
          refine e_Ok.ps3 (x := (0, b)) (y := (1, 35)) (z := (0, b)) (q := 87) 2 rfl ?_
          refine e_Ok.ald (z := w 35 b) rfl (el_o rfl) rfl (by omega) (e_uq hw12 (Or.inl (by omega)) e35) (by omega) ?_
          refine e_Ok.ps1 (x := (0, 1)) (q := 89) 1 rfl ?_
          refine e_Ok.add (z := w 35 b + 1) rfl rfl (by omega) ?_
          refine e_Ok.ast rfl (el_o rfl) rfl rfl (by omega) ?_
          generalize hw15 : e_up w12 35 b (w 35 b + 1) = w15
          have hT17 : e_Has kTy w15 := e_Has.ups hT14 hw15 (kt_o rfl)
          refine e_Ok.ps1 (x := (1, 19)) (q := 92) 1 rfl ?_
          refine e_Ok.getr (z := 36) rfl (el_o rfl) rfl rfl (e_uq hw15 (Or.inl (by decide)) (e_uq hw12 (Or.inl (by omega)) ((j4 19 14 no_c4_0).trans (e_Has.eq hT (kt_o rfl))))) ⟨by decide, by decide⟩ ?_
          refine e_Ok.ps2 (x := (0, b)) (y := (0, p)) (q := 97) 2 rfl ?_
          refine e_Ok.ast rfl (el_o rfl) rfl rfl (by omega) ?_
          generalize hw18 : e_up w15 36 p b = w18
          have hT20 : e_Has kTy w18 := e_Has.ups hT17 hw18 (kt_o rfl)
          refine e_Ok.ps1 (x := (1, 19)) (q := 99) 1 rfl ?_
          refine e_Ok.getr (z := 37) rfl (el_o rfl) rfl rfl (e_uq hw18 (Or.inl (by decide)) (e_uq hw15 (Or.inl (by decide)) (e_uq hw12 (Or.inl (by omega)) ((j4 19 15 no_c4_0).trans (e_Has.eq hT (kt_o rfl)))))) ⟨by decide, by decide⟩ ?_
          refine e_Ok.ps2 (x := (0, s)) (y := (0, p)) (q := 104) 2 rfl ?_
          refine e_Ok.ast rfl (el_o rfl) rfl rfl (by omega) ?_
          generalize hw21 : e_up w18 37 p s = w21
          have hT23 : e_Has kTy w21 := e_Has.ups hT20 hw21 (kt_o rfl)
          refine e_Ok.rets rfl rfl ?_
          exact ⟨rfl, (show e_fr kFl w w21 from e_fr.up (show e_fr kFl w w18 from e_fr.up (show e_fr kFl w w15 from e_fr.up (show e_fr kFl w w12 from e_fr.up j4 hw12 (by first | exact Or.inl ⟨(by omega), (by omega)⟩ | (unfold kFl; omega))) hw15 (by first | exact Or.inl ⟨(by decide), (by decide)⟩ | (unfold kFl; omega))) hw18 (by first | exact Or.inl ⟨(by decide), (by decide)⟩ | (unfold kFl; omega))) hw21 (by first | exact Or.inl ⟨(by decide), (by decide)⟩ | (unfold kFl; omega))), hT23, cmT.mk (by omega) (by omega) (by omega) j6 j7 j8 (by omega) hw12 hw15 hw18 hw21⟩
        · replace h11 : (y4 : Int) > 0 := Int.not_le.mp (show ¬ ((y4 : Int) ≤ 0) from h11)
          have hq := hO.2 (y4 - 1) (by omega) (by omega); unfold kn1 at hq
          have eq5 : v1 (b + 31) (y4 - 1) = w (b + 31) (y4 - 1) := j7 (y4 - 1) (by omega) (by omega)
          have eq6 : v1 37 (w (b + 31) (y4 - 1)) = w 37 (w (b + 31) (y4 - 1)) := j6 _ _ (by omega)
          refine e_Ok.ps1 (x := (1, 19)) (q := 26) 1 rfl ?_
          refine e_Ok.getr (z := 37) rfl (el_o rfl) rfl rfl ((j4 19 15 no_c4_0).trans (e_Has.eq hT (kt_o rfl))) ⟨by decide, by decide⟩ ?_
          refine e_Ok.ps1 (x := (1, 19)) (q := 30) 1 rfl ?_
          refine e_Ok.getr (z := 30) rfl (el_o rfl) rfl rfl ((j4 19 12 no_c4_0).trans (e_Has.eq hT (kt_o rfl))) ⟨by decide, by decide⟩ ?_
          refine e_Ok.ps1 (x := (0, b)) (q := 34) 1 rfl ?_
          refine e_Ok.aald (z := b + 31) rfl (el_o rfl) rfl (by omega) ((j4 30 b no_c4_1).trans (Eq.trans (e_Has.eq hT (k30 (by omega))) (by omega))) (by omega) ?_
          refine e_Ok.ps2 (x := (0, 1)) (y := (0, y4)) (q := 38) 2 rfl ?_
          refine e_Ok.sub' (z := y4 - 1) rfl rfl (by omega) ?_
          refine e_Ok.ald (z := w (b + 31) (y4 - 1)) rfl (lO (b := b) (by omega) (by omega)) rfl (by omega) eq5 (by omega) ?_
          refine e_Ok.ald (z := w 37 (w (b + 31) (y4 - 1))) rfl rfl rfl (by omega) eq6 (by omega) ?_
          refine e_Ok.ps1 (x := (0, s)) (q := 42) 1 rfl ?_
          refine e_Ok.if2 rfl (fun h24 => ?_) (fun h24 => ?_)
          · replace h24 : (w 37 (w (b + 31) (y4 - 1)) : Int) ≥ s := h24
            have e35 : v1 35 b = w 35 b := j6 _ _ (by omega)
            refine e_Ok.ps1 (x := (1, 19)) (q := 72) 1 rfl ?_
            refine e_Ok.getr (z := 30) rfl (el_o rfl) rfl rfl ((j4 19 12 no_c4_0).trans (e_Has.eq hT (kt_o rfl))) ⟨by decide, by decide⟩ ?_
            refine e_Ok.ps1 (x := (0, b)) (q := 76) 1 rfl ?_
            refine e_Ok.aald (z := b + 31) rfl (el_o rfl) rfl (by omega) ((j4 30 b no_c4_1).trans (Eq.trans (e_Has.eq hT (k30 (by omega))) (by omega))) (by omega) ?_
            refine e_Ok.ps2 (x := (0, p)) (y := (0, y4)) (q := 80) 2 rfl ?_
            refine e_Ok.ast rfl (lO (b := b) (by omega) (by omega)) rfl rfl (by omega) ?_
            generalize hw25 : e_up v1 (b + 31) y4 p = w25
            have hT27 : e_Has kTy w25 := e_Has.ups j5 hw25 (kO (b := b) _ (by omega) (by omega))
            refine e_Ok.ps1 (x := (1, 19)) (q := 82) 1 rfl ?_
            refine e_Ok.getr (z := 35) rfl (el_o rfl) rfl rfl (e_uq hw25 (Or.inl (by omega)) ((j4 19 13 no_c4_0).trans (e_Has.eq hT (kt_o rfl)))) ⟨by decide, by decide⟩ ?_
            refine e_Ok.ps3 (x := (0, b)) (y := (1, 35)) (z := (0, b)) (q := 87) 2 rfl ?_
            refine e_Ok.ald (z := w 35 b) rfl (el_o rfl) rfl (by omega) (e_uq hw25 (Or.inl (by omega)) e35) (by omega) ?_
            refine e_Ok.ps1 (x := (0, 1)) (q := 89) 1 rfl ?_
            refine e_Ok.add (z := w 35 b + 1) rfl rfl (by omega) ?_
            refine e_Ok.ast rfl (el_o rfl) rfl rfl (by omega) ?_
            generalize hw28 : e_up w25 35 b (w 35 b + 1) = w28
            have hT30 : e_Has kTy w28 := e_Has.ups hT27 hw28 (kt_o rfl)
            refine e_Ok.ps1 (x := (1, 19)) (q := 92) 1 rfl ?_
            refine e_Ok.getr (z := 36) rfl (el_o rfl) rfl rfl (e_uq hw28 (Or.inl (by decide)) (e_uq hw25 (Or.inl (by omega)) ((j4 19 14 no_c4_0).trans (e_Has.eq hT (kt_o rfl))))) ⟨by decide, by decide⟩ ?_
            refine e_Ok.ps2 (x := (0, b)) (y := (0, p)) (q := 97) 2 rfl ?_
            refine e_Ok.ast rfl (el_o rfl) rfl rfl (by omega) ?_
            generalize hw31 : e_up w28 36 p b = w31
            have hT33 : e_Has kTy w31 := e_Has.ups hT30 hw31 (kt_o rfl)
            refine e_Ok.ps1 (x := (1, 19)) (q := 99) 1 rfl ?_
            refine e_Ok.getr (z := 37) rfl (el_o rfl) rfl rfl (e_uq hw31 (Or.inl (by decide)) (e_uq hw28 (Or.inl (by decide)) (e_uq hw25 (Or.inl (by omega)) ((j4 19 15 no_c4_0).trans (e_Has.eq hT (kt_o rfl)))))) ⟨by decide, by decide⟩ ?_
            refine e_Ok.ps2 (x := (0, s)) (y := (0, p)) (q := 104) 2 rfl ?_
            refine e_Ok.ast rfl (el_o rfl) rfl rfl (by omega) ?_
            generalize hw34 : e_up w31 37 p s = w34
            have hT36 : e_Has kTy w34 := e_Has.ups hT33 hw34 (kt_o rfl)
            refine e_Ok.rets rfl rfl ?_
            exact ⟨rfl, (show e_fr kFl w w34 from e_fr.up (show e_fr kFl w w31 from e_fr.up (show e_fr kFl w w28 from e_fr.up (show e_fr kFl w w25 from e_fr.up j4 hw25 (by first | exact Or.inl ⟨(by omega), (by omega)⟩ | (unfold kFl; omega))) hw28 (by first | exact Or.inl ⟨(by decide), (by decide)⟩ | (unfold kFl; omega))) hw31 (by first | exact Or.inl ⟨(by decide), (by decide)⟩ | (unfold kFl; omega))) hw34 (by first | exact Or.inl ⟨(by decide), (by decide)⟩ | (unfold kFl; omega))), hT36, cmT.mk (by omega) (by omega) (by omega) j6 j7 j8 (by omega) hw25 hw28 hw31 hw34⟩
          · replace h24 : (w 37 (w (b + 31) (y4 - 1)) : Int) < s := Int.not_le.mp (show ¬ ((w 37 (w (b + 31) (y4 - 1)) : Int) ≥ s) from h24)
            refine e_Ok.ps1 (x := (1, 19)) (q := 46) 1 rfl ?_
            refine e_Ok.getr (z := 30) rfl (el_o rfl) rfl rfl ((j4 19 12 no_c4_0).trans (e_Has.eq hT (kt_o rfl))) ⟨by decide, by decide⟩ ?_
            refine e_Ok.ps1 (x := (0, b)) (q := 50) 1 rfl ?_
            refine e_Ok.aald (z := b + 31) rfl (el_o rfl) rfl (by omega) ((j4 30 b no_c4_1).trans (Eq.trans (e_Has.eq hT (k30 (by omega))) (by omega))) (by omega) ?_
            refine e_Ok.ps2 (x := (1, 19)) (y := (0, y4)) (q := 54) 2 rfl ?_
            refine e_Ok.getr (z := 30) rfl (el_o rfl) rfl rfl ((j4 19 12 no_c4_0).trans (e_Has.eq hT (kt_o rfl))) ⟨by decide, by decide⟩ ?_
            refine e_Ok.ps1 (x := (0, b)) (q := 58) 1 rfl ?_
            refine e_Ok.aald (z := b + 31) rfl (el_o rfl) rfl (by omega) ((j4 30 b no_c4_1).trans (Eq.trans (e_Has.eq hT (k30 (by omega))) (by omega))) (by omega) ?_
            refine e_Ok.ps2 (x := (0, 1)) (y := (0, y4)) (q := 62) 2 rfl ?_
            refine e_Ok.sub' (z := y4 - 1) rfl rfl (by omega) ?_
            refine e_Ok.ald (z := w (b + 31) (y4 - 1)) rfl (lO (b := b) (by omega) (by omega)) rfl (by omega) eq5 (by omega) ?_
            refine e_Ok.ast rfl (lO (b := b) (by omega) (by omega)) rfl rfl (by omega) ?_
            generalize hw37 : e_up v1 (b + 31) y4 (w (b + 31) (y4 - 1)) = w37
            have hT40 : e_Has kTy w37 := e_Has.ups j5 hw37 (kO (b := b) _ (by omega) (by omega))
            refine e_Ok.inc (z := y4 - 1) rfl rfl (by first | with_reducible rfl | omega) (by omega) ?_
            show e_Ok 20 elay kcode eI d 80 (68, [(4, (0, y4 - 1)), (0, (1, 19)), (1, (0, b)), (2, (0, p)), (3, (0, s))], [], w37) _
            refine e_Ok.ps0 (q := 20) 1 rfl ?_
            refine e_Ok.sub kAlk (e_sub_of rfl ?_) (ih3 (y4 - 1) w37 ⟨(show e_fr kFl w w37 from e_fr.up j4 hw37 (by first | exact Or.inl ⟨(by omega), (by omega)⟩ | (unfold kFl; omega))), hT40, (fun c k g => by rw [← hw37, e_up_ne _ _ (Or.inl g)]; exact j6 c k g), (fun j g1 g2 => by rw [← hw37, e_up_ne _ _ (Or.inr (by omega))]; exact j7 j g1 (by omega)), (fun j g1 g2 => by rw [← hw37]; by_cases e : j = y4; (rw [e, e_up_eq]); (rw [e_up_ne _ _ (Or.inr e)]; exact j8 j (by omega) g2)), by omega, by omega⟩ (by omega))
            exact ⟨rfl, rfl, rfl, rfl, rfl, trivial⟩
    refine e_Ok.sub kAlk (e_sub_of rfl ?_) (hL2 (32 + 1 : Int).toNat (w 35 b) w ⟨(e_fr.refl w), hT, (fun _ _ _ => rfl), (fun _ _ _ => rfl), (fun j g1 g2 => by omega), by omega, by omega⟩ (by omega))
    exact ⟨rfl, rfl, rfl, rfl, rfl, trivial⟩
  · replace h1 : (w 35 b : Int) ≥ 32 := Int.not_lt.mp (show ¬ ((w 35 b : Int) < 32) from h1)
    refine e_Ok.rets rfl rfl ?_
    exact ⟨rfl, (e_fr.refl w), hT, Or.inl ⟨by omega, rfl⟩⟩
theorem c_85 {d : Nat} (hd : 21 ≤ d) {w : eW} (hT : e_Has kTy w) {p x y : Int} (g_p : 0 ≤ p ∧ p ≤ 31) (g_x : (-2147483648) ≤ x ∧ x ≤ 2147483647) (g_y : (-2147483648) ≤ y ∧ y ≤ 2147483647) (hf : fK w) (hq0 : p < w 19 1) (hn : ∀ b i, 0 ≤ b → b < w 19 0 → 0 ≤ i → i < w 35 b → w (b + 31) i ≠ p) : e_Ok 20 elay kcode eI d 85 (0, [(0, (1, 19)), (1, (0, p)), (2, (0, x)), (3, (0, y))], [], w) (fun r w' => r = [] ∧ e_fr kFl w w' ∧ e_Has kTy w' ∧ (fK w' ∧ ∀ q, q ≠ p → w' 36 q = w 36 q)) := by
  obtain ⟨d, rfl⟩ : ∃ e, d = e + 1 := ⟨d - 1, by omega⟩
  have hB0 := e_Has.get hT (c := 19) (k := 0) (lo := 0) (hi := 4) (kt_o rfl) (by decide)
  have hM0 := e_Has.get hT (c := 19) (k := 1) (lo := 0) (hi := 32) (kt_o rfl) (by decide)
  refine e_Ok.run (t' := (3, [(4, (0, 0)), (0, (1, 19)), (1, (0, p)), (2, (0, x)), (3, (0, y))], [], w)) 2 rfl ?_
  have hL1 : ∀ (nn : Nat) (y4 : Int), 0 ≤ y4 ∧ y4 ≤ 4 → 4 - y4 < nn → e_Ok 20 elay kcode eI (d + 1) 85 (3, [(0, (1, 19)), (1, (0, p)), (2, (0, x)), (3, (0, y)), (4, (0, y4))], [], w) (fun r w' => r = [] ∧ e_fr kFl w w' ∧ e_Has kTy w' ∧ (fK w' ∧ ∀ q, q ≠ p → w' 36 q = w 36 q)) := by
    intro nn
    induction nn with
    | zero => intro y4 hj hm; obtain j3 := hj; exfalso; omega
    | succ nn ih2 =>
      intro y4 hj hm
      obtain j3 := hj
      refine e_Ok.run (t' := (6, [(0, (1, 19)), (1, (0, p)), (2, (0, x)), (3, (0, y)), (4, (0, y4))], [(1, 19), (0, y4)], w)) 2 rfl ?_
      have h4 := (e_Has.get hT (c := 19) (k := 0) (lo := 0) (hi := 4) (kt_o rfl) (by decide))
      refine e_Ok.getf (z := w 19 0) rfl (el_o rfl) rfl rfl rfl (e_bq h4 (by decide) (by decide)) ?_
      refine e_Ok.if2 rfl (fun h5 => ?_) (fun h5 => ?_)
      · replace h5 : (y4 : Int) ≥ w 19 0 := h5
        refine e_Ok.ps4 (x := (0, y)) (y := (0, x)) (z := (0, p)) (u := (1, 19)) (q := 131) 4 rfl ?_
        refine e_Ok.callV rfl (e_dq hd rfl) rfl rfl rfl rfl (c_79 hT (by omega) (by omega) (by omega)) (fun r6 w7 h8 => ?_)
        obtain ⟨rfl, q9f, q9T, q9x⟩ := h8
        refine e_Ok.nrm (q := 134) (st' := []) rfl rfl ?_
        refine e_Ok.rets rfl rfl ?_
        exact ⟨rfl, (show e_fr kFl w w7 from e_fr.trans (e_fr.refl w) (e_fr.mono q9f (fun c k q => by exact q))), q9T, (by obtain ⟨_, u1, u2, rfl, k1, k2, k3⟩ := q9x; exact fK.lie hf (by omega) (by unfold kn1; omega) (by unfold kn1; omega) hn k1 k2 k3)⟩
      · replace h5 : (y4 : Int) < w 19 0 := Int.not_le.mp (show ¬ ((y4 : Int) ≥ w 19 0) from h5)
        refine e_Ok.ps2 (x := (1, 19)) (y := (0, x)) (q := 14) 2 rfl ?_
        refine e_Ok.getr (z := 25) rfl (el_o rfl) rfl rfl (e_Has.eq hT (kt_o rfl)) ⟨by decide, by decide⟩ ?_
        refine e_Ok.ps1 (x := (0, y4)) (q := 19) 1 rfl ?_
        have h11 := (e_Has.get hT (c := 25) (k := y4) (lo := (-2147483648)) (hi := 2147483647) (kt_o rfl) (by decide))
        refine e_Ok.ald (z := w 25 y4) rfl (el_o rfl) rfl (by omega) rfl (e_bq h11 (by decide) (by decide)) ?_
        refine e_Ok.any rfl (eF_sub_any _ _) (fun z12 z12a z12b => ?_)
        refine e_Ok.run (t' := (25, [(5, (0, z12)), (0, (1, 19)), (1, (0, p)), (2, (0, x)), (3, (0, y)), (4, (0, y4))], [(1, 19), (0, y)], w)) 3 rfl ?_
        refine e_Ok.getr (z := 26) rfl (el_o rfl) rfl rfl (e_Has.eq hT (kt_o rfl)) ⟨by decide, by decide⟩ ?_
        refine e_Ok.ps1 (x := (0, y4)) (q := 30) 1 rfl ?_
        have h13 := (e_Has.get hT (c := 26) (k := y4) (lo := (-2147483648)) (hi := 2147483647) (kt_o rfl) (by decide))
        refine e_Ok.ald (z := w 26 y4) rfl (el_o rfl) rfl (by omega) rfl (e_bq h13 (by decide) (by decide)) ?_
        refine e_Ok.any rfl (eF_sub_any _ _) (fun z14 z14a z14b => ?_)
        refine e_Ok.run (t' := (37, [(6, (0, z14)), (5, (0, z12)), (0, (1, 19)), (1, (0, p)), (2, (0, x)), (3, (0, y)), (4, (0, y4))], [(1, 19), (0, z12)], w)) 3 rfl ?_
        refine e_Ok.getr (z := 27) rfl (el_o rfl) rfl rfl (e_Has.eq hT (kt_o rfl)) ⟨by decide, by decide⟩ ?_
        refine e_Ok.ps1 (x := (0, y4)) (q := 42) 1 rfl ?_
        have h15 := (e_Has.get hT (c := 27) (k := y4) (lo := (-2147483648)) (hi := 2147483647) (kt_o rfl) (by decide))
        refine e_Ok.ald (z := w 27 y4) rfl (el_o rfl) rfl (by omega) rfl (e_bq h15 (by decide) (by decide)) ?_
        refine e_Ok.any rfl (eF_mul_any _ _) (fun z16 z16a z16b => ?_)
        refine e_Ok.ps2 (x := (1, 19)) (y := (0, z14)) (q := 47) 2 rfl ?_
        refine e_Ok.getr (z := 28) rfl (el_o rfl) rfl rfl (e_Has.eq hT (kt_o rfl)) ⟨by decide, by decide⟩ ?_
        refine e_Ok.ps1 (x := (0, y4)) (q := 52) 1 rfl ?_
        have h17 := (e_Has.get hT (c := 28) (k := y4) (lo := (-2147483648)) (hi := 2147483647) (kt_o rfl) (by decide))
        refine e_Ok.ald (z := w 28 y4) rfl (el_o rfl) rfl (by omega) rfl (e_bq h17 (by decide) (by decide)) ?_
        refine e_Ok.any rfl (eF_mul_any _ _) (fun z18 z18a z18b => ?_)
        refine e_Ok.any rfl (eF_add_any _ _) (fun z19 z19a z19b => ?_)
        refine e_Ok.run (t' := (60, [(7, (0, z19)), (6, (0, z14)), (5, (0, z12)), (0, (1, 19)), (1, (0, p)), (2, (0, x)), (3, (0, y)), (4, (0, y4))], [(1, 19), (0, z12)], w)) 3 rfl ?_
        refine e_Ok.getr (z := 28) rfl (el_o rfl) rfl rfl (e_Has.eq hT (kt_o rfl)) ⟨by decide, by decide⟩ ?_
        refine e_Ok.ps1 (x := (0, y4)) (q := 65) 1 rfl ?_
        refine e_Ok.ald (z := w 28 y4) rfl (el_o rfl) rfl (by omega) rfl (by omega) ?_
        refine e_Ok.any rfl (eF_mul_any _ _) (fun z20 z20a z20b => ?_)
        refine e_Ok.ps2 (x := (1, 19)) (y := (0, z14)) (q := 70) 2 rfl ?_
        refine e_Ok.getr (z := 27) rfl (el_o rfl) rfl rfl (e_Has.eq hT (kt_o rfl)) ⟨by decide, by decide⟩ ?_
        refine e_Ok.ps1 (x := (0, y4)) (q := 75) 1 rfl ?_
        refine e_Ok.ald (z := w 27 y4) rfl (el_o rfl) rfl (by omega) rfl (by omega) ?_
        refine e_Ok.any rfl (eF_mul_any _ _) (fun z21 z21a z21b => ?_)
        refine e_Ok.any rfl (eF_sub_any _ _) (fun z22 z22a z22b => ?_)
        refine e_Ok.mabs rfl rfl (by omega) (fun z23 z23r hz23 => ?_)
        replace hz23 : (0 ≤ z22 → z23 = z22) ∧ (z22 < 0 → -2147483647 ≤ z22 → z23 = -z22) := hz23
        refine e_Ok.run (t' := (87, [(8, (0, z23)), (7, (0, z19)), (6, (0, z14)), (5, (0, z12)), (0, (1, 19)), (1, (0, p)), (2, (0, x)), (3, (0, y)), (4, (0, y4))], [(1, 19), (0, 0), (0, z19)], w)) 4 rfl ?_
        refine e_Ok.getr (z := 20) rfl (el_o rfl) rfl rfl (e_Has.eq hT (kt_o rfl)) ⟨by decide, by decide⟩ ?_
        refine e_Ok.ps1 (x := (0, y4)) (q := 92) 1 rfl ?_
        have h24 := (e_Has.get hT (c := 20) (k := y4) (lo := (-2147483648)) (hi := 2147483647) (kt_o rfl) (by decide))
        refine e_Ok.ald (z := w 20 y4) rfl (el_o rfl) rfl (by omega) rfl (e_bq h24 (by decide) (by decide)) ?_
        refine e_Ok.callS rfl (e_dq hd rfl) rfl rfl (c_242 (by omega) (by omega) (by omega)) (fun r25 w26 h27 => ?_)
        obtain ⟨z28, rfl, rfl, q29⟩ := h27
        obtain ⟨rfl, q29⟩ | ⟨rfl, q29⟩ := q29
        · refine e_Ok.nrm (q := 96) (st' := [(0, 1)]) rfl rfl ?_
          refine e_Ok.if1 rfl (fun h30 => ?_) (fun h30 => ?_)
          · replace h30 : (1 : Int) = 0 := h30
            exfalso; omega
          · replace h30 : (1 : Int) ≠ 0 := (show ¬ ((1 : Int) = 0) from h30)
            refine e_Ok.ps2 (x := (1, 19)) (y := (0, z23)) (q := 102) 2 rfl ?_
            refine e_Ok.getr (z := 29) rfl (el_o rfl) rfl rfl (e_Has.eq hT (kt_o rfl)) ⟨by decide, by decide⟩ ?_
            refine e_Ok.ps1 (x := (0, y4)) (q := 107) 1 rfl ?_
            have h31 := (e_Has.get hT (c := 29) (k := y4) (lo := (-2147483648)) (hi := 2147483647) (kt_o rfl) (by decide))
            refine e_Ok.ald (z := w 29 y4) rfl (el_o rfl) rfl (by omega) rfl (e_bq h31 (by decide) (by decide)) ?_
            refine e_Ok.if2 rfl (fun h32 => ?_) (fun h32 => ?_)
            · replace h32 : (z23 : Int) > w 29 y4 := h32
              refine e_Ok.inc (z := y4 + 1) rfl rfl (by first | with_reducible rfl | omega) (by omega) ?_
              show e_Ok 20 elay kcode eI (d + 1) 85 (124, [(4, (0, y4 + 1)), (8, (0, z23)), (7, (0, z19)), (6, (0, z14)), (5, (0, z12)), (0, (1, 19)), (1, (0, p)), (2, (0, x)), (3, (0, y))], [], w) _
              refine e_Ok.ps0 (q := 3) 1 rfl ?_
              refine e_Ok.sub kAlk (e_sub_of rfl ?_) (ih2 (y4 + 1) (by omega) (by omega))
              exact ⟨rfl, rfl, rfl, rfl, rfl, trivial⟩
            · replace h32 : (z23 : Int) ≤ w 29 y4 := Int.not_lt.mp (show ¬ ((z23 : Int) > w 29 y4) from h32)
              refine e_Ok.ps4 (x := (0, z19)) (y := (0, p)) (z := (0, y4)) (u := (1, 19)) (q := 117) 4 rfl ?_
              refine e_Ok.callV rfl (e_dq hd rfl) rfl rfl rfl rfl (c_80 hT (by omega) (by omega) (by omega) ⟨(hf.1 y4 (by omega) (by omega)).1, fun i g1 g2 => ⟨by have := hf.ord (b := y4) (i := i) (by omega) (by omega); omega, hf.way (by omega) (by omega) (by omega)⟩⟩) (fun r33 w34 h35 => ?_)
              obtain ⟨rfl, q36f, q36T, q36x⟩ := h35
              refine e_Ok.nrm (q := 120) (st' := []) rfl rfl ?_
              refine e_Ok.rets rfl rfl ?_
              exact ⟨rfl, (show e_fr kFl w w34 from e_fr.trans (e_fr.refl w) (e_fr.mono q36f (fun c k q => by exact q))), q36T, (fK.come hf (by omega) (by omega) (by omega) (by unfold kn1; omega) hn q36x)⟩
        · refine e_Ok.nrm (q := 96) (st' := [(0, 0)]) rfl rfl ?_
          refine e_Ok.if1 rfl (fun h38 => ?_) (fun h38 => ?_)
          · replace h38 : (0 : Int) = 0 := h38
            refine e_Ok.inc (z := y4 + 1) rfl rfl (by first | with_reducible rfl | omega) (by omega) ?_
            show e_Ok 20 elay kcode eI (d + 1) 85 (124, [(4, (0, y4 + 1)), (8, (0, z23)), (7, (0, z19)), (6, (0, z14)), (5, (0, z12)), (0, (1, 19)), (1, (0, p)), (2, (0, x)), (3, (0, y))], [], w) _
            refine e_Ok.ps0 (q := 3) 1 rfl ?_
            refine e_Ok.sub kAlk (e_sub_of rfl ?_) (ih2 (y4 + 1) (by omega) (by omega))
            exact ⟨rfl, rfl, rfl, rfl, rfl, trivial⟩
          · replace h38 : (0 : Int) ≠ 0 := (show ¬ ((0 : Int) = 0) from h38)
            exfalso; omega
  refine e_Ok.sub kAlk (e_sub_of rfl ?_) (hL1 (4 + 1 : Int).toNat 0 (by omega) (by omega))
  exact ⟨rfl, rfl, rfl, rfl, rfl, trivial⟩
theorem no_c4_2 {k : Int} : ¬ kWy 19 k := by unfold kWy; omega
theorem no_c4_3 {k : Int} : ¬ kWy 35 k := by unfold kWy; omega
theorem no_c4_4 {k : Int} : ¬ kWy 30 k := by unfold kWy; omega
theorem no_c4_5 {k : Int} : ¬ kWy 21 k := by unfold kWy; omega
theorem no_c4_6 {k : Int} : ¬ kWy 20 k := by unfold kWy; omega
theorem no_c4_7 {k : Int} : ¬ kWy 38 k := by unfold kWy; omega
theorem c_86 {d : Nat} {w : eW} (hT : e_Has kTy w) {b : Int} (g_b : 0 ≤ b ∧ b ≤ 3) (hf : fK w) (hb : b < w 19 0) : e_Ok 20 elay kcode eI d 86 (0, [(0, (1, 19)), (1, (0, b))], [], w) (fun r w' => r = [] ∧ e_fr kWy w w' ∧ e_Has kTy w' ∧ (∀ q, kn1 (w 37 q) → kn1 (w' 37 q))) := by
  have hB0 := e_Has.get hT (c := 19) (k := 0) (lo := 0) (hi := 4) (kt_o rfl) (by decide)
  have hM0 := e_Has.get hT (c := 19) (k := 1) (lo := 0) (hi := 32) (kt_o rfl) (by decide)
  have hO := (hf.1 b (by omega) hb).1
  refine e_Ok.run (t' := (2, [(2, (0, 0)), (0, (1, 19)), (1, (0, b))], [], w)) 2 rfl ?_
  have hL1 : ∀ (nn : Nat) (y2 : Int) (v1 : eW), e_fr kWy w v1 ∧ e_Has kTy v1 ∧ (∀ q, kn1 (w 37 q) → kn1 (v1 37 q)) ∧ (0 ≤ y2 ∧ y2 ≤ 32) → 32 - y2 < nn → e_Ok 20 elay kcode eI d 86 (2, [(0, (1, 19)), (1, (0, b)), (2, (0, y2))], [], v1) (fun r w' => r = [] ∧ e_fr kWy w w' ∧ e_Has kTy w' ∧ (∀ q, kn1 (w 37 q) → kn1 (w' 37 q))) := by
    intro nn
    induction nn with
    | zero => intro y2 v1 hj hm; obtain ⟨j3, j4, j5, j6⟩ := hj; exfalso; omega
    | succ nn ih2 =>
      intro y2 v1 hj hm
      obtain ⟨j3, j4, j5, j6⟩ := hj
      have e35 : v1 35 b = w 35 b := j3 _ _ (by unfold kWy; omega)
      refine e_Ok.run (t' := (4, [(0, (1, 19)), (1, (0, b)), (2, (0, y2))], [(1, 19), (0, y2)], v1)) 2 rfl ?_
      refine e_Ok.getr (z := 35) rfl (el_o rfl) rfl rfl ((j3 19 13 no_c4_2).trans (e_Has.eq hT (kt_o rfl))) ⟨by decide, by decide⟩ ?_
      refine e_Ok.ps1 (x := (0, b)) (q := 8) 1 rfl ?_
      refine e_Ok.ald (z := w 35 b) rfl (el_o rfl) rfl (by omega) ((j3 35 b no_c4_3).trans rfl) (by omega) ?_
      refine e_Ok.if2 rfl (fun h7 => ?_) (fun h7 => ?_)
      · replace h7 : (y2 : Int) ≥ w 35 b := h7
        refine e_Ok.rets rfl rfl ?_
        exact ⟨rfl, j3, j4, j5⟩
      · replace h7 : (y2 : Int) < w 35 b := Int.not_le.mp (show ¬ ((y2 : Int) ≥ w 35 b) from h7)
        have hq0 := hf.ord (b := b) (i := y2) (by omega) (by omega)
        have hk0 : kn1 (v1 37 (w (b + 31) y2)) := j5 _ (hf.way (by omega) (by omega) (by omega))
        unfold kn1 at hk0
        have eo0 : v1 (b + 31) y2 = w (b + 31) y2 := j3 _ _ (by unfold kWy; omega)
        refine e_Ok.ps1 (x := (1, 19)) (q := 13) 1 rfl ?_
        refine e_Ok.getr (z := 30) rfl (el_o rfl) rfl rfl ((j3 19 12 no_c4_2).trans (e_Has.eq hT (kt_o rfl))) ⟨by decide, by decide⟩ ?_
        refine e_Ok.ps1 (x := (0, b)) (q := 17) 1 rfl ?_
        refine e_Ok.aald (z := b + 31) rfl (el_o rfl) rfl (by omega) ((j3 30 b no_c4_4).trans (Eq.trans (e_Has.eq hT (k30 (by omega))) (by omega))) (by omega) ?_
        refine e_Ok.ps1 (x := (0, y2)) (q := 19) 1 rfl ?_
        refine e_Ok.ald (z := w (b + 31) y2) rfl (lO (b := b) (by omega) (by omega)) rfl (by omega) ((j3 (b + 31) y2 (by unfold kWy; omega)).trans rfl) (by omega) ?_
        refine e_Ok.run (t' := (22, [(3, (0, w (b + 31) y2)), (0, (1, 19)), (1, (0, b)), (2, (0, y2))], [(1, 19)], v1)) 2 rfl ?_
        refine e_Ok.getr (z := 37) rfl (el_o rfl) rfl rfl ((j3 19 15 no_c4_2).trans (e_Has.eq hT (kt_o rfl))) ⟨by decide, by decide⟩ ?_
        refine e_Ok.ps1 (x := (0, w (b + 31) y2)) (q := 26) 1 rfl ?_
        refine e_Ok.ald (z := v1 37 (w (b + 31) y2)) rfl rfl rfl (by omega) rfl (by omega) ?_
        refine e_Ok.ps1 (x := (1, 19)) (q := 28) 1 rfl ?_
        refine e_Ok.getr (z := 21) rfl (el_o rfl) rfl rfl ((j3 19 3 no_c4_2).trans (e_Has.eq hT (kt_o rfl))) ⟨by decide, by decide⟩ ?_
        refine e_Ok.ps1 (x := (0, b)) (q := 32) 1 rfl ?_
        have h8 := (e_Has.get hT (c := 21) (k := b) (lo := (-2147483648)) (hi := 2147483647) (kt_o rfl) (by decide))
        refine e_Ok.ald (z := w 21 b) rfl (el_o rfl) rfl (by omega) ((j3 21 b no_c4_5).trans rfl) (e_bq h8 (by decide) (by decide)) ?_
        refine e_Ok.any rfl (eF_add_any _ _) (fun z9 z9a z9b => ?_)
        refine e_Ok.ps1 (x := (1, 19)) (q := 35) 1 rfl ?_
        refine e_Ok.getr (z := 20) rfl (el_o rfl) rfl rfl ((j3 19 2 no_c4_2).trans (e_Has.eq hT (kt_o rfl))) ⟨by decide, by decide⟩ ?_
        refine e_Ok.ps1 (x := (0, b)) (q := 39) 1 rfl ?_
        have h10 := (e_Has.get hT (c := 20) (k := b) (lo := (-2147483648)) (hi := 2147483647) (kt_o rfl) (by decide))
        refine e_Ok.ald (z := w 20 b) rfl (el_o rfl) rfl (by omega) ((j3 20 b no_c4_6).trans rfl) (e_bq h10 (by decide) (by decide)) ?_
        refine e_Ok.mmin rfl rfl (fun z11 hz11 => ?_)
        replace hz11 : ((w 20 b) < z9 ∧ z11 = w 20 b) ∨ (z9 ≤ w 20 b ∧ z11 = z9) := hz11
        refine e_Ok.run (t' := (46, [(4, (0, z11)), (3, (0, w (b + 31) y2)), (0, (1, 19)), (1, (0, b)), (2, (0, y2))], [(0, y2)], v1)) 2 rfl ?_
        refine e_Ok.if1 rfl (fun h12 => ?_) (fun h12 => ?_)
        · replace h12 : (y2 : Int) ≤ 0 := h12
          refine e_Ok.ps1 (x := (1, 19)) (q := 91) 1 rfl ?_
          refine e_Ok.getr (z := 37) rfl (el_o rfl) rfl rfl ((j3 19 15 no_c4_2).trans (e_Has.eq hT (kt_o rfl))) ⟨by decide, by decide⟩ ?_
          refine e_Ok.ps2 (x := (1, 19)) (y := (0, w (b + 31) y2)) (q := 96) 2 rfl ?_
          refine e_Ok.getr (z := 37) rfl (el_o rfl) rfl rfl ((j3 19 15 no_c4_2).trans (e_Has.eq hT (kt_o rfl))) ⟨by decide, by decide⟩ ?_
          refine e_Ok.ps1 (x := (0, w (b + 31) y2)) (q := 100) 1 rfl ?_
          refine e_Ok.ald (z := v1 37 (w (b + 31) y2)) rfl rfl rfl (by omega) rfl (by omega) ?_
          refine e_Ok.ps1 (x := (0, z11)) (q := 103) 1 rfl ?_
          refine e_Ok.mmax rfl rfl (fun z13 hz13 => ?_)
          replace hz13 : ((v1 37 (w (b + 31) y2)) < z11 ∧ z13 = z11) ∨ (z11 ≤ v1 37 (w (b + 31) y2) ∧ z13 = v1 37 (w (b + 31) y2)) := hz13
          refine e_Ok.ast rfl (el_o rfl) rfl rfl (by omega) ?_
          generalize hw14 : e_up v1 37 (w (b + 31) y2) z13 = w14
          have hT16 : e_Has kTy w14 := e_Has.ups j4 hw14 rfl
          refine e_Ok.inc (z := y2 + 1) rfl rfl (by first | with_reducible rfl | omega) (by omega) ?_
          show e_Ok 20 elay kcode eI d 86 (110, [(2, (0, y2 + 1)), (4, (0, z11)), (3, (0, w (b + 31) y2)), (0, (1, 19)), (1, (0, b))], [], w14) _
          refine e_Ok.ps0 (q := 2) 1 rfl ?_
          refine e_Ok.sub kAlk (e_sub_of rfl ?_) (ih2 (y2 + 1) w14 ⟨(show e_fr kWy w w14 from e_fr.up j3 hw14 (by first | exact rfl | (unfold kWy; omega))), hT16, (fun q g => by rw [← hw14]; by_cases e : q = w (b + 31) y2; (rw [e, e_up_eq]; unfold kn1; omega); (rw [e_up_ne _ _ (Or.inr e)]; exact j5 q g)), by omega⟩ (by omega))
          exact ⟨rfl, rfl, rfl, trivial⟩
        · replace h12 : (y2 : Int) > 0 := Int.not_le.mp (show ¬ ((y2 : Int) ≤ 0) from h12)
          have hq1 := hf.ord (b := b) (i := y2 - 1) (by omega) (by omega)
          have hk1 : kn1 (v1 37 (w (b + 31) (y2 - 1))) := j5 _ (hf.way (by omega) (by omega) (by omega))
          unfold kn1 at hk1
          have eo1 : v1 (b + 31) (y2 - 1) = w (b + 31) (y2 - 1) := j3 _ _ (by unfold kWy; omega)
          refine e_Ok.ps1 (x := (1, 19)) (q := 50) 1 rfl ?_
          refine e_Ok.getr (z := 30) rfl (el_o rfl) rfl rfl ((j3 19 12 no_c4_2).trans (e_Has.eq hT (kt_o rfl))) ⟨by decide, by decide⟩ ?_
          refine e_Ok.ps1 (x := (0, b)) (q := 54) 1 rfl ?_
          refine e_Ok.aald (z := b + 31) rfl (el_o rfl) rfl (by omega) ((j3 30 b no_c4_4).trans (Eq.trans (e_Has.eq hT (k30 (by omega))) (by omega))) (by omega) ?_
          refine e_Ok.ps2 (x := (0, 1)) (y := (0, y2)) (q := 57) 2 rfl ?_
          refine e_Ok.sub' (z := y2 - 1) rfl rfl (by omega) ?_
          refine e_Ok.ald (z := w (b + 31) (y2 - 1)) rfl (lO (b := b) (by omega) (by omega)) rfl (by omega) ((j3 (b + 31) (y2 - 1) (by unfold kWy; omega)).trans rfl) (by omega) ?_
          refine e_Ok.run (t' := (64, [(5, (0, w (b + 31) (y2 - 1))), (4, (0, z11)), (3, (0, w (b + 31) y2)), (0, (1, 19)), (1, (0, b)), (2, (0, y2))], [(1, 19), (0, z11)], v1)) 3 rfl ?_
          refine e_Ok.getr (z := 37) rfl (el_o rfl) rfl rfl ((j3 19 15 no_c4_2).trans (e_Has.eq hT (kt_o rfl))) ⟨by decide, by decide⟩ ?_
          refine e_Ok.ps1 (x := (0, w (b + 31) (y2 - 1))) (q := 69) 1 rfl ?_
          refine e_Ok.ald (z := v1 37 (w (b + 31) (y2 - 1))) rfl rfl rfl (by omega) rfl (by omega) ?_
          refine e_Ok.ps1 (x := (1, 19)) (q := 71) 1 rfl ?_
          refine e_Ok.getr (z := 38) rfl (el_o rfl) rfl rfl ((j3 19 16 no_c4_2).trans (e_Has.eq hT (kt_o rfl))) ⟨by decide, by decide⟩ ?_
          refine e_Ok.ps1 (x := (0, w (b + 31) (y2 - 1))) (q := 76) 1 rfl ?_
          have h17 := (e_Has.get hT (c := 38) (k := w (b + 31) (y2 - 1)) (lo := (-2147483648)) (hi := 2147483647) rfl (by decide))
          refine e_Ok.ald (z := w 38 (w (b + 31) (y2 - 1))) rfl rfl rfl (by omega) ((j3 38 (w (b + 31) (y2 - 1)) no_c4_7).trans rfl) (e_bq h17 (by decide) (by decide)) ?_
          refine e_Ok.any rfl (eF_sub_any _ _) (fun z18 z18a z18b => ?_)
          refine e_Ok.ps1 (x := (1, 19)) (q := 79) 1 rfl ?_
          refine e_Ok.getr (z := 38) rfl (el_o rfl) rfl rfl ((j3 19 16 no_c4_2).trans (e_Has.eq hT (kt_o rfl))) ⟨by decide, by decide⟩ ?_
          refine e_Ok.ps1 (x := (0, w (b + 31) y2)) (q := 83) 1 rfl ?_
          have h19 := (e_Has.get hT (c := 38) (k := w (b + 31) y2) (lo := (-2147483648)) (hi := 2147483647) rfl (by decide))
          refine e_Ok.ald (z := w 38 (w (b + 31) y2)) rfl rfl rfl (by omega) ((j3 38 (w (b + 31) y2) no_c4_7).trans rfl) (e_bq h19 (by decide) (by decide)) ?_
          refine e_Ok.any rfl (eF_sub_any _ _) (fun z20 z20a z20b => ?_)
          refine e_Ok.mmin rfl rfl (fun z21 hz21 => ?_)
          replace hz21 : (z20 < z11 ∧ z21 = z20) ∨ (z11 ≤ z20 ∧ z21 = z11) := hz21
          refine e_Ok.run (t' := (91, [(4, (0, z21)), (5, (0, w (b + 31) (y2 - 1))), (3, (0, w (b + 31) y2)), (0, (1, 19)), (1, (0, b)), (2, (0, y2))], [(1, 19)], v1)) 2 rfl ?_
          refine e_Ok.getr (z := 37) rfl (el_o rfl) rfl rfl ((j3 19 15 no_c4_2).trans (e_Has.eq hT (kt_o rfl))) ⟨by decide, by decide⟩ ?_
          refine e_Ok.ps2 (x := (1, 19)) (y := (0, w (b + 31) y2)) (q := 96) 2 rfl ?_
          refine e_Ok.getr (z := 37) rfl (el_o rfl) rfl rfl ((j3 19 15 no_c4_2).trans (e_Has.eq hT (kt_o rfl))) ⟨by decide, by decide⟩ ?_
          refine e_Ok.ps1 (x := (0, w (b + 31) y2)) (q := 100) 1 rfl ?_
          refine e_Ok.ald (z := v1 37 (w (b + 31) y2)) rfl rfl rfl (by omega) rfl (by omega) ?_
          refine e_Ok.ps1 (x := (0, z21)) (q := 103) 1 rfl ?_
          refine e_Ok.mmax rfl rfl (fun z22 hz22 => ?_)
          replace hz22 : ((v1 37 (w (b + 31) y2)) < z21 ∧ z22 = z21) ∨ (z21 ≤ v1 37 (w (b + 31) y2) ∧ z22 = v1 37 (w (b + 31) y2)) := hz22
          refine e_Ok.ast rfl (el_o rfl) rfl rfl (by omega) ?_
          generalize hw23 : e_up v1 37 (w (b + 31) y2) z22 = w23
          have hT25 : e_Has kTy w23 := e_Has.ups j4 hw23 rfl
          refine e_Ok.inc (z := y2 + 1) rfl rfl (by first | with_reducible rfl | omega) (by omega) ?_
          show e_Ok 20 elay kcode eI d 86 (110, [(2, (0, y2 + 1)), (4, (0, z21)), (5, (0, w (b + 31) (y2 - 1))), (3, (0, w (b + 31) y2)), (0, (1, 19)), (1, (0, b))], [], w23) _
          refine e_Ok.ps0 (q := 2) 1 rfl ?_
          refine e_Ok.sub kAlk (e_sub_of rfl ?_) (ih2 (y2 + 1) w23 ⟨(show e_fr kWy w w23 from e_fr.up j3 hw23 (by first | exact rfl | (unfold kWy; omega))), hT25, (fun q g => by rw [← hw23]; by_cases e : q = w (b + 31) y2; (rw [e, e_up_eq]; unfold kn1; omega); (rw [e_up_ne _ _ (Or.inr e)]; exact j5 q g)), by omega⟩ (by omega))
          exact ⟨rfl, rfl, rfl, trivial⟩
  refine e_Ok.sub kAlk (e_sub_of rfl ?_) (hL1 (32 + 1 : Int).toNat 0 w ⟨(e_fr.refl w), hT, (fun _ g => g), by omega⟩ (by omega))
  exact ⟨rfl, rfl, rfl, trivial⟩
theorem c_87 {d : Nat} (hd : 21 ≤ d) {w : eW} (hT : e_Has kTy w) {b : Int} (g_b : 0 ≤ b ∧ b ≤ 3) (hf : fK w) (hb : b < w 19 0) : e_Ok 20 elay kcode eI d 87 (0, [(0, (1, 19)), (1, (0, b))], [], w) (fun r w' => ∃ z : Int, r = [(0, z)] ∧ w = w' ∧ (0 ≤ z ∧ z ≤ 1)) := by
  obtain ⟨d, rfl⟩ : ∃ e, d = e + 1 := ⟨d - 1, by omega⟩
  have hB0 := e_Has.get hT (c := 19) (k := 0) (lo := 0) (hi := 4) (kt_o rfl) (by decide)
  have hM0 := e_Has.get hT (c := 19) (k := 1) (lo := 0) (hi := 32) (kt_o rfl) (by decide)
  have hO := (hf.1 b (by omega) hb).1
  refine e_Ok.run (t' := (2, [(2, (0, 0)), (0, (1, 19)), (1, (0, b))], [], w)) 2 rfl ?_
  have hL1 : ∀ (nn : Nat) (y2 : Int), 0 ≤ y2 ∧ y2 ≤ 32 → 32 - y2 < nn → e_Ok 20 elay kcode eI (d + 1) 87 (2, [(0, (1, 19)), (1, (0, b)), (2, (0, y2))], [], w) (fun r w' => ∃ z : Int, r = [(0, z)] ∧ w = w' ∧ (0 ≤ z ∧ z ≤ 1)) := by
    intro nn
    induction nn with
    | zero => intro y2 hj hm; obtain j3 := hj; exfalso; omega
    | succ nn ih2 =>
      intro y2 hj hm
      obtain j3 := hj
      refine e_Ok.run (t' := (4, [(0, (1, 19)), (1, (0, b)), (2, (0, y2))], [(1, 19), (0, y2)], w)) 2 rfl ?_
      refine e_Ok.getr (z := 35) rfl (el_o rfl) rfl rfl (e_Has.eq hT (kt_o rfl)) ⟨by decide, by decide⟩ ?_
      refine e_Ok.ps1 (x := (0, b)) (q := 8) 1 rfl ?_
      refine e_Ok.ald (z := w 35 b) rfl (el_o rfl) rfl (by omega) rfl (by omega) ?_
      refine e_Ok.if2 rfl (fun h4 => ?_) (fun h4 => ?_)
      · replace h4 : (y2 : Int) ≥ w 35 b := h4
        refine e_Ok.ps1 (x := (0, 0)) (q := 52) 1 rfl ?_
        refine e_Ok.rets rfl rfl ?_
        exact ⟨_, rfl, rfl, ⟨by omega, by omega⟩⟩
      · replace h4 : (y2 : Int) < w 35 b := Int.not_le.mp (show ¬ ((y2 : Int) ≥ w 35 b) from h4)
        have hq := hf.ord (b := b) (i := y2) (by omega) (by omega)
        have hk := hf.way (b := b) (i := y2) (by omega) (by omega) (by omega)
        refine e_Ok.ps1 (x := (1, 19)) (q := 13) 1 rfl ?_
        refine e_Ok.getr (z := 37) rfl (el_o rfl) rfl rfl (e_Has.eq hT (kt_o rfl)) ⟨by decide, by decide⟩ ?_
        refine e_Ok.ps1 (x := (1, 19)) (q := 17) 1 rfl ?_
        refine e_Ok.getr (z := 30) rfl (el_o rfl) rfl rfl (e_Has.eq hT (kt_o rfl)) ⟨by decide, by decide⟩ ?_
        refine e_Ok.ps1 (x := (0, b)) (q := 21) 1 rfl ?_
        refine e_Ok.aald (z := b + 31) rfl (el_o rfl) rfl (by omega) (Eq.trans (e_Has.eq hT (k30 (by omega))) (by omega)) (by omega) ?_
        refine e_Ok.ps1 (x := (0, y2)) (q := 23) 1 rfl ?_
        refine e_Ok.ald (z := w (b + 31) y2) rfl (lO (b := b) (by omega) (by omega)) rfl (by omega) rfl (by omega) ?_
        refine e_Ok.ald (z := w 37 (w (b + 31) y2)) rfl rfl rfl (by omega) rfl (by omega) ?_
        refine e_Ok.ps1 (x := (1, 19)) (q := 26) 1 rfl ?_
        refine e_Ok.getr (z := 23) rfl (el_o rfl) rfl rfl (e_Has.eq hT (kt_o rfl)) ⟨by decide, by decide⟩ ?_
        refine e_Ok.ps1 (x := (0, b)) (q := 30) 1 rfl ?_
        have h5 := (e_Has.get hT (c := 23) (k := b) (lo := (-2147483648)) (hi := 2147483647) (kt_o rfl) (by decide))
        refine e_Ok.ald (z := w 23 b) rfl (el_o rfl) rfl (by omega) rfl (e_bq h5 (by decide) (by decide)) ?_
        refine e_Ok.ps1 (x := (1, 19)) (q := 32) 1 rfl ?_
        refine e_Ok.getr (z := 24) rfl (el_o rfl) rfl rfl (e_Has.eq hT (kt_o rfl)) ⟨by decide, by decide⟩ ?_
        refine e_Ok.ps1 (x := (0, b)) (q := 36) 1 rfl ?_
        have h6 := (e_Has.get hT (c := 24) (k := b) (lo := (-2147483648)) (hi := 2147483647) (kt_o rfl) (by decide))
        refine e_Ok.ald (z := w 24 b) rfl (el_o rfl) rfl (by omega) rfl (e_bq h6 (by decide) (by decide)) ?_
        refine e_Ok.callS rfl (e_dq hd rfl) rfl rfl (c_242 (by omega) (by omega) (by omega)) (fun r7 w8 h9 => ?_)
        obtain ⟨z10, rfl, rfl, q11⟩ := h9
        obtain ⟨rfl, q11⟩ | ⟨rfl, q11⟩ := q11
        · refine e_Ok.nrm (q := 40) (st' := [(0, 1)]) rfl rfl ?_
          refine e_Ok.if1 rfl (fun h12 => ?_) (fun h12 => ?_)
          · replace h12 : (1 : Int) = 0 := h12
            exfalso; omega
          · replace h12 : (1 : Int) ≠ 0 := (show ¬ ((1 : Int) = 0) from h12)
            refine e_Ok.ps1 (x := (0, 1)) (q := 44) 1 rfl ?_
            refine e_Ok.rets rfl rfl ?_
            exact ⟨_, rfl, rfl, ⟨by omega, by omega⟩⟩
        · refine e_Ok.nrm (q := 40) (st' := [(0, 0)]) rfl rfl ?_
          refine e_Ok.if1 rfl (fun h13 => ?_) (fun h13 => ?_)
          · replace h13 : (0 : Int) = 0 := h13
            refine e_Ok.inc (z := y2 + 1) rfl rfl (by first | with_reducible rfl | omega) (by omega) ?_
            show e_Ok 20 elay kcode eI (d + 1) 87 (48, [(2, (0, y2 + 1)), (0, (1, 19)), (1, (0, b))], [], w) _
            refine e_Ok.ps0 (q := 2) 1 rfl ?_
            refine e_Ok.sub kAlk (e_sub_of rfl ?_) (ih2 (y2 + 1) (by omega) (by omega))
            exact ⟨rfl, rfl, rfl, trivial⟩
          · replace h13 : (0 : Int) ≠ 0 := (show ¬ ((0 : Int) = 0) from h13)
            exfalso; omega
  refine e_Ok.sub kAlk (e_sub_of rfl ?_) (hL1 (32 + 1 : Int).toNat 0 (by omega) (by omega))
  exact ⟨rfl, rfl, rfl, trivial⟩
end
end
-- part c5
section
noncomputable section
/-! shifts by a constant, and an or that adds -/
theorem e_shr32 {x : Int} (k : Nat) (hk : ((Int32.ofInt k &&& 31).toBitVec.smod 32).toNat = k) (hx : -2147483648 ≤ x ∧ x ≤ 2147483647) : (Int32.ofInt x >>> (Int32.ofInt k &&& 31)).toInt = x / 2 ^ k := by
  show ((Int32.ofInt x).toBitVec.sshiftRight ((Int32.ofInt k &&& 31).toBitVec.smod 32).toNat).toInt = _
  rw [hk, BitVec.toInt_sshiftRight, Int.shiftRight_eq_div_pow]
  have e : (Int32.ofInt x).toBitVec.toInt = x := by
    show (BitVec.ofInt 32 x).toInt = x
    rw [BitVec.toInt_ofInt]
    exact x_bmod hx.1 hx.2
  rw [e]
  norm_cast
theorem e_or32 {a b : Nat} (k : Nat) (hb : b < 2 ^ k) (hx : 2 ^ k * a + b < 2147483648) : (Int32.ofInt ((2 ^ k * a : Nat) : Int) ||| Int32.ofInt (b : Int)).toInt = ((2 ^ k * a + b : Nat) : Int) := by
  show ((BitVec.ofInt 32 ((2 ^ k * a : Nat) : Int)) ||| (BitVec.ofInt 32 (b : Int))).toInt = _
  rw [BitVec.ofInt_natCast, BitVec.ofInt_natCast]
  have e : (BitVec.ofNat 32 (2 ^ k * a) ||| BitVec.ofNat 32 b).toNat = 2 ^ k * a + b := by
    rw [BitVec.toNat_or, BitVec.toNat_ofNat, BitVec.toNat_ofNat, Nat.mod_eq_of_lt (by omega), Nat.mod_eq_of_lt (by omega), ← Nat.two_pow_add_eq_or_of_lt hb]
  rw [BitVec.toInt_eq_toNat_of_lt (by rw [e]; omega), e]
theorem e_shl32 {a : Nat} (k : Nat) (hk : ((Int32.ofInt k &&& 31).toBitVec.smod 32).toNat = k) (hx : a * 2 ^ k < 2147483648) : (Int32.ofInt (a : Int) <<< (Int32.ofInt k &&& 31)).toInt = ((a * 2 ^ k : Nat) : Int) := by
  show ((BitVec.ofInt 32 (a : Int)) <<< ((Int32.ofInt k &&& 31).toBitVec.smod 32)).toInt = _
  rw [BitVec.shiftLeft_eq', hk, BitVec.ofInt_natCast]
  have ha : a < 2147483648 := Nat.lt_of_le_of_lt (Nat.le_mul_of_pos_right a (Nat.pow_pos (by decide))) hx
  have e : (BitVec.ofNat 32 a <<< k).toNat = a * 2 ^ k := by
    rw [BitVec.toNat_shiftLeft, BitVec.toNat_ofNat, Nat.mod_eq_of_lt (show a < 2 ^ 32 by omega), Nat.shiftLeft_eq, Nat.mod_eq_of_lt (by omega)]
  rw [BitVec.toInt_eq_toNat_of_lt (by rw [e]; omega), e]
section K5
variable {fd : Nat} {lay : List eY} {code : Nat → Nat → eE} {I : Nat → xM} {d M nx a b p : Nat} {l : eL} {r : List eV} {w : eW} {Q : List eV → eW → Prop}
theorem e_Ok.shr6 {x : Int} (hc : code M p = (0, ei_bin (eB (fun x y => x >>> (y &&& 31))) nx, a, b)) (hx : -2147483648 ≤ x ∧ x ≤ 2147483647) (h : ∀ z, z = x / 64 → e_Ok fd lay code I d M (nx, l, (0, z) :: r, w) Q) : e_Ok fd lay code I d M (p, l, (0, 6) :: (0, x) :: r, w) Q := by
  refine e_Ok.step hc ?_ (h _ rfl)
  show some (nx, l, (0, (Int32.ofInt x >>> (Int32.ofInt 6 &&& 31)).toInt) :: r, w) = _
  rw [show (Int32.ofInt 6) = Int32.ofInt ((6 : Nat) : Int) from rfl, e_shr32 6 (by decide) hx]
  rfl
theorem e_Ok.shr2 {x : Int} (hc : code M p = (0, ei_bin (eB (fun x y => x >>> (y &&& 31))) nx, a, b)) (hx : -2147483648 ≤ x ∧ x ≤ 2147483647) (h : ∀ z, z = x / 4 → e_Ok fd lay code I d M (nx, l, (0, z) :: r, w) Q) : e_Ok fd lay code I d M (p, l, (0, 2) :: (0, x) :: r, w) Q := by
  refine e_Ok.step hc ?_ (h _ rfl)
  show some (nx, l, (0, (Int32.ofInt x >>> (Int32.ofInt 2 &&& 31)).toInt) :: r, w) = _
  rw [show (Int32.ofInt 2) = Int32.ofInt ((2 : Nat) : Int) from rfl, e_shr32 2 (by decide) hx]
  rfl
theorem e_Ok.shr16 {x : Int} (hc : code M p = (0, ei_bin (eB (fun x y => x >>> (y &&& 31))) nx, a, b)) (hx : -2147483648 ≤ x ∧ x ≤ 2147483647) (h : ∀ z, z = x / 65536 → e_Ok fd lay code I d M (nx, l, (0, z) :: r, w) Q) : e_Ok fd lay code I d M (p, l, (0, 16) :: (0, x) :: r, w) Q := by
  refine e_Ok.step hc ?_ (h _ rfl)
  show some (nx, l, (0, (Int32.ofInt x >>> (Int32.ofInt 16 &&& 31)).toInt) :: r, w) = _
  rw [show (Int32.ofInt 16) = Int32.ofInt ((16 : Nat) : Int) from rfl, e_shr32 16 (by decide) hx]
  rfl
theorem e_Ok.shl6 {x : Int} (hc : code M p = (0, ei_bin (eB (fun x y => x <<< (y &&& 31))) nx, a, b)) (hx : 0 ≤ x ∧ x < 33554432) (h : ∀ z, z = x * 64 → e_Ok fd lay code I d M (nx, l, (0, z) :: r, w) Q) : e_Ok fd lay code I d M (p, l, (0, 6) :: (0, x) :: r, w) Q := by
  refine e_Ok.step hc ?_ (h _ rfl)
  show some (nx, l, (0, (Int32.ofInt x <<< (Int32.ofInt 6 &&& 31)).toInt) :: r, w) = _
  obtain ⟨n, rfl⟩ : ∃ n : Nat, x = n := ⟨x.toNat, by omega⟩
  rw [show (Int32.ofInt 6) = Int32.ofInt ((6 : Nat) : Int) from rfl, e_shl32 6 (by decide) (by omega)]
  rfl
theorem e_Ok.shl2 {x : Int} (hc : code M p = (0, ei_bin (eB (fun x y => x <<< (y &&& 31))) nx, a, b)) (hx : 0 ≤ x ∧ x < 33554432) (h : ∀ z, z = x * 4 → e_Ok fd lay code I d M (nx, l, (0, z) :: r, w) Q) : e_Ok fd lay code I d M (p, l, (0, 2) :: (0, x) :: r, w) Q := by
  refine e_Ok.step hc ?_ (h _ rfl)
  show some (nx, l, (0, (Int32.ofInt x <<< (Int32.ofInt 2 &&& 31)).toInt) :: r, w) = _
  obtain ⟨n, rfl⟩ : ∃ n : Nat, x = n := ⟨x.toNat, by omega⟩
  rw [show (Int32.ofInt 2) = Int32.ofInt ((2 : Nat) : Int) from rfl, e_shl32 2 (by decide) (by omega)]
  rfl
/-- x is a multiple of 64, y is below -/
theorem e_Ok.or6 {x y : Int} (hc : code M p = (0, ei_bin (eB (fun x y => x ||| y)) nx, a, b)) (hx : 0 ≤ x ∧ x ≤ 2147483647 ∧ x % 64 = 0) (hy : 0 ≤ y ∧ y < 64) (h : ∀ z, z = x + y → e_Ok fd lay code I d M (nx, l, (0, z) :: r, w) Q) : e_Ok fd lay code I d M (p, l, (0, y) :: (0, x) :: r, w) Q := by
  refine e_Ok.step hc ?_ (h _ rfl)
  show some (nx, l, (0, (Int32.ofInt x ||| Int32.ofInt y).toInt) :: r, w) = _
  obtain ⟨m, rfl⟩ : ∃ m : Nat, x = ((2 ^ 6 * m : Nat) : Int) := ⟨(x / 64).toNat, by omega⟩
  obtain ⟨n, rfl⟩ : ∃ n : Nat, y = n := ⟨y.toNat, by omega⟩
  rw [e_or32 6 (by omega) (by omega)]
  rfl
/-- y is a multiple of 4, x is below -/
theorem e_Ok.or2 {x y : Int} (hc : code M p = (0, ei_bin (eB (fun x y => x ||| y)) nx, a, b)) (hy : 0 ≤ y ∧ y ≤ 2147483647 ∧ y % 4 = 0) (hx : 0 ≤ x ∧ x < 4) (h : ∀ z, z = x + y → e_Ok fd lay code I d M (nx, l, (0, z) :: r, w) Q) : e_Ok fd lay code I d M (p, l, (0, y) :: (0, x) :: r, w) Q := by
  refine e_Ok.step hc ?_ (h _ rfl)
  show some (nx, l, (0, (Int32.ofInt x ||| Int32.ofInt y).toInt) :: r, w) = _
  obtain ⟨m, rfl⟩ : ∃ m : Nat, y = ((2 ^ 2 * m : Nat) : Int) := ⟨(y / 4).toNat, by omega⟩
  obtain ⟨n, rfl⟩ : ∃ n : Nat, x = n := ⟨x.toNat, by omega⟩
  rw [show (Int32.ofInt (n : Int) ||| Int32.ofInt ((2 ^ 2 * m : Nat) : Int)) = (Int32.ofInt ((2 ^ 2 * m : Nat) : Int) ||| Int32.ofInt (n : Int)) from Int32.or_comm _ _, e_or32 2 (by omega) (by omega), Nat.add_comm]
  rfl
end K5
end
end
-- part c6
section
noncomputable section
/-! the class: instructions and tasks -/
def kTk (t : Int) (c k : Int) : Prop := 6 * t + 154 ≤ c ∧ c ≤ 6 * t + 159
def kLv (t : Int) (c k : Int) : Prop := (c = 6 * t + 154 ∧ (k = 3 ∨ k = 4 ∨ k = 6 ∨ k = 15)) ∨ c = 6 * t + 158 ∨ c = 6 * t + 159
def kEn (t : Int) (c k : Int) : Prop := (c = 6 * t + 154 ∧ (k = 3 ∨ k = 4)) ∨ c = 6 * t + 155 ∨ c = 6 * t + 156
def kOt (t : Int) (c k : Int) : Prop := (c = 6 * t + 154 ∧ k = 15) ∨ c = 6 * t + 157 ∨ c = 6 * t + 158
def kFi (t : Int) (c k : Int) : Prop := c = 6 * t + 154 ∧ (k = 1 ∨ k = 4 ∨ k = 15)
def kBg (t : Int) (c k : Int) : Prop := (c = 6 * t + 154 ∧ ((1 ≤ k ∧ k ≤ 7) ∨ k = 10 ∨ k = 11 ∨ k = 14 ∨ k = 15)) ∨ c = 6 * t + 155 ∨ c = 6 * t + 156
/-- the program at cd: what stands at a place, as op and operand -/
def kCd (w : eW) (cd : Int) (op od : Int → Int) : Prop := isCd cd ∧ ∀ p, (0 ≤ p → p < w cd 0 → 0 ≤ w (cd + 2) p ∧ op p = w (cd + 2) p % 64 ∧ od p = w (cd + 2) p / 64) ∧ (¬ (0 ≤ p ∧ p < w cd 0) → op p = 43 ∧ od p = 0)
theorem kCd.fr {S : Int → Int → Prop} {w w' : eW} {cd : Int} {op od : Int → Int} (f : e_fr S w w') (h1 : ¬ S cd 0) (h2 : ∀ k, ¬ S (cd + 2) k) (h : kCd w cd op od) : kCd w' cd op od := by
  refine ⟨h.1, fun p => ?_⟩
  rw [f _ _ h1, f _ _ (h2 p)]
  exact h.2 p
theorem kCd.op0 {w : eW} {cd : Int} {op od : Int → Int} (hT : e_Has kTy w) (h : kCd w cd op od) (p : Int) : (0 ≤ op p ∧ op p ≤ 63) ∧ (0 ≤ od p ∧ od p ≤ 33554431) := by
  have q := h.2 p
  by_cases g : 0 ≤ p ∧ p < w cd 0
  · have q1 := q.1 g.1 g.2
    have q2 := e_Has.get hT (c := cd + 2) (k := p) (lo := -2147483648) (hi := 2147483647) (kD2 (d := cd) p rfl h.1) (by decide)
    omega
  · have q1 := q.2 g
    omega
/-- how a program may go: targets, places behind, what a place asks -/
def cD (op od col : Int → Int) : Prop := 40 ≤ op 0 ∧ (∀ q, 40 ≤ op q → col q ≤ 0) ∧ ∀ p,
  (op p = 2 ∨ op p = 25 ∨ op p = 33 ∨ op p = 34 ∨ op p = 39 → od p ≤ 31) ∧
  (op p = 40 ∨ op p = 41 ∨ op p = 49 → 40 ≤ op (od p)) ∧
  (op p = 41 ∨ (45 ≤ op p ∧ op p ≠ 50) ∨ (25 ≤ op p ∧ op p ≤ 39 ∧ op p ≠ 26) → 40 ≤ op (p + 1)) ∧
  (op p = 46 → op (p + 1) = 49 ∧ op (p + 2) = 49 ∧ op (p + 3) = 49) ∧
  (op p = 44 → op (od p + 1) = 49) ∧
  (op p ≤ 24 ∨ op p = 50 → col (p + 1) ≤ col p) ∧
  (op p = 12 ∨ op p = 13 → col (od p) ≤ col p) ∧
  (op p = 26 → col (p + 1) ≤ col p + 1 ∧ od p = col p) ∧
  (op p = 27 → od p ≤ col p) ∧
  (op p = 29 → col (od p) ≤ 0)
/-- a task's calls and tries -/
def tS (w : eW) (c : Int) (op : Int → Int) (H : Int) : Prop :=
  (0 ≤ w c 15 ∧ w c 15 ≤ H ∧ H ≤ 600) ∧
  (∀ i, 0 ≤ i → i < w c 4 → (-2147483648 ≤ w (c + 1) i ∧ w (c + 1) i ≤ 2147483647) ∧ (0 < i → 40 ≤ op (w (c + 1) i)) ∧ 0 ≤ w (c + 2) i ∧ w (c + 2) i ≤ H) ∧
  (∀ i, 0 ≤ i → i < H → ((0 ≤ w (c + 3) i ∧ w (c + 3) i ≤ 3999) ∧ op (w (c + 3) i + 1) = 49 ∧ op (w (c + 3) i + 2) = 49 ∧ op (w (c + 3) i + 3) = 49) ∧ ((0 ≤ w (c + 4) i ∧ w (c + 4) i ≤ 15) ∧ (4 ≤ w (c + 4) i → w (c + 4) i % 4 = 2)) ∧ (4 ≤ w (c + 4) i → (-2147483648 ≤ w (c + 5) i ∧ w (c + 5) i ≤ 2147483647) ∧ (12 ≤ w (c + 4) i → op (w (c + 5) i + 1) = 49)))
def tSx (w : eW) (c : Int) (op : Int → Int) : Prop := ∃ H, tS w c op H
theorem tS.fr {S : Int → Int → Prop} {w w' : eW} {c H : Int} {op : Int → Int} (f : e_fr S w w') (h1 : ¬ S c 15 ∧ ¬ S c 4) (h2 : ∀ d k, c + 1 ≤ d → d ≤ c + 5 → ¬ S d k) (h : tS w c op H) : tS w' c op H := by
  have e : ∀ d k, c + 1 ≤ d → d ≤ c + 5 → w' d k = w d k := fun d k g1 g2 => f _ _ (h2 d k g1 g2)
  unfold tS at h ⊢
  rw [f _ _ h1.1, f _ _ h1.2]
  refine ⟨h.1, fun i g1 g2 => ?_, fun i g1 g2 => ?_⟩
  · rw [e _ _ (by omega) (by omega), e _ _ (by omega) (by omega)]; exact h.2.1 i g1 g2
  · rw [e _ _ (by omega) (by omega), e _ _ (by omega) (by omega), e _ _ (by omega) (by omega)]; exact h.2.2 i g1 g2
theorem tSx.fr {S : Int → Int → Prop} {w w' : eW} {c : Int} {op : Int → Int} (f : e_fr S w w') (h1 : ¬ S c 15 ∧ ¬ S c 4) (h2 : ∀ d k, c + 1 ≤ d → d ≤ c + 5 → ¬ S d k) (h : tSx w c op) : tSx w' c op := h.elim (fun H q => ⟨H, q.fr f h1 h2⟩)
/-- fewer frames, fewer tries -/
theorem tS.less {w w' : eW} {c H : Int} {op : Int → Int} (h : tS w c op H) (h1 : 0 ≤ w' c 15 ∧ w' c 15 ≤ H) (h2 : w' c 4 ≤ w c 4) (h3 : ∀ d k, c + 1 ≤ d → d ≤ c + 5 → w' d k = w d k) : tS w' c op H := by
  refine ⟨⟨h1.1, h1.2, h.1.2.2⟩, fun i g1 g2 => ?_, fun i g1 g2 => ?_⟩
  · rw [h3 _ _ (by omega) (by omega), h3 _ _ (by omega) (by omega)]; exact h.2.1 i g1 (by omega)
  · rw [h3 _ _ (by omega) (by omega), h3 _ _ (by omega) (by omega), h3 _ _ (by omega) (by omega)]; exact h.2.2 i g1 g2
/-- a part of the try x is gone to -/
theorem tS.part {w w' : eW} {c H x z : Int} {op : Int → Int} (h : tS w c op H) (hz : (0 ≤ z ∧ z ≤ 15) ∧ (4 ≤ z → z % 4 = 2)) (h1 : 0 ≤ w' c 15 ∧ w' c 15 ≤ H) (h2 : w' c 4 ≤ w c 4) (h3 : ∀ d k, c + 1 ≤ d → d ≤ c + 3 → w' d k = w d k) (h4 : ∀ k, k ≠ x → w' (c + 4) k = w (c + 4) k) (h5 : w' (c + 4) x = z) (h6 : ∀ k, k ≠ x → w' (c + 5) k = w (c + 5) k)
    (h7 : 4 ≤ z → (-2147483648 ≤ w' (c + 5) x ∧ w' (c + 5) x ≤ 2147483647) ∧ (12 ≤ z → op (w' (c + 5) x + 1) = 49)) : tS w' c op H := by
  refine ⟨⟨h1.1, h1.2, h.1.2.2⟩, fun i g1 g2 => ?_, fun i g1 g2 => ?_⟩
  · rw [h3 _ _ (by omega) (by omega), h3 _ _ (by omega) (by omega)]; exact h.2.1 i g1 (by omega)
  · rw [h3 _ _ (by omega) (by omega)]
    have q := h.2.2 i g1 g2
    by_cases e : i = x
    · rw [e] at q ⊢
      rw [h5]
      exact ⟨q.1, hz, h7⟩
    · rw [h4 i e, h6 i e]
      exact q
theorem tS.val {v w' : eW} {c H x z c5 : Int} {op : Int → Int} (h : tS v c op H) (d5 : c5 = c + 5) (hx : v (c + 4) x % 4 ≠ 2) (k : e_up v c5 x z = w') : tS w' c op H := by
  subst d5
  have e : ∀ d i, d ≠ c + 5 → w' d i = v d i := fun d i g => by rw [← k]; exact e_up_ne _ _ (Or.inl g)
  refine ⟨by rw [e _ _ (by omega)]; exact h.1, fun i g1 g2 => ?_, fun i g1 g2 => ?_⟩
  · rw [e _ _ (by omega)] at g2
    rw [e _ _ (by omega), e _ _ (by omega)]; exact h.2.1 i g1 g2
  · rw [e _ _ (by omega), e _ _ (by omega)]
    have q := h.2.2 i g1 g2
    refine ⟨q.1, q.2.1, fun g => ?_⟩
    by_cases g3 : i = x
    · have := q.2.1.2 g
      rw [g3] at this
      exact absurd this hx
    · rw [← k, e_up_ne _ _ (Or.inr g3)]
      exact q.2.2 g
theorem tS.oth {v w' : eW} {c H k z : Int} {op : Int → Int} (h : tS v c op H) (hk : k ≠ 4 ∧ k ≠ 15) (hw : e_up v c k z = w') : tS w' c op H :=
  h.fr (S := fun d i => d = c ∧ i = k) (fun d i g => by rw [← hw]; exact e_up_ne _ _ (by omega)) (by omega) (fun d i g1 g2 => by omega)
/-- a frame more -/
theorem tS.push {w w1 w2 w3 w' : eW} {c H n p : Int} {op : Int → Int} (h : tS w c op H) (h0 : 0 ≤ w c 4) (hp : -2147483648 ≤ w c 3 ∧ w c 3 ≤ 2147483647) (hc : 0 < w c 4 → 40 ≤ op (w c 3)) (hn : n = w c 4 + 1) {x y i j : Int} (hi : i = w c 4) (hj : j = w c 4) (hx : x = w c 3) (hy : y = w c 15)
    {c1 c2 : Int} (d1 : c1 = c + 1) (d2 : c2 = c + 2) (k1 : e_up w c1 i x = w1) (k2 : e_up w1 c2 j y = w2) (k3 : e_up w2 c 4 n = w3) (k4 : e_up w3 c 3 p = w') : tS w' c op H := by
  subst d1 d2
  have e : ∀ d k, ¬ (d = c ∧ (k = 3 ∨ k = 4)) → d ≠ c + 1 → d ≠ c + 2 → w' d k = w d k := fun d k g1 g2 g3 => by
    rw [← k4, e_up_ne _ _ (by omega), ← k3, e_up_ne _ _ (by omega), ← k2, e_up_ne _ _ (Or.inl g3), ← k1, e_up_ne _ _ (Or.inl g2)]
  have e4 : w' c 4 = w c 4 + 1 := by rw [← k4, e_up_ne _ _ (by omega), ← k3, e_up_eq, hn]
  have e1 : ∀ k, k ≠ w c 4 → w' (c + 1) k = w (c + 1) k := fun k g => by
    rw [← k4, e_up_ne _ _ (by omega), ← k3, e_up_ne _ _ (by omega), ← k2, e_up_ne _ _ (by omega), ← k1, e_up_ne _ _ (by omega)]
  have e2 : ∀ k, k ≠ w c 4 → w' (c + 2) k = w (c + 2) k := fun k g => by
    rw [← k4, e_up_ne _ _ (by omega), ← k3, e_up_ne _ _ (by omega), ← k2, e_up_ne _ _ (by omega), ← k1, e_up_ne _ _ (by omega)]
  have f1 : w' (c + 1) (w c 4) = w c 3 := by
    rw [← k4, e_up_ne _ _ (by omega), ← k3, e_up_ne _ _ (by omega), ← k2, e_up_ne _ _ (by omega), ← k1, hi, e_up_eq, hx]
  have f2 : w' (c + 2) (w c 4) = w c 15 := by
    rw [← k4, e_up_ne _ _ (by omega), ← k3, e_up_ne _ _ (by omega), ← k2, hj, e_up_eq, hy]
  have e15 : w' c 15 = w c 15 := e _ _ (by omega) (by omega) (by omega)
  have h15 := h.1
  refine ⟨by rw [e15]; exact h.1, fun i g1 g2 => ?_, fun i g1 g2 => ?_⟩
  · rw [e4] at g2
    by_cases q : i = w c 4
    · rw [q, f1, f2]
      exact ⟨hp, hc, by omega, by omega⟩
    · rw [e1 i q, e2 i q]
      exact h.2.1 i g1 (by omega)
  · rw [e _ _ (by omega) (by omega) (by omega), e _ _ (by omega) (by omega) (by omega), e _ _ (by omega) (by omega) (by omega)]
    exact h.2.2 i g1 g2
/-- a try more -/
theorem tS.opn {w w1 w2 w' : eW} {c H n x i j : Int} {op : Int → Int} (h : tS w c op H) (ht : w c 15 < 600) (hx : (0 ≤ x ∧ x ≤ 3999) ∧ op (x + 1) = 49 ∧ op (x + 2) = 49 ∧ op (x + 3) = 49) (hn : n = w c 15 + 1) (hi : i = w c 15) (hj : j = w c 15)
    {c3 c4 : Int} (d3 : c3 = c + 3) (d4 : c4 = c + 4) (k1 : e_up w c3 i x = w1) (k2 : e_up w1 c4 j 0 = w2) (k3 : e_up w2 c 15 n = w') : tSx w' c op := by
  subst d3 d4
  have h15 := h.1
  have e : ∀ d k, ¬ (d = c ∧ k = 15) → d ≠ c + 3 → d ≠ c + 4 → w' d k = w d k := fun d k g1 g2 g3 => by
    rw [← k3, e_up_ne _ _ (by omega), ← k2, e_up_ne _ _ (Or.inl g3), ← k1, e_up_ne _ _ (Or.inl g2)]
  have e15 : w' c 15 = w c 15 + 1 := by rw [← k3, e_up_eq, hn]
  have e3 : ∀ k, k ≠ w c 15 → w' (c + 3) k = w (c + 3) k := fun k g => by rw [← k3, e_up_ne _ _ (by omega), ← k2, e_up_ne _ _ (by omega), ← k1, e_up_ne _ _ (by omega)]
  have e4 : ∀ k, k ≠ w c 15 → w' (c + 4) k = w (c + 4) k := fun k g => by rw [← k3, e_up_ne _ _ (by omega), ← k2, e_up_ne _ _ (by omega), ← k1, e_up_ne _ _ (by omega)]
  have f3 : w' (c + 3) (w c 15) = x := by rw [← k3, e_up_ne _ _ (by omega), ← k2, e_up_ne _ _ (by omega), ← k1, hi, e_up_eq]
  have f4 : w' (c + 4) (w c 15) = 0 := by rw [← k3, e_up_ne _ _ (by omega), ← k2, hj, e_up_eq]
  have key : ∀ H', (H' = H ∨ H' = w c 15 + 1) → H ≤ H' → w c 15 + 1 ≤ H' → H' ≤ 600 → tS w' c op H' := by
    intro H' g0 g1 g2 g3
    refine ⟨by rw [e15]; omega, fun i q1 q2 => ?_, fun i q1 q2 => ?_⟩
    · rw [e _ _ (by omega) (by omega) (by omega)] at q2
      rw [e _ _ (by omega) (by omega) (by omega), e _ _ (by omega) (by omega) (by omega)]
      have q := h.2.1 i q1 q2
      exact ⟨q.1, q.2.1, q.2.2.1, by omega⟩
    · by_cases q : i = w c 15
      · rw [q, f3, f4]
        exact ⟨hx, by omega, fun g => by omega⟩
      · rw [e3 i q, e4 i q, e _ _ (by omega) (by omega) (by omega)]
        exact h.2.2 i q1 (by omega)
  by_cases q : w c 15 + 1 ≤ H
  · exact ⟨H, key H (Or.inl rfl) (by omega) q (by omega)⟩
  · exact ⟨w c 15 + 1, key _ (Or.inr rfl) (by omega) (by omega) (by omega)⟩
theorem c_23 {d : Nat} {w : eW} (hT : e_Has kTy w) {cd : Int} {op od : Int → Int} (hk : kCd w cd op od) {p : Int} (gp : -2147483648 ≤ p ∧ p ≤ 2147483647) : e_Ok 20 elay kcode eI d 23 (0, [(0, (1, cd)), (1, (0, p))], [], w) (fun r w' => ∃ z : Int, r = [(0, z)] ∧ w = w' ∧ (z = op p) ∧ 0 ≤ z ∧ z ≤ 63) := by
  have hcd := hk.1
  have hcd0 := hk.1
  unfold isCd at hcd0
  have hp := hk.2 p
  refine e_Ok.ps1 (x := (0, p)) (q := 1) 1 rfl ?_
  refine e_Ok.if1 rfl (fun h1 => ?_) (fun h1 => ?_)
  · replace h1 : (p : Int) < 0 := h1
    refine e_Ok.ps1 (x := (0, 43)) (q := 26) 1 rfl ?_
    refine e_Ok.rets rfl rfl ?_
    exact ⟨_, rfl, rfl, by omega, by omega, by omega⟩
  · replace h1 : (p : Int) ≥ 0 := Int.not_lt.mp (show ¬ ((p : Int) < 0) from h1)
    refine e_Ok.ps2 (x := (1, cd)) (y := (0, p)) (q := 6) 2 rfl ?_
    have h2 := (e_Has.get hT (c := cd) (k := 0) (lo := 0) (hi := 4000) (kD_0 hcd) (by decide))
    refine e_Ok.getf (z := w cd 0) rfl (lD0 hcd) rfl rfl rfl (e_bq h2 (by decide) (by decide)) ?_
    refine e_Ok.if2 rfl (fun h3 => ?_) (fun h3 => ?_)
    · replace h3 : (p : Int) ≥ w cd 0 := h3
      refine e_Ok.ps1 (x := (0, 43)) (q := 26) 1 rfl ?_
      refine e_Ok.rets rfl rfl ?_
      exact ⟨_, rfl, rfl, by omega, by omega, by omega⟩
    · replace h3 : (p : Int) < w cd 0 := Int.not_le.mp (show ¬ ((p : Int) ≥ w cd 0) from h3)
      refine e_Ok.ps1 (x := (1, cd)) (q := 13) 1 rfl ?_
      refine e_Ok.getr (z := cd + 2) rfl (lD0 hcd) rfl rfl (Eq.trans (e_Has.eq hT (kD_4 hcd)) (by omega)) (by omega) ?_
      refine e_Ok.ps1 (x := (0, p)) (q := 17) 1 rfl ?_
      have h4 := (e_Has.get hT (c := cd + 2) (k := p) (lo := (-2147483648)) (hi := 2147483647) (kD2 (d := cd) _ (by omega) hcd) (by decide))
      refine e_Ok.ald (z := w (cd + 2) p) rfl (lD2 (d := cd) (by omega) hcd) rfl (by omega) rfl (e_bq h4 (by decide) (by decide)) ?_
      refine e_Ok.ps1 (x := (0, 63)) (q := 20) 1 rfl ?_
      refine e_Ok.andm 63 6 rfl (by decide) (fun z5 hz5 => ?_)
      replace hz5 : z5 = (w (cd + 2) p) % 64 := hz5
      have hz5r : 0 ≤ z5 ∧ z5 ≤ 63 := by omega
      refine e_Ok.ps0 (q := 26) 1 rfl ?_
      refine e_Ok.rets rfl rfl ?_
      exact ⟨_, rfl, rfl, by omega, by omega, by omega⟩
theorem c_24 {d : Nat} {w : eW} (hT : e_Has kTy w) {cd : Int} {op od : Int → Int} (hk : kCd w cd op od) {p : Int} (gp : -2147483648 ≤ p ∧ p ≤ 2147483647) : e_Ok 20 elay kcode eI d 24 (0, [(0, (1, cd)), (1, (0, p))], [], w) (fun r w' => ∃ z : Int, r = [(0, z)] ∧ w = w' ∧ (z = od p) ∧ 0 ≤ z ∧ z ≤ 33554431) := by
  have hcd := hk.1
  have hcd0 := hk.1
  unfold isCd at hcd0
  have hp := hk.2 p
  refine e_Ok.ps1 (x := (0, p)) (q := 1) 1 rfl ?_
  refine e_Ok.if1 rfl (fun h1 => ?_) (fun h1 => ?_)
  · replace h1 : (p : Int) < 0 := h1
    refine e_Ok.ps1 (x := (0, 0)) (q := 25) 1 rfl ?_
    refine e_Ok.rets rfl rfl ?_
    exact ⟨_, rfl, rfl, by omega, by omega, by omega⟩
  · replace h1 : (p : Int) ≥ 0 := Int.not_lt.mp (show ¬ ((p : Int) < 0) from h1)
    refine e_Ok.ps2 (x := (1, cd)) (y := (0, p)) (q := 6) 2 rfl ?_
    have h2 := (e_Has.get hT (c := cd) (k := 0) (lo := 0) (hi := 4000) (kD_0 hcd) (by decide))
    refine e_Ok.getf (z := w cd 0) rfl (lD0 hcd) rfl rfl rfl (e_bq h2 (by decide) (by decide)) ?_
    refine e_Ok.if2 rfl (fun h3 => ?_) (fun h3 => ?_)
    · replace h3 : (p : Int) ≥ w cd 0 := h3
      refine e_Ok.ps1 (x := (0, 0)) (q := 25) 1 rfl ?_
      refine e_Ok.rets rfl rfl ?_
      exact ⟨_, rfl, rfl, by omega, by omega, by omega⟩
    · replace h3 : (p : Int) < w cd 0 := Int.not_le.mp (show ¬ ((p : Int) ≥ w cd 0) from h3)
      refine e_Ok.ps1 (x := (1, cd)) (q := 13) 1 rfl ?_
      refine e_Ok.getr (z := cd + 2) rfl (lD0 hcd) rfl rfl (Eq.trans (e_Has.eq hT (kD_4 hcd)) (by omega)) (by omega) ?_
      refine e_Ok.ps1 (x := (0, p)) (q := 17) 1 rfl ?_
      have h4 := (e_Has.get hT (c := cd + 2) (k := p) (lo := (-2147483648)) (hi := 2147483647) (kD2 (d := cd) _ (by omega) hcd) (by decide))
      refine e_Ok.ald (z := w (cd + 2) p) rfl (lD2 (d := cd) (by omega) hcd) rfl (by omega) rfl (e_bq h4 (by decide) (by decide)) ?_
      refine e_Ok.ps1 (x := (0, 6)) (q := 20) 1 rfl ?_
      refine e_Ok.shr6 rfl (by omega) (fun z5 hz5 => ?_)
      replace hz5 : z5 = (w (cd + 2) p) / 64 := hz5
      refine e_Ok.ps0 (q := 25) 1 rfl ?_
      refine e_Ok.rets rfl rfl ?_
      exact ⟨_, rfl, rfl, by omega, by omega, by omega⟩
theorem c_182 {d : Nat} {w : eW} (hT : e_Has kTy w) {t : Int} (gt : 0 ≤ t ∧ t ≤ 15) {op : Int → Int} {p : Int} (gp : -2147483648 ≤ p ∧ p ≤ 2147483647) (hs : tSx w (6 * t + 154) op) (hc : 0 < w (6 * t + 154) 4 → 40 ≤ op (w (6 * t + 154) 3)) : e_Ok 20 elay kcode eI d 182 (0, [(0, (1, 6 * t + 154)), (1, (0, p))], [], w) (fun r w' => ∃ z : Int, r = [(0, z)] ∧ e_fr (kEn t) w w' ∧ e_Has kTy w' ∧ tSx w' (6 * t + 154) op ∧ ((z = 1 ∧ (w' (6 * t + 154) 4 = w (6 * t + 154) 4 + 1) ∧ w' (6 * t + 154) 3 = p) ∨ (z = 0 ∧ w' = w ∧ 20 ≤ w (6 * t + 154) 4))) := by
  have h3 := e_Has.get hT (c := 6 * t + 154) (k := 3) (lo := -2147483648) (hi := 2147483647) (kT_3 (t := t) rfl gt) (by decide)
  have h15 := e_Has.get hT (c := 6 * t + 154) (k := 15) (lo := 0) (hi := 600) (kT_15 (t := t) rfl gt) (by decide)
  refine e_Ok.ps1 (x := (1, 6 * t + 154)) (q := 1) 1 rfl ?_
  have h1 := (e_Has.get hT (c := 6 * t + 154) (k := 4) (lo := 0) (hi := 20) (kT_4 (t := t) rfl gt) (by decide))
  refine e_Ok.getf (z := w (6 * t + 154) 4) rfl (lT0 (t := t) rfl gt) rfl rfl rfl (e_bq h1 (by decide) (by decide)) ?_
  refine e_Ok.ps1 (x := (0, 20)) (q := 6) 1 rfl ?_
  refine e_Ok.if2 rfl (fun h2 => ?_) (fun h2 => ?_)
  · replace h2 : (w (6 * t + 154) 4 : Int) < 20 := h2
    refine e_Ok.ps1 (x := (1, 6 * t + 154)) (q := 12) 1 rfl ?_
    refine e_Ok.getr (z := 6 * t + 155) rfl (lT0 (t := t) rfl gt) rfl rfl (Eq.trans (e_Has.eq hT (kT_16 (t := t) rfl gt)) (by omega)) (by omega) ?_
    refine e_Ok.ps1 (x := (1, 6 * t + 154)) (q := 16) 1 rfl ?_
    refine e_Ok.getf (z := w (6 * t + 154) 4) rfl (lT0 (t := t) rfl gt) rfl rfl rfl (by omega) ?_
    refine e_Ok.ps1 (x := (1, 6 * t + 154)) (q := 20) 1 rfl ?_
    have h3 := (e_Has.get hT (c := 6 * t + 154) (k := 3) (lo := (-2147483648)) (hi := 2147483647) (kT_3 (t := t) rfl gt) (by decide))
    refine e_Ok.getf (z := w (6 * t + 154) 3) rfl (lT0 (t := t) rfl gt) rfl rfl rfl (e_bq h3 (by decide) (by decide)) ?_
    refine e_Ok.ast rfl (lT1 (t := t) rfl gt) rfl rfl (by omega) ?_
    generalize hw4 : e_up w (6 * t + 155) (w (6 * t + 154) 4) (w (6 * t + 154) 3) = w4
    have hT6 : e_Has kTy w4 := e_Has.ups hT hw4 (kT155 (t := t) _ rfl gt)
    refine e_Ok.ps1 (x := (1, 6 * t + 154)) (q := 25) 1 rfl ?_
    refine e_Ok.getr (z := 6 * t + 156) rfl (lT0 (t := t) rfl gt) rfl rfl (e_uq hw4 (Or.inl (e_neo (by decide))) (Eq.trans (e_Has.eq hT (kT_17 (t := t) rfl gt)) (by omega))) (by omega) ?_
    refine e_Ok.ps1 (x := (1, 6 * t + 154)) (q := 29) 1 rfl ?_
    refine e_Ok.getf (z := w (6 * t + 154) 4) rfl (lT0 (t := t) rfl gt) rfl rfl (e_uq hw4 (Or.inl (e_neo (by decide))) rfl) (by omega) ?_
    refine e_Ok.ps1 (x := (1, 6 * t + 154)) (q := 33) 1 rfl ?_
    have h7 := (e_Has.get hT (c := 6 * t + 154) (k := 15) (lo := 0) (hi := 600) (kT_15 (t := t) rfl gt) (by decide))
    refine e_Ok.getf (z := w (6 * t + 154) 15) rfl (lT0 (t := t) rfl gt) rfl rfl (e_uq hw4 (Or.inl (e_neo (by decide))) rfl) (e_bq h7 (by decide) (by decide)) ?_
    refine e_Ok.ast rfl (lT2 (t := t) rfl gt) rfl rfl (by omega) ?_
    generalize hw8 : e_up w4 (6 * t + 156) (w (6 * t + 154) 4) (w (6 * t + 154) 15) = w8
    have hT10 : e_Has kTy w8 := e_Has.ups hT6 hw8 (kT156 (t := t) _ rfl gt)
    refine e_Ok.ps2 (x := (1, 6 * t + 154)) (y := (1, 6 * t + 154)) (q := 39) 2 rfl ?_
    refine e_Ok.getf (z := w (6 * t + 154) 4) rfl (lT0 (t := t) rfl gt) rfl rfl (e_uq hw8 (Or.inl (e_neo (by decide))) (e_uq hw4 (Or.inl (e_neo (by decide))) rfl)) (by omega) ?_
    refine e_Ok.ps1 (x := (0, 1)) (q := 43) 1 rfl ?_
    refine e_Ok.add (z := w (6 * t + 154) 4 + 1) rfl rfl (by omega) ?_
    refine e_Ok.putf rfl (lT0 (t := t) rfl gt) rfl rfl ?_
    generalize hw11 : e_up w8 (6 * t + 154) 4 (w (6 * t + 154) 4 + 1) = w11
    have hT13 : e_Has kTy w11 := e_Has.upr hT10 hw11 (kT_4 (t := t) rfl gt) (by omega)
    refine e_Ok.ps2 (x := (0, p)) (y := (1, 6 * t + 154)) (q := 49) 2 rfl ?_
    refine e_Ok.putf rfl (lT0 (t := t) rfl gt) rfl rfl ?_
    generalize hw14 : e_up w11 (6 * t + 154) 3 p = w14
    have hT16 : e_Has kTy w14 := e_Has.upr hT13 hw14 (kT_3 (t := t) rfl gt) (by omega)
    refine e_Ok.ps1 (x := (0, 1)) (q := 53) 1 rfl ?_
    refine e_Ok.rets rfl rfl ?_
    exact ⟨_, rfl, (show e_fr (kEn t) w w14 from e_fr.up (show e_fr (kEn t) w w11 from e_fr.up (show e_fr (kEn t) w w8 from e_fr.up (show e_fr (kEn t) w w4 from e_fr.up (e_fr.refl w) hw4 (by first | exact Or.inr (Or.inl (by omega)) | (unfold kEn; omega))) hw8 (by first | exact Or.inr (Or.inr (by omega)) | (unfold kEn; omega))) hw11 (by first | exact Or.inl ⟨(by omega), Or.inr rfl⟩ | (unfold kEn; omega))) hw14 (by first | exact Or.inl ⟨(by omega), Or.inl rfl⟩ | (unfold kEn; omega))), hT16, hs.elim (fun H q => ⟨H, tS.push q (by omega) (by omega) hc (by omega) rfl rfl rfl rfl (by omega) (by omega) hw4 hw8 hw11 hw14⟩), Or.inl ⟨rfl, by have := (show w14 (6 * t + 154) 4 = w (6 * t + 154) 4 + 1 from (e_uq hw14 (Or.inr (by first | decide | omega)) (e_ue hw11))); omega, (e_ue hw14)⟩⟩
  · replace h2 : (w (6 * t + 154) 4 : Int) ≥ 20 := Int.not_lt.mp (show ¬ ((w (6 * t + 154) 4 : Int) < 20) from h2)
    refine e_Ok.ps1 (x := (0, 0)) (q := 10) 1 rfl ?_
    refine e_Ok.rets rfl rfl ?_
    exact ⟨_, rfl, e_fr.refl w, hT, hs, Or.inr ⟨rfl, rfl, by omega⟩⟩
theorem c_181 {d : Nat} {w : eW} (hT : e_Has kTy w) {t : Int} (gt : 0 ≤ t ∧ t ≤ 15) {op : Int → Int} {p : Int} (gp : 0 ≤ p ∧ p ≤ 7) : e_Ok 20 elay kcode eI d 181 (0, [(0, (1, 6 * t + 154)), (1, (0, p))], [], w) (fun r w' => r = [] ∧ e_fr (kFi t) w w' ∧ e_Has kTy w' ∧ w' (6 * t + 154) 1 = p ∧ w' (6 * t + 154) 4 = 0 ∧ w' (6 * t + 154) 15 = 0) := by
  refine e_Ok.ps2 (x := (0, p)) (y := (1, 6 * t + 154)) (q := 2) 2 rfl ?_
  refine e_Ok.putf rfl (lT0 (t := t) rfl gt) rfl rfl ?_
  generalize hw1 : e_up w (6 * t + 154) 1 p = w1
  have hT3 : e_Has kTy w1 := e_Has.upr hT hw1 (kT_1 (t := t) rfl gt) (by omega)
  refine e_Ok.ps2 (x := (0, 0)) (y := (1, 6 * t + 154)) (q := 7) 2 rfl ?_
  refine e_Ok.putf rfl (lT0 (t := t) rfl gt) rfl rfl ?_
  generalize hw4 : e_up w1 (6 * t + 154) 4 0 = w4
  have hT6 : e_Has kTy w4 := e_Has.upr hT3 hw4 (kT_4 (t := t) rfl gt) (by omega)
  refine e_Ok.ps2 (x := (0, 0)) (y := (1, 6 * t + 154)) (q := 12) 2 rfl ?_
  refine e_Ok.putf rfl (lT0 (t := t) rfl gt) rfl rfl ?_
  generalize hw7 : e_up w4 (6 * t + 154) 15 0 = w7
  have hT9 : e_Has kTy w7 := e_Has.upr hT6 hw7 (kT_15 (t := t) rfl gt) (by omega)
  refine e_Ok.rets rfl rfl ?_
  exact ⟨rfl, (show e_fr (kFi t) w w7 from e_fr.up (show e_fr (kFi t) w w4 from e_fr.up (show e_fr (kFi t) w w1 from e_fr.up (e_fr.refl w) hw1 (by first | exact ⟨(by omega), Or.inl rfl⟩ | (unfold kFi; omega))) hw4 (by first | exact ⟨(by omega), Or.inr (Or.inl rfl)⟩ | (unfold kFi; omega))) hw7 (by first | exact ⟨(by omega), Or.inr (Or.inr rfl)⟩ | (unfold kFi; omega))), hT9, (e_uq hw7 (Or.inr (by first | decide | omega)) (e_uq hw4 (Or.inr (by first | decide | omega)) (e_ue hw1))), (e_uq hw7 (Or.inr (by first | decide | omega)) (e_ue hw4)), (e_ue hw7)⟩
theorem c_183 {d : Nat} {w : eW} (hT : e_Has kTy w) {t : Int} (gt : 0 ≤ t ∧ t ≤ 15) {op : Int → Int} {H : Int} (hs : tS w (6 * t + 154) op H) : e_Ok 20 elay kcode eI d 183 (0, [(0, (1, 6 * t + 154))], [], w) (fun r w' => r = [] ∧ e_fr (kLv t) w w' ∧ e_Has kTy w' ∧ tS w' (6 * t + 154) op H ∧ ((w (6 * t + 154) 4 < 1 ∧ w' = w) ∨ (1 ≤ w (6 * t + 154) 4 ∧ w' (6 * t + 154) 4 = w (6 * t + 154) 4 - 1 ∧ (0 < w' (6 * t + 154) 4 → 40 ≤ op (w' (6 * t + 154) 3))))) := by
  have h4 := e_Has.get hT (c := 6 * t + 154) (k := 4) (lo := 0) (hi := 20) (kT_4 (t := t) rfl gt) (by decide)
  have h15 := e_Has.get hT (c := 6 * t + 154) (k := 15) (lo := 0) (hi := 600) (kT_15 (t := t) rfl gt) (by decide)
  refine e_Ok.ps1 (x := (1, 6 * t + 154)) (q := 1) 1 rfl ?_
  have h1 := (e_Has.get hT (c := 6 * t + 154) (k := 4) (lo := 0) (hi := 20) (kT_4 (t := t) rfl gt) (by decide))
  refine e_Ok.getf (z := w (6 * t + 154) 4) rfl (lT0 (t := t) rfl gt) rfl rfl rfl (e_bq h1 (by decide) (by decide)) ?_
  refine e_Ok.ps1 (x := (0, 1)) (q := 5) 1 rfl ?_
  refine e_Ok.if2 rfl (fun h2 => ?_) (fun h2 => ?_)
  · replace h2 : (w (6 * t + 154) 4 : Int) ≥ 1 := h2
    have hq := hs.2.1 (w (6 * t + 154) 4 - 1) (by omega) (by omega)
    have hq1 : (-2147483648 ≤ w (6 * t + 155) (w (6 * t + 154) 4 - 1) ∧ w (6 * t + 155) (w (6 * t + 154) 4 - 1) ≤ 2147483647) ∧ (0 < w (6 * t + 154) 4 - 1 → 40 ≤ op (w (6 * t + 155) (w (6 * t + 154) 4 - 1))) := by rw [show 6 * t + 155 = (6 * t + 154) + 1 by omega]; exact ⟨hq.1, hq.2.1⟩
    have hq2 : 0 ≤ w (6 * t + 156) (w (6 * t + 154) 4 - 1) ∧ w (6 * t + 156) (w (6 * t + 154) 4 - 1) ≤ H := by rw [show 6 * t + 156 = (6 * t + 154) + 2 by omega]; exact hq.2.2
    have hH := hs.1; clear hq
    refine e_Ok.ps2 (x := (1, 6 * t + 154)) (y := (1, 6 * t + 154)) (q := 11) 2 rfl ?_
    refine e_Ok.getf (z := w (6 * t + 154) 4) rfl (lT0 (t := t) rfl gt) rfl rfl rfl (by omega) ?_
    refine e_Ok.ps1 (x := (0, 1)) (q := 15) 1 rfl ?_
    refine e_Ok.sub' (z := w (6 * t + 154) 4 - 1) rfl rfl (by omega) ?_
    refine e_Ok.putf rfl (lT0 (t := t) rfl gt) rfl rfl ?_
    generalize hw3 : e_up w (6 * t + 154) 4 (w (6 * t + 154) 4 - 1) = w3
    have hT5 : e_Has kTy w3 := e_Has.upr hT hw3 (kT_4 (t := t) rfl gt) (by omega)
    refine e_Ok.ps2 (x := (1, 6 * t + 154)) (y := (1, 6 * t + 154)) (q := 21) 2 rfl ?_
    refine e_Ok.getr (z := 6 * t + 156) rfl (lT0 (t := t) rfl gt) rfl rfl (e_uq hw3 (Or.inr (by decide)) (Eq.trans (e_Has.eq hT (kT_17 (t := t) rfl gt)) (by omega))) (by omega) ?_
    refine e_Ok.ps1 (x := (1, 6 * t + 154)) (q := 25) 1 rfl ?_
    refine e_Ok.getf (z := w (6 * t + 154) 4 - 1) rfl (lT0 (t := t) rfl gt) rfl rfl (e_ue hw3) (by omega) ?_
    refine e_Ok.ald (z := w (6 * t + 156) (w (6 * t + 154) 4 - 1)) rfl (lT2 (t := t) rfl gt) rfl (by omega) (e_uq hw3 (Or.inl (e_neo (by decide))) rfl) (by omega) ?_
    refine e_Ok.putf rfl (lT0 (t := t) rfl gt) rfl rfl ?_
    generalize hw6 : e_up w3 (6 * t + 154) 15 (w (6 * t + 156) (w (6 * t + 154) 4 - 1)) = w6
    have hT8 : e_Has kTy w6 := e_Has.upr hT5 hw6 (kT_15 (t := t) rfl gt) (by omega)
    refine e_Ok.ps2 (x := (1, 6 * t + 154)) (y := (1, 6 * t + 154)) (q := 34) 2 rfl ?_
    refine e_Ok.getr (z := 6 * t + 155) rfl (lT0 (t := t) rfl gt) rfl rfl (e_uq hw6 (Or.inr (by decide)) (e_uq hw3 (Or.inr (by decide)) (Eq.trans (e_Has.eq hT (kT_16 (t := t) rfl gt)) (by omega)))) (by omega) ?_
    refine e_Ok.ps1 (x := (1, 6 * t + 154)) (q := 38) 1 rfl ?_
    refine e_Ok.getf (z := w (6 * t + 154) 4 - 1) rfl (lT0 (t := t) rfl gt) rfl rfl (e_uq hw6 (Or.inr (by decide)) (e_ue hw3)) (by omega) ?_
    refine e_Ok.ald (z := w (6 * t + 155) (w (6 * t + 154) 4 - 1)) rfl (lT1 (t := t) rfl gt) rfl (by omega) (e_uq hw6 (Or.inl (e_neo (by decide))) (e_uq hw3 (Or.inl (e_neo (by decide))) rfl)) (by omega) ?_
    refine e_Ok.putf rfl (lT0 (t := t) rfl gt) rfl rfl ?_
    generalize hw9 : e_up w6 (6 * t + 154) 3 (w (6 * t + 155) (w (6 * t + 154) 4 - 1)) = w9
    have hT11 : e_Has kTy w9 := e_Has.upr hT8 hw9 (kT_3 (t := t) rfl gt) (by omega)
    refine e_Ok.rets rfl rfl ?_
    have e15 : w9 (6 * t + 154) 15 = w (6 * t + 156) (w (6 * t + 154) 4 - 1) := (e_uq hw9 (Or.inr (by decide)) (e_ue hw6))
    have e4 : w9 (6 * t + 154) 4 = w (6 * t + 154) 4 - 1 := (e_uq hw9 (Or.inr (by decide)) (e_uq hw6 (Or.inr (by decide)) (e_ue hw3)))
    have e3 : w9 (6 * t + 154) 3 = w (6 * t + 155) (w (6 * t + 154) 4 - 1) := (e_ue hw9)
    exact ⟨rfl, (show e_fr (kLv t) w w9 from e_fr.up (show e_fr (kLv t) w w6 from e_fr.up (show e_fr (kLv t) w w3 from e_fr.up (e_fr.refl w) hw3 (by first | exact Or.inl ⟨(by omega), Or.inr (Or.inl rfl)⟩ | (unfold kLv; omega))) hw6 (by first | exact Or.inl ⟨(by omega), Or.inr (Or.inr (Or.inr rfl))⟩ | (unfold kLv; omega))) hw9 (by first | exact Or.inl ⟨(by omega), Or.inl rfl⟩ | (unfold kLv; omega))), hT11, tS.less hs (by omega) (by omega) (fun d k g1 g2 => by rw [← hw9, e_up_ne _ _ (by omega), ← hw6, e_up_ne _ _ (by omega), ← hw3, e_up_ne _ _ (by omega)]), Or.inr ⟨by omega, by omega, by rw [e3]; omega⟩⟩
  · replace h2 : (w (6 * t + 154) 4 : Int) < 1 := Int.not_le.mp (show ¬ ((w (6 * t + 154) 4 : Int) ≥ 1) from h2)
    refine e_Ok.rets rfl rfl ?_
    exact ⟨rfl, e_fr.refl w, hT, hs, Or.inl ⟨by omega, rfl⟩⟩
theorem c_184 {d : Nat} {w : eW} (hT : e_Has kTy w) {t : Int} (gt : 0 ≤ t ∧ t ≤ 15) {op : Int → Int} {p : Int} (hx : (0 ≤ p ∧ p ≤ 3999) ∧ op (p + 1) = 49 ∧ op (p + 2) = 49 ∧ op (p + 3) = 49) (hs : tSx w (6 * t + 154) op) : e_Ok 20 elay kcode eI d 184 (0, [(0, (1, 6 * t + 154)), (1, (0, p))], [], w) (fun r w' => r = [] ∧ e_fr (kOt t) w w' ∧ e_Has kTy w' ∧ tSx w' (6 * t + 154) op) := by
  have h15 := e_Has.get hT (c := 6 * t + 154) (k := 15) (lo := 0) (hi := 600) (kT_15 (t := t) rfl gt) (by decide)
  refine e_Ok.ps1 (x := (1, 6 * t + 154)) (q := 1) 1 rfl ?_
  have h1 := (e_Has.get hT (c := 6 * t + 154) (k := 15) (lo := 0) (hi := 600) (kT_15 (t := t) rfl gt) (by decide))
  refine e_Ok.getf (z := w (6 * t + 154) 15) rfl (lT0 (t := t) rfl gt) rfl rfl rfl (e_bq h1 (by decide) (by decide)) ?_
  refine e_Ok.ps1 (x := (0, 600)) (q := 7) 1 rfl ?_
  refine e_Ok.if2 rfl (fun h2 => ?_) (fun h2 => ?_)
  · replace h2 : (w (6 * t + 154) 15 : Int) < 600 := h2
    refine e_Ok.ps1 (x := (1, 6 * t + 154)) (q := 12) 1 rfl ?_
    refine e_Ok.getr (z := 6 * t + 157) rfl (lT0 (t := t) rfl gt) rfl rfl (Eq.trans (e_Has.eq hT (kT_18 (t := t) rfl gt)) (by omega)) (by omega) ?_
    refine e_Ok.ps1 (x := (1, 6 * t + 154)) (q := 16) 1 rfl ?_
    refine e_Ok.getf (z := w (6 * t + 154) 15) rfl (lT0 (t := t) rfl gt) rfl rfl rfl (by omega) ?_
    refine e_Ok.ps1 (x := (0, p)) (q := 20) 1 rfl ?_
    refine e_Ok.ast rfl (lT3 (t := t) rfl gt) rfl rfl (by omega) ?_
    generalize hw3 : e_up w (6 * t + 157) (w (6 * t + 154) 15) p = w3
    have hT5 : e_Has kTy w3 := e_Has.ups hT hw3 (kT157 (t := t) _ rfl gt)
    refine e_Ok.ps1 (x := (1, 6 * t + 154)) (q := 22) 1 rfl ?_
    refine e_Ok.getr (z := 6 * t + 158) rfl (lT0 (t := t) rfl gt) rfl rfl (e_uq hw3 (Or.inl (e_neo (by decide))) (Eq.trans (e_Has.eq hT (kT_19 (t := t) rfl gt)) (by omega))) (by omega) ?_
    refine e_Ok.ps1 (x := (1, 6 * t + 154)) (q := 26) 1 rfl ?_
    refine e_Ok.getf (z := w (6 * t + 154) 15) rfl (lT0 (t := t) rfl gt) rfl rfl (e_uq hw3 (Or.inl (e_neo (by decide))) rfl) (by omega) ?_
    refine e_Ok.ps1 (x := (0, 0)) (q := 30) 1 rfl ?_
    refine e_Ok.ast rfl (lT4 (t := t) rfl gt) rfl rfl (by omega) ?_
    generalize hw6 : e_up w3 (6 * t + 158) (w (6 * t + 154) 15) 0 = w6
    have hT8 : e_Has kTy w6 := e_Has.ups hT5 hw6 (kT158 (t := t) _ rfl gt)
    refine e_Ok.ps2 (x := (1, 6 * t + 154)) (y := (1, 6 * t + 154)) (q := 33) 2 rfl ?_
    refine e_Ok.getf (z := w (6 * t + 154) 15) rfl (lT0 (t := t) rfl gt) rfl rfl (e_uq hw6 (Or.inl (e_neo (by decide))) (e_uq hw3 (Or.inl (e_neo (by decide))) rfl)) (by omega) ?_
    refine e_Ok.ps1 (x := (0, 1)) (q := 37) 1 rfl ?_
    refine e_Ok.add (z := w (6 * t + 154) 15 + 1) rfl rfl (by omega) ?_
    refine e_Ok.putf rfl (lT0 (t := t) rfl gt) rfl rfl ?_
    generalize hw9 : e_up w6 (6 * t + 154) 15 (w (6 * t + 154) 15 + 1) = w9
    have hT11 : e_Has kTy w9 := e_Has.upr hT8 hw9 (kT_15 (t := t) rfl gt) (by omega)
    refine e_Ok.rets rfl rfl ?_
    exact ⟨rfl, (show e_fr (kOt t) w w9 from e_fr.up (show e_fr (kOt t) w w6 from e_fr.up (show e_fr (kOt t) w w3 from e_fr.up (e_fr.refl w) hw3 (by first | exact Or.inr (Or.inl (by omega)) | (unfold kOt; omega))) hw6 (by first | exact Or.inr (Or.inr (by omega)) | (unfold kOt; omega))) hw9 (by first | exact Or.inl ⟨(by omega), rfl⟩ | (unfold kOt; omega))), hT11, hs.elim (fun H q => tS.opn q (by omega) hx (by omega) rfl rfl (by omega) (by omega) hw3 hw6 hw9)⟩
  · replace h2 : (w (6 * t + 154) 15 : Int) ≥ 600 := Int.not_lt.mp (show ¬ ((w (6 * t + 154) 15 : Int) < 600) from h2)
    refine e_Ok.rets rfl rfl ?_
    exact ⟨rfl, e_fr.refl w, hT, hs⟩
theorem c_186 {d : Nat} {w : eW} (hT : e_Has kTy w) {t : Int} (gt : 0 ≤ t ∧ t ≤ 15) {op : Int → Int} {H : Int} (hs : tS w (6 * t + 154) op H) : e_Ok 20 elay kcode eI d 186 (0, [(0, (1, 6 * t + 154))], [], w) (fun r w' => ∃ z : Int, r = [(0, z)] ∧ e_fr (kLv t) w w' ∧ e_Has kTy w' ∧ tS w' (6 * t + 154) op H ∧ (0 ≤ z ∧ z ≤ 3) ∧ (1 ≤ z → (-2147483648 ≤ w' ((6 * t + 154) + 5) (w' (6 * t + 154) 15) ∧ w' ((6 * t + 154) + 5) (w' (6 * t + 154) 15) ≤ 2147483647) ∧ (z = 3 → op (w' ((6 * t + 154) + 5) (w' (6 * t + 154) 15) + 1) = 49))) := by
  have h15 := e_Has.get hT (c := 6 * t + 154) (k := 15) (lo := 0) (hi := 600) (kT_15 (t := t) rfl gt) (by decide)
  have h4 := e_Has.get hT (c := 6 * t + 154) (k := 4) (lo := 0) (hi := 20) (kT_4 (t := t) rfl gt) (by decide)
  have hH := hs.1
  refine e_Ok.ps1 (x := (1, 6 * t + 154)) (q := 1) 1 rfl ?_
  have h1 := (e_Has.get hT (c := 6 * t + 154) (k := 15) (lo := 0) (hi := 600) (kT_15 (t := t) rfl gt) (by decide))
  refine e_Ok.getf (z := w (6 * t + 154) 15) rfl (lT0 (t := t) rfl gt) rfl rfl rfl (e_bq h1 (by decide) (by decide)) ?_
  refine e_Ok.ps1 (x := (0, 1)) (q := 5) 1 rfl ?_
  refine e_Ok.if2 rfl (fun h2 => ?_) (fun h2 => ?_)
  · replace h2 : (w (6 * t + 154) 15 : Int) ≥ 1 := h2
    have hq := hs.2.2 (w (6 * t + 154) 15 - 1) (by omega) (by omega)
    have hq3 : ((0 ≤ w (6 * t + 157) (w (6 * t + 154) 15 - 1) ∧ w (6 * t + 157) (w (6 * t + 154) 15 - 1) ≤ 3999) ∧ op (w (6 * t + 157) (w (6 * t + 154) 15 - 1) + 1) = 49 ∧ op (w (6 * t + 157) (w (6 * t + 154) 15 - 1) + 2) = 49 ∧ op (w (6 * t + 157) (w (6 * t + 154) 15 - 1) + 3) = 49) ∧ (0 ≤ w (6 * t + 158) (w (6 * t + 154) 15 - 1) ∧ w (6 * t + 158) (w (6 * t + 154) 15 - 1) ≤ 15) := by rw [show 6 * t + 157 = (6 * t + 154) + 3 by omega, show 6 * t + 158 = (6 * t + 154) + 4 by omega]; exact ⟨hq.1, hq.2.1.1⟩
    refine e_Ok.ps2 (x := (1, 6 * t + 154)) (y := (1, 6 * t + 154)) (q := 12) 2 rfl ?_
    refine e_Ok.getf (z := w (6 * t + 154) 15) rfl (lT0 (t := t) rfl gt) rfl rfl rfl (by omega) ?_
    refine e_Ok.ps1 (x := (0, 1)) (q := 16) 1 rfl ?_
    refine e_Ok.sub' (z := w (6 * t + 154) 15 - 1) rfl rfl (by omega) ?_
    refine e_Ok.putf rfl (lT0 (t := t) rfl gt) rfl rfl ?_
    generalize hw3 : e_up w (6 * t + 154) 15 (w (6 * t + 154) 15 - 1) = w3
    have hT5 : e_Has kTy w3 := e_Has.upr hT hw3 (kT_15 (t := t) rfl gt) (by omega)
    refine e_Ok.ps1 (x := (1, 6 * t + 154)) (q := 21) 1 rfl ?_
    refine e_Ok.getr (z := 6 * t + 158) rfl (lT0 (t := t) rfl gt) rfl rfl (e_uq hw3 (Or.inr (by decide)) (Eq.trans (e_Has.eq hT (kT_19 (t := t) rfl gt)) (by omega))) (by omega) ?_
    refine e_Ok.ps1 (x := (1, 6 * t + 154)) (q := 25) 1 rfl ?_
    refine e_Ok.getf (z := w (6 * t + 154) 15 - 1) rfl (lT0 (t := t) rfl gt) rfl rfl (e_ue hw3) (by omega) ?_
    refine e_Ok.ald (z := w (6 * t + 158) (w (6 * t + 154) 15 - 1)) rfl (lT4 (t := t) rfl gt) rfl (by omega) (e_uq hw3 (Or.inl (e_neo (by decide))) rfl) (by omega) ?_
    refine e_Ok.ps1 (x := (0, 2)) (q := 30) 1 rfl ?_
    refine e_Ok.shr2 rfl (by omega) (fun z6 hz6 => ?_)
    replace hz6 : z6 = (w (6 * t + 158) (w (6 * t + 154) 15 - 1)) / 4 := hz6
    refine e_Ok.rets rfl rfl ?_
    have e15 : w3 (6 * t + 154) 15 = w (6 * t + 154) 15 - 1 := (e_ue hw3)
    exact ⟨_, rfl, (show e_fr (kLv t) w w3 from e_fr.up (e_fr.refl w) hw3 (by first | exact Or.inl ⟨(by omega), Or.inr (Or.inr (Or.inr rfl))⟩ | (unfold kLv; omega))), hT5, tS.less hs (by omega) (by rw [show w3 (6 * t + 154) 4 = w (6 * t + 154) 4 from (e_uq hw3 (Or.inr (by first | decide | omega)) rfl)]; omega) (fun d k g1 g2 => by rw [← hw3, e_up_ne _ _ (by omega)]), by omega, fun g => by rw [e15, show w3 ((6 * t + 154) + 5) = w ((6 * t + 154) + 5) from funext fun k => by rw [← hw3, e_up_ne _ _ (by omega)]]; exact ⟨(hq.2.2 (by rw [show (6 * t + 154) + 4 = 6 * t + 158 by omega]; omega)).1, fun g3 => (hq.2.2 (by rw [show (6 * t + 154) + 4 = 6 * t + 158 by omega]; omega)).2 (by rw [show (6 * t + 154) + 4 = 6 * t + 158 by omega]; omega)⟩⟩
  · replace h2 : (w (6 * t + 154) 15 : Int) < 1 := Int.not_le.mp (show ¬ ((w (6 * t + 154) 15 : Int) ≥ 1) from h2)
    refine e_Ok.ps1 (x := (0, 0)) (q := 9) 1 rfl ?_
    refine e_Ok.rets rfl rfl ?_
    exact ⟨_, rfl, e_fr.refl w, hT, hs, by omega, fun g => by omega⟩
theorem c_187 {d : Nat} {w : eW} (hT : e_Has kTy w) {t : Int} (gt : 0 ≤ t ∧ t ≤ 15) {op : Int → Int} {v : Int} (hv : w ((6 * t + 154) + 5) (w (6 * t + 154) 15) = v) (hr : -2147483648 ≤ v ∧ v ≤ 2147483647) (h6 : w (6 * t + 154) 15 < 600) : e_Ok 20 elay kcode eI d 187 (0, [(0, (1, 6 * t + 154))], [], w) (fun r w' => ∃ z : Int, r = [(0, z)] ∧ w = w' ∧ z = v) := by
  have h15 := e_Has.get hT (c := 6 * t + 154) (k := 15) (lo := 0) (hi := 600) (kT_15 (t := t) rfl gt) (by decide)
  have hv1 : w (6 * t + 159) (w (6 * t + 154) 15) = v := by rw [show 6 * t + 159 = (6 * t + 154) + 5 by omega]; exact hv
  refine e_Ok.ps1 (x := (1, 6 * t + 154)) (q := 1) 1 rfl ?_
  have h1 := (e_Has.get hT (c := 6 * t + 154) (k := 15) (lo := 0) (hi := 600) (kT_15 (t := t) rfl gt) (by decide))
  refine e_Ok.getf (z := w (6 * t + 154) 15) rfl (lT0 (t := t) rfl gt) rfl rfl rfl (e_bq h1 (by decide) (by decide)) ?_
  refine e_Ok.ps1 (x := (0, 600)) (q := 7) 1 rfl ?_
  refine e_Ok.if2 rfl (fun h2 => ?_) (fun h2 => ?_)
  · replace h2 : (w (6 * t + 154) 15 : Int) ≥ 600 := h2
    refine e_Ok.ps1 (x := (0, 0)) (q := 23) 1 rfl ?_
    refine e_Ok.rets rfl rfl ?_
    exact ⟨_, rfl, rfl, by omega⟩
  · replace h2 : (w (6 * t + 154) 15 : Int) < 600 := Int.not_le.mp (show ¬ ((w (6 * t + 154) 15 : Int) ≥ 600) from h2)
    refine e_Ok.ps1 (x := (1, 6 * t + 154)) (q := 11) 1 rfl ?_
    refine e_Ok.getr (z := 6 * t + 159) rfl (lT0 (t := t) rfl gt) rfl rfl (Eq.trans (e_Has.eq hT (kT_20 (t := t) rfl gt)) (by omega)) (by omega) ?_
    refine e_Ok.ps1 (x := (1, 6 * t + 154)) (q := 15) 1 rfl ?_
    refine e_Ok.getf (z := w (6 * t + 154) 15) rfl (lT0 (t := t) rfl gt) rfl rfl rfl (by omega) ?_
    refine e_Ok.ald (z := v) rfl (lT5 (t := t) rfl gt) rfl (by omega) hv1 (by omega) ?_
    refine e_Ok.ps0 (q := 23) 1 rfl ?_
    refine e_Ok.rets rfl rfl ?_
    exact ⟨_, rfl, rfl, by omega⟩
theorem no_c6_0 {t : Int} (ht : 0 ≤ t ∧ t ≤ 15) : ¬ kLv t (6 * t + 154) 17 := by unfold kLv; omega
theorem c_189 {d : Nat} {w : eW} (hT : e_Has kTy w) {t : Int} (gt : 0 ≤ t ∧ t ≤ 15) {op : Int → Int} {z p H : Int} (gz : (0 ≤ z ∧ z ≤ 15) ∧ (4 ≤ z → z % 4 = 2)) (gp : -2147483648 ≤ p ∧ p ≤ 2147483647) (h1 : 1 ≤ w (6 * t + 154) 15) (hs : tS w (6 * t + 154) op H) (hv : 4 ≤ z → (-2147483648 ≤ w ((6 * t + 154) + 5) (w (6 * t + 154) 15 - 1) ∧ w ((6 * t + 154) + 5) (w (6 * t + 154) 15 - 1) ≤ 2147483647) ∧ (12 ≤ z → op (w ((6 * t + 154) + 5) (w (6 * t + 154) 15 - 1) + 1) = 49)) : e_Ok 20 elay kcode eI d 189 (0, [(0, (1, 6 * t + 154)), (1, (0, z)), (2, (0, p))], [], w) (fun r w' => r = [] ∧ e_fr (kLv t) w w' ∧ e_Has kTy w' ∧ tS w' (6 * t + 154) op H ∧ w' (6 * t + 154) 3 = p ∧ w' (6 * t + 154) 4 ≤ w (6 * t + 154) 4) := by
  have h15 := e_Has.get hT (c := 6 * t + 154) (k := 15) (lo := 0) (hi := 600) (kT_15 (t := t) rfl gt) (by decide)
  have h4 := e_Has.get hT (c := 6 * t + 154) (k := 4) (lo := 0) (hi := 20) (kT_4 (t := t) rfl gt) (by decide)
  refine e_Ok.ps1 (x := (1, 6 * t + 154)) (q := 1) 1 rfl ?_
  refine e_Ok.getr (z := 6 * t + 158) rfl (lT0 (t := t) rfl gt) rfl rfl (Eq.trans (e_Has.eq hT (kT_19 (t := t) rfl gt)) (by omega)) (by omega) ?_
  refine e_Ok.ps1 (x := (1, 6 * t + 154)) (q := 5) 1 rfl ?_
  have h1 := (e_Has.get hT (c := 6 * t + 154) (k := 15) (lo := 0) (hi := 600) (kT_15 (t := t) rfl gt) (by decide))
  refine e_Ok.getf (z := w (6 * t + 154) 15) rfl (lT0 (t := t) rfl gt) rfl rfl rfl (e_bq h1 (by decide) (by decide)) ?_
  refine e_Ok.ps1 (x := (0, 1)) (q := 9) 1 rfl ?_
  refine e_Ok.sub' (z := w (6 * t + 154) 15 - 1) rfl rfl (by omega) ?_
  refine e_Ok.ps1 (x := (0, z)) (q := 11) 1 rfl ?_
  refine e_Ok.ast rfl (lT4 (t := t) rfl gt) rfl rfl (by omega) ?_
  generalize hw2 : e_up w (6 * t + 158) (w (6 * t + 154) 15 - 1) z = w2
  have hT4 : e_Has kTy w2 := e_Has.ups hT hw2 (kT158 (t := t) _ rfl gt)
  have hL5 : ∀ (nn : Nat) (v1 : eW), e_fr (kLv t) w v1 ∧ e_Has kTy v1 ∧ (∀ c k, ¬ (c = (6 * t + 154) ∧ k = 4) → ¬ (c = 6 * t + 158 ∧ k = w (6 * t + 154) 15 - 1) → v1 c k = w c k) ∧ v1 (6 * t + 158) (w (6 * t + 154) 15 - 1) = z ∧ ((0 ≤ v1 (6 * t + 154) 4 ∧ v1 (6 * t + 154) 4 ≤ w (6 * t + 154) 4)) → v1 (6 * t + 154) 4 < nn → e_Ok 20 elay kcode eI d 189 (12, [(0, (1, 6 * t + 154)), (1, (0, z)), (2, (0, p))], [], v1) (fun r w' => r = [] ∧ e_fr (kLv t) w w' ∧ e_Has kTy w' ∧ tS w' (6 * t + 154) op H ∧ w' (6 * t + 154) 3 = p ∧ w' (6 * t + 154) 4 ≤ w (6 * t + 154) 4) := by
    intro nn
    induction nn with
    | zero => intro v1 hj hm; obtain ⟨j7, j8, j9, j10, j11⟩ := hj; exfalso; omega
    | succ nn ih6 =>
      intro v1 hj hm
      obtain ⟨j7, j8, j9, j10, j11⟩ := hj
      have e15 : v1 (6 * t + 154) 15 = w (6 * t + 154) 15 := j9 _ _ (by omega) (by omega)
      refine e_Ok.run (t' := (13, [(0, (1, 6 * t + 154)), (1, (0, z)), (2, (0, p))], [(1, 6 * t + 154)], v1)) 1 rfl ?_
      refine e_Ok.getf (z := v1 (6 * t + 154) 4) rfl (lT0 (t := t) rfl gt) rfl rfl rfl (by omega) ?_
      refine e_Ok.ps1 (x := (0, 1)) (q := 17) 1 rfl ?_
      refine e_Ok.if2 rfl (fun h12 => ?_) (fun h12 => ?_)
      · replace h12 : (v1 (6 * t + 154) 4 : Int) ≤ 1 := h12
        refine e_Ok.ps2 (x := (0, p)) (y := (1, 6 * t + 154)) (q := 53) 2 rfl ?_
        refine e_Ok.putf rfl (lT0 (t := t) rfl gt) rfl rfl ?_
        generalize hw13 : e_up v1 (6 * t + 154) 3 p = w13
        have hT15 : e_Has kTy w13 := e_Has.upr j8 hw13 (kT_3 (t := t) rfl gt) (by omega)
        refine e_Ok.rets rfl rfl ?_
        have e4 : w13 (6 * t + 154) 4 = v1 (6 * t + 154) 4 := (e_uq hw13 (Or.inr (by decide)) rfl)
        have e15 : w13 (6 * t + 154) 15 = w (6 * t + 154) 15 := by rw [← hw13, e_up_ne _ _ (by omega)]; exact j9 _ _ (by omega) (by omega)
        have ex : ∀ d k, d ≠ (6 * t + 154) → ¬ (d = (6 * t + 154) + 4 ∧ k = w (6 * t + 154) 15 - 1) → w13 d k = w d k := fun d k g1 g2 => by rw [← hw13, e_up_ne _ _ (by omega)]; exact j9 d k (by omega) (by omega)
        have e5 : w13 ((6 * t + 154) + 4) (w (6 * t + 154) 15 - 1) = z := by rw [← hw13, e_up_ne _ _ (by omega), show (6 * t + 154) + 4 = 6 * t + 158 by omega]; exact j10
        exact ⟨rfl, (show e_fr (kLv t) w w13 from e_fr.up j7 hw13 (by first | exact Or.inl ⟨(by omega), Or.inl rfl⟩ | (unfold kLv; omega))), hT15, tS.part (x := w (6 * t + 154) 15 - 1) hs (by omega) (by have := hs.1; omega) (by omega) (fun d k g1 g2 => ex _ _ (by omega) (by omega)) (fun k g => ex _ _ (by omega) (by omega)) e5 (fun k g => ex _ _ (by omega) (by omega)) (fun g => by rw [ex _ _ (by omega) (by omega)]; exact hv g), (e_ue hw13), by omega⟩
      · replace h12 : (v1 (6 * t + 154) 4 : Int) > 1 := Int.not_le.mp (show ¬ ((v1 (6 * t + 154) 4 : Int) ≤ 1) from h12)
        have hq := hs.2.1 (v1 (6 * t + 154) 4 - 1) (by omega) (by omega)
        have hq2 : v1 (6 * t + 156) (v1 (6 * t + 154) 4 - 1) = w (6 * t + 156) (v1 (6 * t + 154) 4 - 1) := j9 _ _ (by omega) (by omega)
        have hq3 : 0 ≤ w (6 * t + 156) (v1 (6 * t + 154) 4 - 1) ∧ w (6 * t + 156) (v1 (6 * t + 154) 4 - 1) ≤ H := by rw [show 6 * t + 156 = (6 * t + 154) + 2 by omega]; exact hq.2.2
        have hH := hs.1; clear hq
        refine e_Ok.ps1 (x := (1, 6 * t + 154)) (q := 21) 1 rfl ?_
        refine e_Ok.getr (z := 6 * t + 156) rfl (lT0 (t := t) rfl gt) rfl rfl ((j7 (6 * t + 154) 17 (by first | exact no_c6_0 (by omega) | (unfold kLv; omega))).trans (Eq.trans (e_Has.eq hT (kT_17 (t := t) rfl gt)) (by omega))) (by omega) ?_
        refine e_Ok.ps1 (x := (1, 6 * t + 154)) (q := 25) 1 rfl ?_
        refine e_Ok.getf (z := v1 (6 * t + 154) 4) rfl (lT0 (t := t) rfl gt) rfl rfl rfl (by omega) ?_
        refine e_Ok.ps1 (x := (0, 1)) (q := 29) 1 rfl ?_
        refine e_Ok.sub' (z := v1 (6 * t + 154) 4 - 1) rfl rfl (by omega) ?_
        refine e_Ok.ald (z := w (6 * t + 156) (v1 (6 * t + 154) 4 - 1)) rfl (lT2 (t := t) rfl gt) rfl (by omega) ((j7 (6 * t + 156) (v1 (6 * t + 154) 4 - 1) (by unfold kLv; omega)).trans rfl) (by omega) ?_
        refine e_Ok.ps1 (x := (1, 6 * t + 154)) (q := 32) 1 rfl ?_
        refine e_Ok.getf (z := w (6 * t + 154) 15) rfl (lT0 (t := t) rfl gt) rfl rfl e15 (by omega) ?_
        refine e_Ok.if2 rfl (fun h16 => ?_) (fun h16 => ?_)
        · replace h16 : (w (6 * t + 156) (v1 (6 * t + 154) 4 - 1) : Int) < w (6 * t + 154) 15 := h16
          refine e_Ok.ps2 (x := (0, p)) (y := (1, 6 * t + 154)) (q := 53) 2 rfl ?_
          refine e_Ok.putf rfl (lT0 (t := t) rfl gt) rfl rfl ?_
          generalize hw17 : e_up v1 (6 * t + 154) 3 p = w17
          have hT19 : e_Has kTy w17 := e_Has.upr j8 hw17 (kT_3 (t := t) rfl gt) (by omega)
          refine e_Ok.rets rfl rfl ?_
          have e4 : w17 (6 * t + 154) 4 = v1 (6 * t + 154) 4 := (e_uq hw17 (Or.inr (by decide)) rfl)
          have e15 : w17 (6 * t + 154) 15 = w (6 * t + 154) 15 := by rw [← hw17, e_up_ne _ _ (by omega)]; exact j9 _ _ (by omega) (by omega)
          have ex : ∀ d k, d ≠ (6 * t + 154) → ¬ (d = (6 * t + 154) + 4 ∧ k = w (6 * t + 154) 15 - 1) → w17 d k = w d k := fun d k g1 g2 => by rw [← hw17, e_up_ne _ _ (by omega)]; exact j9 d k (by omega) (by omega)
          have e5 : w17 ((6 * t + 154) + 4) (w (6 * t + 154) 15 - 1) = z := by rw [← hw17, e_up_ne _ _ (by omega), show (6 * t + 154) + 4 = 6 * t + 158 by omega]; exact j10
          exact ⟨rfl, (show e_fr (kLv t) w w17 from e_fr.up j7 hw17 (by first | exact Or.inl ⟨(by omega), Or.inl rfl⟩ | (unfold kLv; omega))), hT19, tS.part (x := w (6 * t + 154) 15 - 1) hs (by omega) (by have := hs.1; omega) (by omega) (fun d k g1 g2 => ex _ _ (by omega) (by omega)) (fun k g => ex _ _ (by omega) (by omega)) e5 (fun k g => ex _ _ (by omega) (by omega)) (fun g => by rw [ex _ _ (by omega) (by omega)]; exact hv g), (e_ue hw17), by omega⟩
        · replace h16 : (w (6 * t + 156) (v1 (6 * t + 154) 4 - 1) : Int) ≥ w (6 * t + 154) 15 := Int.not_lt.mp (show ¬ ((w (6 * t + 156) (v1 (6 * t + 154) 4 - 1) : Int) < w (6 * t + 154) 15) from h16)
          refine e_Ok.ps2 (x := (1, 6 * t + 154)) (y := (1, 6 * t + 154)) (q := 40) 2 rfl ?_
          refine e_Ok.getf (z := v1 (6 * t + 154) 4) rfl (lT0 (t := t) rfl gt) rfl rfl rfl (by omega) ?_
          refine e_Ok.ps1 (x := (0, 1)) (q := 44) 1 rfl ?_
          refine e_Ok.sub' (z := v1 (6 * t + 154) 4 - 1) rfl rfl (by omega) ?_
          refine e_Ok.putf rfl (lT0 (t := t) rfl gt) rfl rfl ?_
          generalize hw20 : e_up v1 (6 * t + 154) 4 (v1 (6 * t + 154) 4 - 1) = w20
          have hT22 : e_Has kTy w20 := e_Has.upr j8 hw20 (kT_4 (t := t) rfl gt) (by omega)
          refine e_Ok.ps0 (q := 12) 1 rfl ?_
          refine e_Ok.sub kAlk (e_sub_of rfl ?_) (ih6  w20 ⟨(show e_fr (kLv t) w w20 from e_fr.up j7 hw20 (by first | exact Or.inl ⟨(by omega), Or.inr (Or.inl rfl)⟩ | (unfold kLv; omega))), hT22, (fun c k g1 g2 => by rw [← hw20, e_up_ne _ _ (by omega)]; exact j9 c k g1 g2), (e_uq hw20 (by omega) j10), (by have e : w20 (6 * t + 154) 4 = v1 (6 * t + 154) 4 - 1 := (e_ue hw20); omega)⟩ (by have e : w20 (6 * t + 154) 4 = v1 (6 * t + 154) 4 - 1 := (e_ue hw20); omega))
          exact ⟨rfl, rfl, rfl, trivial⟩
  refine e_Ok.sub kAlk (e_sub_of rfl ?_) (hL5 (20 + 1 : Int).toNat  w2 ⟨(show e_fr (kLv t) w w2 from e_fr.up (e_fr.refl w) hw2 (by first | exact Or.inr (Or.inl (by omega)) | (unfold kLv; omega))), hT4, (fun c k g1 g2 => by rw [← hw2]; exact e_up_ne _ _ (by omega)), (e_ue hw2), (by have e : w2 (6 * t + 154) 4 = w (6 * t + 154) 4 := (e_uq hw2 (Or.inl (by omega)) rfl); omega)⟩ (by have e : w2 (6 * t + 154) 4 = w (6 * t + 154) 4 := (e_uq hw2 (Or.inl (by omega)) rfl); omega))
  exact ⟨rfl, rfl, rfl, trivial⟩
theorem c_185 {d : Nat} (hd : 21 ≤ d) {w : eW} (hT : e_Has kTy w) {t : Int} (gt : 0 ≤ t ∧ t ≤ 15) {cd : Int} {op od : Int → Int} (hk : kCd w cd op od) {col : Int → Int} (hD : cD op od col) {H : Int} (hs : tS w (6 * t + 154) op H) : e_Ok 20 elay kcode eI d 185 (0, [(0, (1, 6 * t + 154)), (1, (1, cd))], [], w) (fun r w' => r = [] ∧ e_fr (kLv t) w w' ∧ e_Has kTy w' ∧ tS w' (6 * t + 154) op H ∧ ((w (6 * t + 154) 15 < 1 ∧ w' = w) ∨ (40 ≤ op (w' (6 * t + 154) 3) ∧ w' (6 * t + 154) 4 = w (6 * t + 154) 4))) := by
  obtain ⟨d, rfl⟩ : ∃ e, d = e + 1 := ⟨d - 1, by omega⟩
  have hcd := hk.1
  have hcd0 := hk.1
  unfold isCd at hcd0
  have h15 := e_Has.get hT (c := 6 * t + 154) (k := 15) (lo := 0) (hi := 600) (kT_15 (t := t) rfl gt) (by decide)
  have h4 := e_Has.get hT (c := 6 * t + 154) (k := 4) (lo := 0) (hi := 20) (kT_4 (t := t) rfl gt) (by decide)
  have hH := hs.1
  refine e_Ok.ps1 (x := (1, 6 * t + 154)) (q := 1) 1 rfl ?_
  have h1 := (e_Has.get hT (c := 6 * t + 154) (k := 15) (lo := 0) (hi := 600) (kT_15 (t := t) rfl gt) (by decide))
  refine e_Ok.getf (z := w (6 * t + 154) 15) rfl (lT0 (t := t) rfl gt) rfl rfl rfl (e_bq h1 (by decide) (by decide)) ?_
  refine e_Ok.ps1 (x := (0, 1)) (q := 5) 1 rfl ?_
  refine e_Ok.if2 rfl (fun h2 => ?_) (fun h2 => ?_)
  · replace h2 : (w (6 * t + 154) 15 : Int) ≥ 1 := h2
    have hq := hs.2.2 (w (6 * t + 154) 15 - 1) (by omega) (by omega)
    have hq3 : ((0 ≤ w (6 * t + 157) (w (6 * t + 154) 15 - 1) ∧ w (6 * t + 157) (w (6 * t + 154) 15 - 1) ≤ 3999) ∧ op (w (6 * t + 157) (w (6 * t + 154) 15 - 1) + 1) = 49 ∧ op (w (6 * t + 157) (w (6 * t + 154) 15 - 1) + 2) = 49 ∧ op (w (6 * t + 157) (w (6 * t + 154) 15 - 1) + 3) = 49) ∧ (0 ≤ w (6 * t + 158) (w (6 * t + 154) 15 - 1) ∧ w (6 * t + 158) (w (6 * t + 154) 15 - 1) ≤ 15) := by rw [show 6 * t + 157 = (6 * t + 154) + 3 by omega, show 6 * t + 158 = (6 * t + 154) + 4 by omega]; exact ⟨hq.1, hq.2.1.1⟩
    clear hq
    refine e_Ok.ps1 (x := (1, 6 * t + 154)) (q := 10) 1 rfl ?_
    refine e_Ok.getr (z := 6 * t + 157) rfl (lT0 (t := t) rfl gt) rfl rfl (Eq.trans (e_Has.eq hT (kT_18 (t := t) rfl gt)) (by omega)) (by omega) ?_
    refine e_Ok.ps1 (x := (1, 6 * t + 154)) (q := 14) 1 rfl ?_
    refine e_Ok.getf (z := w (6 * t + 154) 15) rfl (lT0 (t := t) rfl gt) rfl rfl rfl (by omega) ?_
    refine e_Ok.ps1 (x := (0, 1)) (q := 18) 1 rfl ?_
    refine e_Ok.sub' (z := w (6 * t + 154) 15 - 1) rfl rfl (by omega) ?_
    refine e_Ok.ald (z := w (6 * t + 157) (w (6 * t + 154) 15 - 1)) rfl (lT3 (t := t) rfl gt) rfl (by omega) rfl (by omega) ?_
    refine e_Ok.run (t' := (24, [(2, (0, w (6 * t + 157) (w (6 * t + 154) 15 - 1))), (0, (1, 6 * t + 154)), (1, (1, cd))], [(0, 2), (0, w (6 * t + 157) (w (6 * t + 154) 15 - 1)), (1, cd)], w)) 4 rfl ?_
    refine e_Ok.add (z := w (6 * t + 157) (w (6 * t + 154) 15 - 1) + 2) rfl rfl (by omega) ?_
    refine e_Ok.callV rfl (e_dq hd rfl) rfl (lD0 hcd) rfl rfl (c_24 hT hk (by omega)) (fun r3 w4 h5 => ?_)
    obtain ⟨z6, rfl, rfl, q7, q7r⟩ := h5
    replace q7 : z6 = od (w (6 * t + 157) (w (6 * t + 154) 15 - 1) + 2) := q7
    refine e_Ok.nrm (q := 28) (st' := [(0, z6)]) rfl rfl ?_
    refine e_Ok.run (t' := (30, [(3, (0, z6)), (2, (0, w (6 * t + 157) (w (6 * t + 154) 15 - 1))), (0, (1, 6 * t + 154)), (1, (1, cd))], [(0, z6)], w)) 2 rfl ?_
    refine e_Ok.if1 rfl (fun h8 => ?_) (fun h8 => ?_)
    · replace h8 : (z6 : Int) ≠ 0 := h8
      refine e_Ok.ps1 (x := (1, 6 * t + 154)) (q := 58) 1 rfl ?_
      refine e_Ok.getr (z := 6 * t + 158) rfl (lT0 (t := t) rfl gt) rfl rfl (Eq.trans (e_Has.eq hT (kT_19 (t := t) rfl gt)) (by omega)) (by omega) ?_
      refine e_Ok.ps1 (x := (1, 6 * t + 154)) (q := 62) 1 rfl ?_
      refine e_Ok.getf (z := w (6 * t + 154) 15) rfl (lT0 (t := t) rfl gt) rfl rfl rfl (by omega) ?_
      refine e_Ok.ps1 (x := (0, 1)) (q := 66) 1 rfl ?_
      refine e_Ok.sub' (z := w (6 * t + 154) 15 - 1) rfl rfl (by omega) ?_
      refine e_Ok.ps1 (x := (0, 2)) (q := 68) 1 rfl ?_
      refine e_Ok.ast rfl (lT4 (t := t) rfl gt) rfl rfl (by omega) ?_
      generalize hw9 : e_up w (6 * t + 158) (w (6 * t + 154) 15 - 1) 2 = w9
      have hT11 : e_Has kTy w9 := e_Has.ups hT hw9 (kT158 (t := t) _ rfl gt)
      refine e_Ok.ps2 (x := (0, z6)) (y := (1, 6 * t + 154)) (q := 71) 2 rfl ?_
      refine e_Ok.putf rfl (lT0 (t := t) rfl gt) rfl rfl ?_
      generalize hw12 : e_up w9 (6 * t + 154) 3 z6 = w12
      have hT14 : e_Has kTy w12 := e_Has.upr hT11 hw12 (kT_3 (t := t) rfl gt) (by omega)
      refine e_Ok.rets rfl rfl ?_
      have e15 : w12 (6 * t + 154) 15 = w (6 * t + 154) 15 := (e_uq hw12 (Or.inr (by decide)) (e_uq hw9 (Or.inl (e_neo (by decide))) rfl))
      have e4 : w12 (6 * t + 154) 4 = w (6 * t + 154) 4 := (e_uq hw12 (Or.inr (by decide)) (e_uq hw9 (Or.inl (e_neo (by decide))) rfl))
      have e3 : w12 (6 * t + 154) 3 = z6 := (e_ue hw12)
      have ht := (hD.2.2 (w (6 * t + 157) (w (6 * t + 154) 15 - 1) + 2)).2.1 (Or.inr (Or.inr (by omega)))
      exact ⟨rfl, (show e_fr (kLv t) w w12 from e_fr.up (show e_fr (kLv t) w w9 from e_fr.up (e_fr.refl w) hw9 (by first | exact Or.inr (Or.inl (by omega)) | (unfold kLv; omega))) hw12 (by first | exact Or.inl ⟨(by omega), Or.inl rfl⟩ | (unfold kLv; omega))), hT14, tS.part (x := w (6 * t + 154) 15 - 1) (z := 2) hs (by omega) (by have := hs.1; omega) (by omega) (fun d k g1 g2 => by rw [← hw12, e_up_ne _ _ (by omega), ← hw9, e_up_ne _ _ (by omega)]) (fun k g => by rw [← hw12, e_up_ne _ _ (by omega), ← hw9, e_up_ne _ _ (by omega)]) (by rw [← hw12, e_up_ne _ _ (by omega), ← hw9, show (6 * t + 154) + 4 = 6 * t + 158 by omega]; exact e_up_eq _ _ _ _) (fun k g => by rw [← hw12, e_up_ne _ _ (by omega), ← hw9, e_up_ne _ _ (by omega)]) (fun g => by omega), Or.inr ⟨by rw [e3, q7]; exact ht, by omega⟩⟩
    · replace h8 : (z6 : Int) = 0 := Classical.not_not.mp (show ¬ ((z6 : Int) ≠ 0) from h8)
      refine e_Ok.ps2 (x := (1, 6 * t + 154)) (y := (1, 6 * t + 154)) (q := 35) 2 rfl ?_
      refine e_Ok.getf (z := w (6 * t + 154) 15) rfl (lT0 (t := t) rfl gt) rfl rfl rfl (by omega) ?_
      refine e_Ok.ps1 (x := (0, 1)) (q := 39) 1 rfl ?_
      refine e_Ok.sub' (z := w (6 * t + 154) 15 - 1) rfl rfl (by omega) ?_
      refine e_Ok.putf rfl (lT0 (t := t) rfl gt) rfl rfl ?_
      generalize hw15 : e_up w (6 * t + 154) 15 (w (6 * t + 154) 15 - 1) = w15
      have f16 : e_fr (kLv t) w w15 := e_fr.up (e_fr.refl w) hw15 (by first | exact Or.inl ⟨(by omega), Or.inr (Or.inr (Or.inr rfl))⟩ | (unfold kLv; omega))
      have hT17 : e_Has kTy w15 := e_Has.upr hT hw15 (kT_15 (t := t) rfl gt) (by omega)
      refine e_Ok.ps4 (x := (0, 3)) (y := (0, w (6 * t + 157) (w (6 * t + 154) 15 - 1))) (z := (1, cd)) (u := (1, 6 * t + 154)) (q := 47) 4 rfl ?_
      refine e_Ok.add (z := w (6 * t + 157) (w (6 * t + 154) 15 - 1) + 3) rfl rfl (by omega) ?_
      refine e_Ok.callV rfl (e_dq hd rfl) rfl (lD0 hcd) rfl rfl (c_24 hT17 (kCd.fr f16 (by unfold kLv; omega) (fun k => by unfold kLv; omega) hk) (by omega)) (fun r18 w19 h20 => ?_)
      obtain ⟨z21, rfl, rfl, q22, q22r⟩ := h20
      replace q22 : z21 = od (w (6 * t + 157) (w (6 * t + 154) 15 - 1) + 3) := q22
      refine e_Ok.nrm (q := 51) (st' := [(0, z21), (1, 6 * t + 154)]) rfl rfl ?_
      refine e_Ok.putf rfl (lT0 (t := t) rfl gt) rfl rfl ?_
      generalize hw23 : e_up w15 (6 * t + 154) 3 z21 = w23
      have hT25 : e_Has kTy w23 := e_Has.upr hT17 hw23 (kT_3 (t := t) rfl gt) (by omega)
      refine e_Ok.ps0 (q := 74) 1 rfl ?_
      refine e_Ok.rets rfl rfl ?_
      have e15 : w23 (6 * t + 154) 15 = w (6 * t + 154) 15 - 1 := (e_uq hw23 (Or.inr (by decide)) (e_ue hw15))
      have e4 : w23 (6 * t + 154) 4 = w (6 * t + 154) 4 := (e_uq hw23 (Or.inr (by decide)) (e_uq hw15 (Or.inr (by decide)) rfl))
      have e3 : w23 (6 * t + 154) 3 = z21 := (e_ue hw23)
      have ht := (hD.2.2 (w (6 * t + 157) (w (6 * t + 154) 15 - 1) + 3)).2.1 (Or.inr (Or.inr (by omega)))
      exact ⟨rfl, (show e_fr (kLv t) w w23 from e_fr.up f16 hw23 (by first | exact Or.inl ⟨(by omega), Or.inl rfl⟩ | (unfold kLv; omega))), hT25, tS.less hs (by have := hs.1; omega) (by omega) (fun d k g1 g2 => by rw [← hw23, e_up_ne _ _ (by omega), ← hw15, e_up_ne _ _ (by omega)]), Or.inr ⟨by rw [e3, q22]; exact ht, by omega⟩⟩
  · replace h2 : (w (6 * t + 154) 15 : Int) < 1 := Int.not_le.mp (show ¬ ((w (6 * t + 154) 15 : Int) ≥ 1) from h2)
    refine e_Ok.rets rfl rfl ?_
    exact ⟨rfl, e_fr.refl w, hT, hs, Or.inl ⟨by omega, rfl⟩⟩
end
end
