noncomputable section
/-! the book of the class -/
section D5
variable {w w' u v s : eW} {OP OD CL : Int → Int → Int} {S : Int → eW}
/-- what a cell's own run does not read, ways apart -/
def isX0 (c k : Int) : Prop := (c < 0 ∨ c = 1 ∨ (5 ≤ c ∧ c ≤ 7) ∨ (c = 0 ∧ 12 ≤ k) ∨ (262 ≤ c ∧ c ≤ 271) ∨ c = 273 ∨ 275 ≤ c) ∧ (kTy c k).1 ≠ (kTy c k).2
/-- nor the line that was looked at last -/
def isX (c k : Int) : Prop := isX0 c k ∨ (c = 250 ∧ 13 ≤ k ∧ k ≤ 16)
/-- ways that were kept -/
def kYs (n c k : Int) : Prop := (c = 269 ∧ 0 ≤ k ∧ k < 1000 * n) ∨ ((c = 270 ∨ c = 271) ∧ 0 ≤ k ∧ k < n)
theorem kYs.x {n c k : Int} (h : kYs n c k) : isX c k := by
  unfold kYs at h
  refine Or.inl ⟨by omega, ?_⟩
  obtain rfl | rfl | rfl : c = 269 ∨ c = 270 ∨ c = 271 := by omega
  all_goals exact (by decide : (1 : Int) ≠ 0)
def pj (w u : eW) : eW := fun c k => @ite _ (isX c k) (Classical.propDecidable _) (@ite _ (kYs (w 262 0) c k) (Classical.propDecidable _) (w c k) 2147483648) (u c k)
theorem pj_n {c k : Int} (h : ¬ isX c k) : pj w u c k = u c k := if_neg h
theorem pj_y {c k : Int} (h : kYs (w 262 0) c k) : pj w u c k = w c k := by
  unfold pj
  rw [if_pos h.x, if_pos h]
theorem pj_o {c k : Int} (h : isX c k) (h2 : ¬ kYs (w 262 0) c k) : pj w u c k = 2147483648 := by
  unfold pj
  rw [if_pos h, if_neg h2]
/-- v knows what s knows of the cell -/
def e_rx (s v : eW) : Prop := ∀ c k, ¬ isX c k → e_okz (s c k) = true → v c k = s c k
theorem e_rx.pj (h : e_rx s w) : e_rf (pj w s) w := fun c k g => by
  by_cases q : isX c k
  · by_cases y : kYs (w 262 0) c k
    · exact (pj_y y).symm
    · rw [pj_o q y] at g
      exact absurd g (by decide)
  · rw [pj_n q] at g ⊢
    exact h c k q g
theorem e_rx.rf {v' : eW} (h : e_rx s v) (hv : e_rf v v') : e_rx s v' := fun c k q g => by
  have e := h c k q g
  rw [hv c k (by rw [e]; exact g), e]
theorem e_rf.rx (h : e_rf s v) : e_rx s v := fun c k _ g => h c k g
theorem pj.rf (hp : ∀ c k, kYs (w 262 0) c k → kYs (w' 262 0) c k ∧ (e_okz (w c k) = true → w' c k = w c k)) : e_rf (pj w u) (pj w' u) := fun c k g => by
  by_cases q : isX c k
  · by_cases y : kYs (w 262 0) c k
    · rw [pj_y y] at g ⊢
      rw [pj_y (hp c k y).1]
      exact (hp c k y).2 g
    · rw [pj_o q y] at g
      exact absurd g (by decide)
  · rw [pj_n q, pj_n q]
/-- what is written outside the cell's own run is not known there -/
theorem pj.rfo {w1 : eW} (h : e_rf (pj w s) w) (hw : ∀ c k, (¬ isX c k ∨ (269 ≤ c ∧ c ≤ 271)) → w1 c k = w c k) : e_rf (pj w s) w1 := fun c k g => by
  by_cases q : isX c k
  · by_cases y : kYs (w 262 0) c k
    · rw [pj_y y]
      exact hw c k (Or.inr (by unfold kYs at y; omega))
    · rw [pj_o q y] at g
      exact absurd g (by decide)
  · rw [hw c k (Or.inl q)]
    exact h c k g
theorem rwC.eq {x a b c : Int} (h : rwC w x a b c) (e86 : ∀ a k, 0 ≤ a → a ≤ 3 → (k = 7 ∨ k = 8 ∨ k = 11 ∨ k = 17 ∨ k = 19) → w' (17 * a + 86) k = w (17 * a + 86) k) (eJ : ∀ a j k, 0 ≤ a → a ≤ 3 → 0 ≤ j → j < w (17 * a + 86) 8 → (k = 1 ∨ k = 2 ∨ k = 7) → w' (17 * a + j + 97) k = w (17 * a + j + 97) k) (e74 : w' 74 3 = w 74 3) (eC : ∀ a, 0 ≤ a → a ≤ 3 → w' (w (17 * a + 86) 7) 1 = w (w (17 * a + 86) 7) 1) (hy : x = 10 → yD w' (w (17 * a + 86) 8) b ∧ yP w' a (w (17 * a + 86) 8) b 0 (fun j => w' (17 * a + j + 97) 7)) : rwC w' x a b c := by
  obtain ⟨h1, h2, h3, h4, h5, h6, h7, h8, h9, h10⟩ := h
  refine ⟨h1, fun g => ?_, h3, h4, h5, h6, fun g => ?_, h8, fun g => ?_, fun g => ?_⟩
  · have z := h2 g
    rw [e86 a 7 z.1.1 z.1.2 (by omega), eC a z.1.1 z.1.2]
    exact z
  · have z := h7 g
    rw [e86 a 8 z.1.1 z.1.2 (by omega), e86 a 11 z.1.1 z.1.2 (by omega), eJ a b 1 z.1.1 z.1.2 z.2.1.1 z.2.1.2 (by omega), eJ a b 2 z.1.1 z.1.2 z.2.1.1 z.2.1.2 (by omega)]
    exact z
  · have z := h9 g
    rw [e86 a 8 z.1.1 z.1.2 (by omega), e86 a 11 z.1.1 z.1.2 (by omega)]
    exact ⟨z.1, z.2.1, z.2.2.1, hy g⟩
  · have z := h10 g
    rw [e86 a 17 z.1.1 z.1.2 (by omega), e86 a 11 z.1.1 z.1.2 (by omega), e86 a 19 z.1.1 z.1.2 (by omega), e74]
    exact z
theorem rwC.up {h t0 x a b c : Int} (q : kI u OP OD CL h t0) (hw : e_rf u v) (hR : rwC u x a b c) : rwC v x a b c := by
  have hT := q.1
  have hC := q.cd
  have e86 : ∀ a k, 0 ≤ a → a ≤ 3 → (k = 7 ∨ k = 8 ∨ k = 11 ∨ k = 17 ∨ k = 19) → v (17 * a + 86) k = u (17 * a + 86) k := fun a k g1 g2 g3 => by
    by_cases e : k = 7
    · rw [e]; exact (kn_cd (hC a g1 g2)).rf hw
    · exact kq_A hT hw ⟨g1, g2⟩ (by omega)
  have eJ : ∀ a j k, 0 ≤ a → a ≤ 3 → 0 ≤ j → j < u (17 * a + 86) 8 → (k = 1 ∨ k = 2 ∨ k = 7) → v (17 * a + j + 97) k = u (17 * a + j + 97) k := fun a j k g1 g2 g3 g4 g5 => by
    have hn := kn_joints hT ⟨g1, g2⟩
    exact kq_J hT hw ⟨g1, g2⟩ (by omega) (by omega)
  refine hR.eq e86 eJ (hT.kq hw (c := 74) (k := 3) (lo := 0) (hi := 1) rfl (by decide) (by decide) (by decide)) (fun a g1 g2 => hT.kq hw (kD_1 (hC a g1 g2)) (by decide) (by decide) (by decide)) (fun g => ?_)
  have z := hR.2.2.2.2.2.2.2.2.1 g
  have hn := kn_joints hT z.1
  exact ⟨z.2.2.2.1.rf hn.2 hw, z.2.2.2.2.rf hT hw z.1 hn.2 (by decide) z.2.2.2.1 (fun j g1 g2 => eJ a j 7 z.1.1 z.1.2 g1 g2 (by omega))⟩
/-- ticks, one behind another -/
def gd (u : eW) (OP OD CL : Int → Int → Int) : Prop := (∃ h, 0 ≤ h ∧ kI u OP OD CL h (-1)) ∧ u 74 0 < 6000 ∧ u 74 1 ≤ 1900000000
theorem gd.rf (hw : e_rf u v) (h : gd u OP OD CL) : gd v OP OD CL := by
  obtain ⟨⟨hh, q1, q2⟩, q3, q4⟩ := h
  refine ⟨⟨hh, q1, q2.rf hw⟩, ?_, ?_⟩
  · rw [q2.1.kq hw (c := 74) (k := 0) (lo := 0) (hi := 6000) rfl (by decide) (by decide) (by decide)]; exact q3
  · rw [q2.1.kq hw (c := 74) (k := 1) (lo := 0) (hi := 2147483647) rfl (by decide) (by decide) (by decide)]; exact q4
def tk1 (u v : eW) : Prop := e_Ok 20 elay kcode eI 29 259 (0, [(0, (1, 0))], [], u) (fun r v' => r = [] ∧ v' = v)
theorem tk1.rf {u' : eW} (h : tk1 u u') (hw : e_rf u v) : ∃ v', tk1 v v' ∧ e_rf u' v' := by
  obtain ⟨m, r, v', h4, u0, ⟨h5, h6⟩, h7⟩ := e_Ok.more kAlk (nd1 _ _) hw h
  rw [h6] at h7
  exact ⟨v', ⟨m, r, v', h4, h5, rfl⟩, h7⟩
def tkW (OP OD CL : Int → Int → Int) : Nat → eW → eW → Prop
  | 0, u, s => e_rx s u
  | n + 1, u, s => gd u OP OD CL ∧ ∃ u', tk1 u u' ∧ tkW OP OD CL n u' s
theorem tkW.rf : ∀ (n : Nat) {u v s : eW}, e_rf u v → tkW OP OD CL n u s → tkW OP OD CL n v s
  | 0, _, _, _, h, q => e_rx.rf q h
  | n + 1, _, _, _, h, q => by
    obtain ⟨g, u', h1, h2⟩ := q
    obtain ⟨v', h4, h7⟩ := h1.rf h
    exact ⟨g.rf h, v', h4, tkW.rf n h7 h2⟩
def tkE (OP OD CL : Int → Int → Int) : Nat → eW → eW → Prop
  | 0, u, v => v = u
  | n + 1, u, v => gd u OP OD CL ∧ ∃ u', tk1 u u' ∧ tkE OP OD CL n u' v
theorem tkE.snoc : ∀ (n : Nat) {u m v : eW}, tkE OP OD CL n u m → gd m OP OD CL → tk1 m v → tkE OP OD CL (n + 1) u v
  | 0, _, _, v, h, g, q => by
    have e : _ = _ := h
    subst e
    exact ⟨g, v, q, rfl⟩
  | n + 1, _, _, _, h, g, q => by
    obtain ⟨g1, u', h1, h2⟩ := h
    exact ⟨g1, u', h1, tkE.snoc n h2 g q⟩
theorem tkE.tkW : ∀ (n : Nat) {u v s : eW}, tkE OP OD CL n u v → e_rx s v → tkW OP OD CL n u s
  | 0, _, _, _, h, q => by
    have e : _ = _ := h
    subst e
    exact q
  | n + 1, _, _, _, h, q => by
    obtain ⟨g1, u', h1, h2⟩ := h
    exact ⟨g1, u', h1, tkE.tkW n h2 q⟩
def l5 (x a b c : Int) : eL := [(0, (1, 0)), (1, (0, x)), (2, (0, a)), (3, (0, b)), (4, (0, c))]
theorem l5_nd (x a b c : Int) : ((l5 x a b c).map Prod.fst).Nodup := by
  show ([0, 1, 2, 3, 4] : List Nat).Nodup
  decide
/-- a row leads from u to s -/
def rws (u : eW) (OP OD CL : Int → Int → Int) (x a b c : Int) (s : eW) : Prop := (x ≠ 1 ∧ rwC u x a b c ∧ e_Ok 20 elay kcode eI 27 256 (0, l5 x a b c, [], u) (fun r v => (∃ z, r = [(0, z)]) ∧ e_rx s v)) ∨ (x = 1 ∧ (1 ≤ a ∧ a ≤ 1000) ∧ tkW OP OD CL a.toNat u s)
theorem rws.rf {h t0 x a b c : Int} (q : kI u OP OD CL h t0) (hR : rws u OP OD CL x a b c s) (hv : e_rf u v) : rws v OP OD CL x a b c s := by
  rcases hR with ⟨h1, hc, h2⟩ | ⟨h1, hc, h2⟩
  · refine Or.inl ⟨h1, hc.up q hv, (e_Ok.more kAlk (l5_nd x a b c) hv h2).imp (fun r v' q => ?_)⟩
    obtain ⟨u0, q1, q2⟩ := q
    exact ⟨q1.1, q1.2.rf q2⟩
  · exact Or.inr ⟨h1, hc, tkW.rf _ hv h2⟩
/-- the book leads to where the cell stands -/
def kB (w : eW) (OP OD CL : Int → Int → Int) (S : Int → eW) : Prop :=
  ((0 ≤ w 0 12 ∧ w 0 12 ≤ 2000) ∧ 0 ≤ w 262 0 ∧ w 262 0 ≤ 60) ∧ ((∀ c k, Kc c k → kn1 (w c k)) ∧ ∀ a, 0 ≤ a → a ≤ 3 → aP w a) ∧ bas w (S 0) ∧ e_rx (S (w 0 12)) w ∧
  (∀ i, 0 ≤ i → i ≤ w 0 12 → (∃ h, 0 ≤ h ∧ kI (pj w (S i)) OP OD CL h (-1)) ∧ S i 74 1 ≤ 16 * i + 900 * S i 74 0) ∧
  (∀ i, 0 ≤ i → i < w 0 12 → (∀ j, 4 * i ≤ j → j ≤ 4 * i + 3 → kn1 (w 273 j)) ∧ rws (pj w (S i)) OP OD CL (w 273 (4 * i)) (w 273 (4 * i + 1)) (w 273 (4 * i + 2)) (w 273 (4 * i + 3)) (S (i + 1)))
theorem kB.live (h : kB w OP OD CL S) : ∃ hh, 0 ≤ hh ∧ kI w OP OD CL hh (-1) := by
  obtain ⟨hh, q1, q2⟩ := (h.2.2.2.2.1 (w 0 12) h.1.1.1 (Int.le_refl _)).1
  exact ⟨hh, q1, q2.rf h.2.2.2.1.pj⟩
theorem bas.eq (h : bas w s) (hK : ∀ c k, Kc c k → w' c k = w c k) : bas w' s := fun u hu hT => h u (fun c k g => (hu c k g).trans (hK c k g)) hT
theorem kYs.le {n m c k : Int} (h : kYs n c k) (hn : n ≤ m) : kYs m c k := by unfold kYs at h ⊢; omega
theorem kB.keep (h : kB w OP OD CL S) (hK : ∀ c k, Kc c k → w' c k = w c k) (h12 : w' 0 12 = w 0 12) (h262 : w 262 0 ≤ w' 262 0 ∧ w' 262 0 ≤ 60) (hY : ∀ c k, kYs (w 262 0) c k → e_okz (w c k) = true → w' c k = w c k) (hB : ∀ k, 0 ≤ k → k < 4 * w 0 12 → w' 273 k = w 273 k) (hx : e_rx (S (w 0 12)) w') (hA : ∀ a, 0 ≤ a → a ≤ 3 → aP w' a) : kB w' OP OD CL S := by
  obtain ⟨h1, h2, h3, h4, h5, h6⟩ := h
  have hp : ∀ i, e_rf (pj w (S i)) (pj w' (S i)) := fun i => pj.rf (fun c k g => ⟨g.le h262.1, hY c k g⟩)
  refine ⟨by omega, ⟨fun c k g => by rw [hK c k g]; exact h2.1 c k g, hA⟩, h3.eq hK, by rw [h12]; exact hx, fun i g1 g2 => ?_, fun i g1 g2 => ?_⟩
  · obtain ⟨⟨hh, q1, q2⟩, q3⟩ := h5 i g1 (by omega)
    exact ⟨⟨hh, q1, q2.rf (hp i)⟩, q3⟩
  · rw [h12] at g2
    obtain ⟨q1, q2⟩ := h6 i g1 g2
    refine ⟨fun j g3 g4 => by rw [hB j (by omega) (by omega)]; exact q1 j g3 g4, ?_⟩
    rw [hB (4 * i) (by omega) (by omega), hB (4 * i + 1) (by omega) (by omega), hB (4 * i + 2) (by omega) (by omega), hB (4 * i + 3) (by omega) (by omega)]
    obtain ⟨hh, -, q9⟩ := (h5 i g1 (by omega)).1
    exact q2.rf q9 (hp i)
theorem Kq.c {c k : Int} (h : Kq c k) : Kc c k := ⟨h.1, by rcases h.2 with g | g; exact Or.inl g; exact Or.inr (Or.inl g)⟩
theorem aP.rf {a : Int} (hT : e_Has kTy w) (hK : ∀ c k, Kq c k → kn1 (w c k)) (hw : e_rf w w') (hk : aK w a) (ga : 0 ≤ a ∧ a ≤ 3) (h : aP w a) : aP w' a := by
  have hjn := kn_joints hT ga
  have e8 : w' (17 * a + 86) 8 = w (17 * a + 86) 8 := kq_A hT hw ga (by omega)
  intro k g1 g2
  rw [e8] at g2
  unfold aK at hk
  rw [PLC_eq e8 (fun c k q => by
    rcases q with q | ⟨j, hj, rfl, rfl⟩
    · exact (hK c k q).rf hw
    · exact kq_J hT hw ga (by omega) (by omega)), (show kn1 (w (17 * a + 88) k) from hk.1 k (by omega) g2).rf hw, (show kn1 (w (17 * a + 89) k) from hk.2 k (by omega) g2).rf hw]
  exact h k g1 g2
theorem kB.rf (hw : e_rf w w') (h : kB w OP OD CL S) : kB w' OP OD CL S := by
  obtain ⟨hh, -, hI⟩ := h.live
  have hT := hI.1
  have e12 : w' 0 12 = w 0 12 := (kn1.of h.1.1 (by decide) (by decide)).rf hw
  have e62 : w' 262 0 = w 262 0 := (kn1.of h.1.2 (by decide) (by decide)).rf hw
  obtain ⟨h1, h2, h3, h4, h5, h6⟩ := h
  have hK : ∀ c k, Kc c k → w' c k = w c k := fun c k g => (h2.1 c k g).rf hw
  have hp : ∀ i, e_rf (pj w (S i)) (pj w' (S i)) := fun i => pj.rf (fun c k g => ⟨by rw [e62]; exact g, fun q => hw c k q⟩)
  refine ⟨by omega, ⟨fun c k g => by rw [hK c k g]; exact h2.1 c k g, fun a g1 g2 => aP.rf hT (fun c k g => h2.1 c k (Kq.c g)) hw (hI.arm g1 g2).1 ⟨g1, g2⟩ (h2.2 a g1 g2)⟩, h3.eq hK, by rw [e12]; exact h4.rf hw, fun i g1 g2 => ?_, fun i g1 g2 => ?_⟩
  · obtain ⟨⟨hh, q1, q2⟩, q3⟩ := h5 i g1 (by omega)
    exact ⟨⟨hh, q1, q2.rf (hp i)⟩, q3⟩
  · rw [e12] at g2
    obtain ⟨q1, q2⟩ := h6 i g1 g2
    have eb : ∀ j, 4 * i ≤ j → j ≤ 4 * i + 3 → w' 273 j = w 273 j := fun j g3 g4 => (q1 j g3 g4).rf hw
    refine ⟨fun j g3 g4 => by rw [eb j g3 g4]; exact q1 j g3 g4, ?_⟩
    rw [eb (4 * i) (by omega) (by omega), eb (4 * i + 1) (by omega) (by omega), eb (4 * i + 2) (by omega) (by omega), eb (4 * i + 3) (by omega) (by omega)]
    obtain ⟨hh, -, q9⟩ := (h5 i g1 (by omega)).1
    exact q2.rf q9 (hp i)
/-- a row more -/
theorem kB.add {x a b c : Int} (h : kB w OP OD CL S) (hK : ∀ c k, Kc c k → w' c k = w c k) (hn : w 0 12 ≤ 1999) (h12 : w' 0 12 = w 0 12 + 1) (h262 : w' 262 0 = w 262 0) (hY : ∀ c k, 269 ≤ c → c ≤ 271 → w' c k = w c k) (hB : ∀ k, k < 4 * w 0 12 → w' 273 k = w 273 k) (hr : w' 273 (4 * w 0 12) = x ∧ w' 273 (4 * w 0 12 + 1) = a ∧ w' 273 (4 * w 0 12 + 2) = b ∧ w' 273 (4 * w 0 12 + 3) = c) (hk : kn1 x ∧ kn1 a ∧ kn1 b ∧ kn1 c)
    (hI : ∃ hh, 0 ≤ hh ∧ kI v OP OD CL hh (-1)) (hv : ∀ c k, isX0 c k → v c k = pj w (S (w 0 12)) c k) (he : v 74 1 ≤ 16 * (w 0 12 + 1) + 900 * v 74 0) (hx : e_rx v w') (hA : ∀ a, 0 ≤ a → a ≤ 3 → aP w' a) (hR : rws (pj w (S (w 0 12))) OP OD CL x a b c v) : kB w' OP OD CL (fun i => if i ≤ w 0 12 then S i else v) := by
  obtain ⟨h1, h2, h3, h4, h5, h6⟩ := h
  have ep : ∀ s, pj w' s = pj w s := fun s => by
    funext c k
    by_cases q : isX c k
    · by_cases y : kYs (w 262 0) c k
      · rw [pj_y y, pj_y (w := w') (by rw [h262]; exact y)]; exact hY c k (by unfold kYs at y; omega) (by unfold kYs at y; omega)
      · rw [pj_o q y, pj_o (w := w') q (by rw [h262]; exact y)]
    · rw [pj_n q, pj_n q]
  have ev : ∀ c k, ¬ (c = 250 ∧ 13 ≤ k ∧ k ≤ 16) → pj w' v c k = v c k := fun c k g => by
    by_cases q : isX0 c k
    · rw [hv c k q, ← ep]
      unfold pj
      rw [if_pos (show isX c k from Or.inl q), if_pos (show isX c k from Or.inl q)]
    · exact pj_n (fun g2 => by rcases g2 with g2 | g2; exact q g2; exact g g2)
  have eI : ∃ hh, 0 ≤ hh ∧ kI (pj w' v) OP OD CL hh (-1) := by
    obtain ⟨hh, k1, k2⟩ := hI
    refine ⟨hh, k1, k2.hm (fun c k hl => ?_) (fun c k g => ev c k (fun g2 => g (Or.inr (Or.inr (Or.inl g2)))))⟩
    rw [ev c k (fun g2 => by
      obtain ⟨rfl, g3, g4⟩ := g2
      obtain rfl | rfl | rfl | rfl : k = 13 ∨ k = 14 ∨ k = 15 ∨ k = 16 := by omega
      all_goals exact absurd (show (1 : Int) ≤ 0 from hl) (by decide))]
    exact k2.1 c k hl
  refine ⟨by omega, ⟨fun c k g => by rw [hK c k g]; exact h2.1 c k g, hA⟩, ?_, ?_, fun i g1 g2 => ?_, fun i g1 g2 => ?_⟩
  · show bas w' (if (0 : Int) ≤ w 0 12 then S 0 else v)
    rw [if_pos h1.1.1]
    exact h3.eq hK
  · show e_rx (if w' 0 12 ≤ w 0 12 then S (w' 0 12) else v) w'
    rw [if_neg (by omega)]
    exact hx
  · show (∃ hh, 0 ≤ hh ∧ kI (pj w' (if i ≤ w 0 12 then S i else v)) OP OD CL hh (-1)) ∧ (if i ≤ w 0 12 then S i else v) 74 1 ≤ 16 * i + 900 * (if i ≤ w 0 12 then S i else v) 74 0
    by_cases g : i ≤ w 0 12
    · rw [if_pos g, ep]
      exact h5 i g1 g
    · rw [if_neg g, show i = w 0 12 + 1 by omega]
      exact ⟨eI, he⟩
  · show (∀ j, 4 * i ≤ j → j ≤ 4 * i + 3 → kn1 (w' 273 j)) ∧ rws (pj w' (if i ≤ w 0 12 then S i else v)) OP OD CL _ _ _ _ (if i + 1 ≤ w 0 12 then S (i + 1) else v)
    rw [if_pos (by omega), ep]
    by_cases g : i + 1 ≤ w 0 12
    · rw [if_pos g]
      obtain ⟨q1, q2⟩ := h6 i g1 (by omega)
      refine ⟨fun j g3 g4 => by rw [hB j (by omega)]; exact q1 j g3 g4, ?_⟩
      rw [hB (4 * i) (by omega), hB (4 * i + 1) (by omega), hB (4 * i + 2) (by omega), hB (4 * i + 3) (by omega)]
      exact q2
    · rw [if_neg g, show i = w 0 12 by omega, hr.1, hr.2.1, hr.2.2.1, hr.2.2.2]
      refine ⟨fun j g3 g4 => ?_, hR⟩
      obtain rfl | rfl | rfl | rfl : j = 4 * w 0 12 ∨ j = 4 * w 0 12 + 1 ∨ j = 4 * w 0 12 + 2 ∨ j = 4 * w 0 12 + 3 := by omega
      · rw [hr.1]; exact hk.1
      · rw [hr.2.1]; exact hk.2.1
      · rw [hr.2.2.1]; exact hk.2.2.1
      · rw [hr.2.2.2]; exact hk.2.2.2
/-- back to the row n -/
theorem kB.back {n : Int} (h : kB w OP OD CL S) (hn : 0 ≤ n ∧ n ≤ w 0 12) (hK : ∀ c k, Kc c k → w' c k = w c k) (h12 : w' 0 12 = n) (h262 : w' 262 0 = w 262 0) (hY : ∀ c k, 269 ≤ c → c ≤ 271 → w' c k = w c k) (hB : ∀ k, w' 273 k = w 273 k) (hx : e_rx (S n) w') (hA : ∀ a, 0 ≤ a → a ≤ 3 → aP w' a) : kB w' OP OD CL S := by
  obtain ⟨h1, h2, h3, h4, h5, h6⟩ := h
  have ep : ∀ i, e_rf (pj w (S i)) (pj w' (S i)) := fun i => pj.rf (fun c k g => ⟨by rw [h262]; exact g, fun _ => hY c k (by unfold kYs at g; omega) (by unfold kYs at g; omega)⟩)
  refine ⟨by omega, ⟨fun c k g => by rw [hK c k g]; exact h2.1 c k g, hA⟩, h3.eq hK, by rw [h12]; exact hx, fun i g1 g2 => ?_, fun i g1 g2 => ?_⟩
  · obtain ⟨⟨hh, q1, q2⟩, q3⟩ := h5 i g1 (by omega)
    exact ⟨⟨hh, q1, q2.rf (ep i)⟩, q3⟩
  · obtain ⟨q1, q2⟩ := h6 i g1 (by omega)
    refine ⟨fun j g3 g4 => by rw [hB j]; exact q1 j g3 g4, ?_⟩
    rw [hB (4 * i), hB (4 * i + 1), hB (4 * i + 2), hB (4 * i + 3)]
    obtain ⟨hh, -, q9⟩ := (h5 i g1 (by omega)).1
    exact q2.rf q9 (ep i)
/-- a row is carried out, here and from what is known -/
theorem car_r {d : Nat} (hd : 27 ≤ d) {U : eW} {h x a b c : Int} (hw : e_rf U w) (q : kI U OP OD CL h (-1)) (h0 : 0 ≤ h) (he : U 74 1 ≤ 2147000000) (hR : rwC U x a b c) (ga : kn1 a) (gb : kn1 b) (gc : kn1 c) :
    e_Ok 20 elay kcode eI d 256 (0, l5 x a b c, [], w) (fun r v => ((∃ z : Int, r = [(0, z)]) ∧ e_fr kNw w v ∧ e_Has kTy v ∧ ∃ V, e_rf V v ∧ kI V OP OD CL h (-1) ∧ e_fr kNw U V ∧ V 74 0 = U 74 0 ∧ V 74 1 ≤ U 74 1 + 16 ∧ (x ≠ 1 → rws U OP OD CL x a b c V) ∧ aQ w v) ∧ ∀ c k, e_out elay c k → v c k = w c k) := by
  have e741 := q.1.kq hw (c := 74) (k := 1) (lo := 0) (hi := 2147483647) rfl (by decide) (by decide) (by decide)
  have hu := c_256 (d := 27) (by decide) q.1 ga gb gc q h0 he hR
  have hu2 := c_256 (d := d) (by omega) q.1 ga gb gc q h0 he hR
  have hl := c_256 (d := d) (by omega) (q.rf hw).1 ga gb gc (q.rf hw) h0 (by omega) (hR.up q hw)
  refine (k_rel (l5_nd x a b c) hw hu2 hl).imp (fun r v g => ?_)
  obtain ⟨⟨⟨z, g1, g2, ⟨g3, -⟩, -, -, -, g6⟩, -, g4⟩, g5⟩ := g
  obtain ⟨z', p1, p2, ⟨p3, p4⟩, p5, p6, p7, -⟩ := k_phi_ok hu
  refine ⟨⟨⟨z, g1⟩, g3, g2, _, g4, p5, p3, p4, p7, fun hx => Or.inl ⟨hx, hR, ?_⟩, g6⟩, g5⟩
  obtain ⟨n, r0, v0, k1, k2⟩ := hu
  have e := k_phi_eq k1
  refine ⟨n, r0, v0, k1, ⟨z', ?_⟩, ?_⟩
  · have e1 : (k_phi 256 (0, l5 x a b c, [], U)).1 = r0 := congrArg Prod.fst e
    rw [← e1]; exact p1
  · have e2 : (k_phi 256 (0, l5 x a b c, [], U)).2 = v0 := congrArg Prod.snd e
    show e_rx (k_phi 256 (0, l5 x a b c, [], U)).2 v0
    rw [e2]
    exact (e_rf.refl v0).rx
/-- a tick, here and from what is known -/
theorem tick_r {d : Nat} (hd : 29 ≤ d) {U : eW} (hw : e_rf U w) (hg : gd U OP OD CL) :
    e_Ok 20 elay kcode eI d 259 (0, [(0, (1, 0))], [], w) (fun r v => (r = [] ∧ e_fr kNw w v ∧ e_Has kTy v ∧ ∃ V, e_rf V v ∧ tk1 U V ∧ (∃ hh, 0 ≤ hh ∧ kI V OP OD CL hh (-1)) ∧ e_fr kNw U V ∧ V 74 0 = U 74 0 + 1 ∧ V 74 1 ≤ U 74 1 + 900 ∧ aQ w v) ∧ ∀ c k, e_out elay c k → v c k = w c k) := by
  obtain ⟨⟨hh, q1, q⟩, q3, q4⟩ := hg
  have e740 := q.1.kq hw (c := 74) (k := 0) (lo := 0) (hi := 6000) rfl (by decide) (by decide) (by decide)
  have e741 := q.1.kq hw (c := 74) (k := 1) (lo := 0) (hi := 2147483647) rfl (by decide) (by decide) (by decide)
  have hu := c_259 (d := 29) (by decide) q.1 q q1 q3 q4
  have hu2 := c_259 (d := d) hd q.1 q q1 q3 q4
  have hl := c_259 (d := d) hd (q.rf hw).1 (q.rf hw) q1 (by omega) (by omega)
  refine (k_rel (nd1 _ _) hw hu2 hl).imp (fun r v g => ?_)
  obtain ⟨⟨⟨g1, g2, ⟨g3, -⟩, h9, -, -, -, -, g6⟩, -, g4⟩, g5⟩ := g
  obtain ⟨p1, p2, ⟨p3, p4⟩, h', p5, p6, p7, p8, -⟩ := k_phi_ok hu
  refine ⟨⟨g1, g3, g2, _, g4, ?_, ⟨h', by omega, p6⟩, p3, p4, p8, g6⟩, g5⟩
  obtain ⟨n, r0, v0, k1, k2, -⟩ := hu
  have e := k_phi_eq k1
  exact ⟨n, r0, v0, k1, k2, (congrArg Prod.snd e).symm⟩
end D5
end
