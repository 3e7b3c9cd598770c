noncomputable section
/-! the book grows -/
theorem wn_of {w v : eW} {s : Int → Int} (hK : ∀ c k, c ≠ 276 → K0 c k → v c k = w c k) : ∀ c k, K0 c k → wn v s c k = wn w s c k := fun c k q => by
  unfold wn
  by_cases e : c = 276
  · rw [if_pos e, if_pos e]
  · rw [if_neg e, if_neg e]; exact hK c k e q
theorem wn_now {w v : eW} (hK : ∀ c k, c ≠ 276 → K0 c k → v c k = w c k) : ∀ c k, K0 c k → wn v (w 276) c k = w c k := fun c k q => by
  unfold wn
  by_cases e : c = 276
  · rw [if_pos e, e]
  · rw [if_neg e]; exact hK c k e q
theorem plN_wn {v w : eW} {s : Int → Int} {a n z k : Int} {g : Int → Int} : plN (wn v s) a n z g k = plN (wn w s) a n z g k := by
  unfold plN
  rw [show wn v s 276 k = wn w s 276 k from by unfold wn; rw [if_pos rfl, if_pos rfl]]
theorem bkR.next {w w' : eW} {i : Int} {s s' : Int → Int} (h : bkR w i s s') (hK : ∀ c k, c ≠ 276 → K0 c k → w' c k = w c k) (h9 : ∀ j, 4 * i ≤ j → j ≤ 4 * i + 3 → w' 279 j = w 279 j) (h5 : w' 355 i = w 355 i) (h6 : w' 356 i = w 356 i) (h4 : ∀ k, 0 ≤ k → k < w 356 i → w' 354 k = w 354 k) : bkR w' i s s' := by
  have hu := wn_of (s := s) hK
  obtain ⟨q1, q2⟩ := h
  refine ⟨fun j g1 g2 => by rw [h9 j g1 g2]; exact q1 j g1 g2, ?_⟩
  rw [h9 (4 * i) (by omega) (by omega), h9 (4 * i + 1) (by omega) (by omega), h9 (4 * i + 2) (by omega) (by omega), h9 (4 * i + 3) (by omega) (by omega), h5, h6]
  rcases q2 with ⟨q2, q3⟩ | ⟨q2, q3, z, g, z1, z2, z3, z4, z5⟩
  · exact Or.inl ⟨q2.low hu, fun k => by rw [rowF_eq hu]; exact q3 k⟩
  · exact Or.inr ⟨q2, q3.low hu, z, g, z1, z2, z3, fun j g1 g2 => by rw [h4 _ (by omega) (by omega)]; exact z4 j g1 g2, fun k => (z5 k).trans plN_wn⟩
theorem bkI.E {w : eW} {G : Int → Gh} {S : Int → Int → Int} (h : bkI w G S) : 0 ≤ wE w ∧ wE w ≤ 999 * w 275 118 ∧ ∀ i, 0 ≤ i → i < w 275 5 → w 356 i ≤ wE w := by
  obtain ⟨-, -, -, -, -, h6, h7, -, h9⟩ := h
  unfold wE
  by_cases e : w 275 5 = 0
  · rw [if_pos e]
    exact ⟨by decide, by omega, fun i g1 g2 => by omega⟩
  · rw [if_neg e]
    have := h6 (w 275 5 - 1) (w 275 5 - 1) (by omega) (by omega) (by omega)
    exact ⟨this.1, this.2.2, fun i g1 g2 => (h6 i (w 275 5 - 1) g1 (by omega) (by omega)).2.1⟩
theorem bkI.bk {w : eW} {G : Int → Gh} {S : Int → Int → Int} (h : bkI w G S) : bkE w := by
  obtain ⟨-, -, -, -, -, h6, h7, h8, h9⟩ := h
  refine ⟨h9, Or.inl h8, fun g => ?_⟩
  have := h6 (w 275 5 - 1) (w 275 5 - 1) (by omega) (by omega) (by omega)
  omega
theorem bkI.low {w w' : eW} {G : Int → Gh} {S : Int → Int → Int} (h : bkI w G S) (hF : frB w w') (hs : ∀ k, w' 276 k = w 276 k) (hp : w 275 118 ≤ w' 275 118 ∧ w' 275 118 ≤ 60) (h60 : w' 275 6 = 0) : bkI w' G S := by
  obtain ⟨h1, h2, h3, h4, h5, h6, h7, h8, h9⟩ := h
  have hK : ∀ c k, c ≠ 276 → K0 c k → w' c k = w c k := fun c k q1 q2 => hF c k q1 (Or.inl q2)
  have e5 : w' 275 5 = w 275 5 := hF _ _ (by decide) (by omega)
  have e : ∀ c k, (277 ≤ c ∧ c ≤ 279) ∨ (354 ≤ c ∧ c ≤ 356) → w' c k = w c k := fun c k q => hF c k (by omega) (by omega)
  refine ⟨fun k => by rw [e5, hs]; exact h1 k, fun i g1 g2 => ?_, fun k g1 g2 => by rw [e 277 k (by omega)]; exact h3 k g1 g2, fun q k g1 g2 g3 g4 => by rw [e 278 _ (by omega)]; exact h4 q k g1 (by omega) g3 g4, fun i g1 g2 => ?_, fun i j g1 g2 g3 => ?_, by omega, h60, by omega⟩
  · obtain ⟨q1, q2, q3⟩ := h2 i g1 (by omega)
    exact ⟨q1.low (wn_of hK), q2, fun k g => by rw [hs]; exact q3 k g⟩
  · exact (h5 i g1 (by omega)).next hK (fun j _ _ => e 279 j (by omega)) (e 355 i (by omega)) (e 356 i (by omega)) (fun k _ _ => e 354 k (by omega))
  · rw [e 356 i (by omega), e 356 j (by omega)]
    have := h6 i j g1 g2 (by omega)
    omega
theorem bkI.add {w wm w' : eW} {G : Int → Gh} {S : Int → Int → Int} {x a b c : Int} (h : bkI w G S) (hm : frB w wm) (hm6 : wm 275 6 = w 275 6) (hw : wrR wm w' (w 275 5) (wE w) x a b c) (hN : w 275 5 ≤ 1999) (hI : mInv w' G) (hev : evG w w') (hout : ∀ k, (k < 0 ∨ 33060 ≤ k) → w' 276 k = w 276 k) (hrow : bkR w' (w 275 5) (w 276) (w' 276)) (hp : w 275 118 ≤ w' 275 118 ∧ w' 275 118 ≤ 60) (hE : wE w ≤ w' 356 (w 275 5) ∧ w' 356 (w 275 5) ≤ 999 * w' 275 118) : bkI w' G (fun i => if i ≤ w 275 5 then S i else w' 276) := by
  have hEE := h.E
  obtain ⟨h1, h2, h3, h4, h5, h6, h7, h8, h9⟩ := h
  obtain ⟨w1, w2, w3, w4, w5⟩ := hw
  have nK : ∀ c k, K0 c k → ¬ mWr (w 275 5) (wE w) c k := fun c k q q1 => wr_K0 q1 q
  have hK : ∀ c k, c ≠ 276 → K0 c k → w' c k = w c k := fun c k q1 q2 => (w3 c k (nK c k q2)).trans (hm c k q1 (Or.inl q2))
  have e77 : ∀ k, w' 277 k = w 277 k := fun k => (w3 277 k (by unfold mWr mKw mSo; omega)).trans (hm 277 k (by decide) (by omega))
  have e78 : ∀ k, ¬ mSo (w 275 5) 278 k → w' 278 k = w 278 k := fun k q => (w3 278 k (fun q1 => by rcases q1 with q1 | q1 | q1 | q1; omega; (unfold mKw at q1; omega); omega; exact q q1)).trans (hm 278 k (by decide) (by omega))
  have e79 : ∀ k, k < 4 * w 275 5 → w' 279 k = w 279 k := fun k q => (w3 279 k (by unfold mWr mKw mSo; omega)).trans (hm 279 k (by decide) (by omega))
  have e5 : ∀ c k, c = 355 ∨ c = 356 → k < w 275 5 → w' c k = w c k := fun c k q1 q2 => (w3 c k (by unfold mWr mKw mSo; omega)).trans (hm c k (by omega) (by omega))
  have e4 : ∀ k, k < wE w → w' 354 k = w 354 k := fun k q => (w3 354 k (by unfold mWr mKw mSo; omega)).trans (hm 354 k (by decide) (by omega))
  have e6 : ∀ k, w' 276 k = wm 276 k := fun k => w3 276 k (nK 276 k (K0_now k))
  have f0 : w 276 = S (w 275 5) := funext h1
  refine ⟨fun k => ?_, fun i g1 g2 => ?_, fun k g1 g2 => ?_, fun q k g1 g2 g3 g4 => ?_, fun i g1 g2 => ?_, fun i j g1 g2 g3 => ?_, by omega, ?_, by omega⟩
  · show w' 276 k = (if w' 275 5 ≤ w 275 5 then S (w' 275 5) else w' 276) k
    rw [if_neg (by omega)]
  · show mInv (wn w' (if i ≤ w 275 5 then S i else w' 276)) G ∧ (if i ≤ w 275 5 then S i else w' 276) 5 ≤ 16 * i + 900 * (if i ≤ w 275 5 then S i else w' 276) 0 ∧ ∀ k, _ → (if i ≤ w 275 5 then S i else w' 276) k = _
    by_cases e : i ≤ w 275 5
    · rw [if_pos e]
      obtain ⟨q1, q2, q3⟩ := h2 i g1 e
      exact ⟨q1.low (wn_of hK), q2, fun k g => by rw [hout k g]; exact q3 k g⟩
    · rw [if_neg e]
      obtain ⟨-, q2, -⟩ := h2 (w 275 5) h9.1 (Int.le_refl _)
      rw [← h1, ← h1] at q2
      refine ⟨hI.low (wn_now (fun _ _ _ _ => rfl)), ?_, fun _ _ => rfl⟩
      unfold evG at hev
      omega
  · show w' 277 k = (if (0 : Int) ≤ w 275 5 then S 0 else w' 276) k
    rw [if_pos h9.1, e77]
    exact h3 k g1 g2
  · show _ = (if 100 * q ≤ w 275 5 then S (100 * q) else w' 276) k
    by_cases e : 100 * q ≤ w 275 5
    · rw [if_pos e, e78 _ (by unfold mSo; omega)]
      exact h4 q k g1 e g3 g4
    · rw [if_neg e, e6 k]
      have := w5 (by omega) k g3 g4
      rw [show (w 275 5 + 1) / 100 = q by omega] at this
      exact this
  · show bkR w' i (if i ≤ w 275 5 then S i else w' 276) (if i + 1 ≤ w 275 5 then S (i + 1) else w' 276)
    rw [if_pos (by omega)]
    by_cases e : i + 1 ≤ w 275 5
    · rw [if_pos e]
      have q := h6 i i g1 (Int.le_refl i) (by omega)
      exact (h5 i g1 (by omega)).next hK (fun j _ _ => e79 j (by omega)) (e5 355 i (by omega) (by omega)) (e5 356 i (by omega) (by omega)) (fun k _ g => e4 k (by have := hEE.2.2 i g1 (by omega); omega))
    · rw [if_neg e, show i = w 275 5 by omega, ← f0]
      exact hrow
  · by_cases e : j < w 275 5
    · rw [e5 356 i (by omega) (by omega), e5 356 j (by omega) e]
      have := h6 i j g1 g2 e
      omega
    · rw [show j = w 275 5 by omega]
      by_cases e2 : i < w 275 5
      · rw [e5 356 i (by omega) e2]
        have q1 := h6 i i g1 (Int.le_refl i) e2
        have q2 := hEE.2.2 i g1 e2
        omega
      · rw [show i = w 275 5 by omega]
        omega
  · have := (w3 275 6 (by unfold mWr mKw mSo; omega)).trans hm6
    omega
/-- a call was written down -/
theorem bkI.op {w w' : eW} {G : Int → Gh} {S : Int → Int → Int} {x a b c : Int} {s : Int → Int} (h : bkI w G S) (ho : opS w w' G x a b c s) (hev : evG w w') (hnb : ¬ mBk w) (hC : rowC w x a b c) (hs : ∀ k, s k = rowF w x a b c k) (ha : -2147483648 ≤ a ∧ a ≤ 2147483647) (hb : -2147483648 ≤ b ∧ b ≤ 2147483647) (hc : -2147483648 ≤ c ∧ c ≤ 2147483647) (hout : ∀ k, (k < 0 ∨ 33060 ≤ k) → w' 276 k = w 276 k) : ∃ S', bkI w' G S' := by
  obtain ⟨o1, o2, wm, o3, o4, o5⟩ := ho
  have h8 := h.2.2.2.2.2.2.2.1
  have h9 := h.2.2.2.2.2.2.2.2
  have hEE := h.E
  rcases o5 with ⟨q, -⟩ | ⟨-, hw⟩
  · omega
  have hx := hC.1
  have hN : w 275 5 ≤ 1999 := by unfold mBk at hnb; omega
  have hw0 := hw
  obtain ⟨w1, ⟨r0, r1, r2, r3⟩, w3, w4, w5⟩ := hw
  have hf := frB.ti o3
  have hK : ∀ c k, c ≠ 276 → K0 c k → w' c k = w c k := fun c k q1 q2 => (w3 c k (fun q => wr_K0 q q2)).trans (hf c k q1 (Or.inl q2))
  have p8 : w' 275 118 = w 275 118 := (w3 275 118 (by unfold mWr mKw mSo; omega)).trans (o3 275 118 (by unfold mTi; omega))
  have p6 : w' 356 (w 275 5) = wE w := by
    rcases w4 with ⟨q, -⟩ | ⟨-, -, q⟩
    · omega
    · exact q
  refine ⟨_, h.add hf (o3 275 6 (by unfold mTi; omega)) hw0 hN o2 hev hout ⟨fun j g1 g2 => ?_, Or.inl ⟨?_, fun k => ?_⟩⟩ (by have := h.2.2.2.2.2.2.1; omega) (by omega)⟩
  · obtain rfl | rfl | rfl | rfl : j = 4 * w 275 5 ∨ j = 4 * w 275 5 + 1 ∨ j = 4 * w 275 5 + 2 ∨ j = 4 * w 275 5 + 3 := by omega
    · omega
    · omega
    · omega
    · omega
  · rw [r0, r1, r2, r3]
    exact hC.low (wn_now hK)
  · rw [r0, r1, r2, r3, rowF_eq (wn_now hK), o1 k]
    exact hs k
theorem bkI.plan {w w' : eW} {G : Int → Gh} {S : Int → Int → Int} {a n m : Int} (h : bkI w G S) (hA : plA w a n m) (hnb : ¬ mBk w) (hD : plD w w' G a n m) (ha : 0 ≤ a ∧ a ≤ 3) (hout : ∀ k, (k < 0 ∨ 33060 ≤ k) → w' 276 k = w 276 k) : ∃ S', bkI w' G S' := by
  obtain ⟨z, f, wm, z1, z2, z3, z4, z5, hw, z7, z8⟩ := hD
  have h9 := h.2.2.2.2.2.2.2.2
  have hEE := h.E
  have h8 := h.2.2.2.2.2.2.2.1
  have hN : w 275 5 ≤ 1999 := by unfold mBk at hnb; omega
  have hw0 := hw
  obtain ⟨w1, ⟨r0, r1, r2, r3⟩, w3, w4, w5⟩ := hw
  have hf := frB.pm z2
  have nK : ∀ c k, K0 c k → ¬ mWr (w 275 5) (wE w) c k := fun c k q q1 => wr_K0 q1 q
  have hK : ∀ c k, c ≠ 276 → K0 c k → w' c k = w c k := fun c k q1 q2 => (w3 c k (nK c k q2)).trans (hf c k q1 (Or.inl q2))
  have e6 : ∀ k, w' 276 k = wm 276 k := fun k => w3 276 k (nK 276 k (K0_now k))
  have p8 : w' 275 118 = wm 275 118 := w3 275 118 (by unfold mWr mKw mSo; omega)
  have e19 : wm 276 (36 * a + 19) = z := by rw [z3]; unfold plN; rw [if_pos rfl]
  have hI : mInv w' G := z4.low (fun c k q => w3 c k (nK c k q))
  obtain ⟨v1, v2, v3, v4⟩ : wE w + z ≤ 200000 ∧ w' 355 (w 275 5) = wE w ∧ w' 356 (w 275 5) = wE w + z ∧ ∀ j, 0 ≤ j → j < z → w' 354 (wE w + j) = wm 353 j := by
    rw [e19] at w4
    rcases w4 with ⟨-, q | q⟩ | ⟨q, -⟩
    · exact q
    · omega
    · exact absurd rfl q
  have e0 : w' 276 0 = w 276 0 := by rw [e6, z3]; unfold plN; rw [if_neg (by omega), if_neg (by omega), if_neg (by omega), if_neg (by omega), if_neg (by omega)]
  have e5 : w' 276 5 = w 276 5 := by rw [e6, z3]; unfold plN; rw [if_neg (by omega), if_neg (by omega), if_neg (by omega), if_neg (by omega), if_neg (by omega)]
  refine ⟨_, h.add hf (z2 275 6 (by unfold mPm; omega)) hw0 hN hI (by unfold evG; omega) hout ⟨fun j g1 g2 => ?_, Or.inr ⟨r0, ?_, z, f, z1, by omega, by omega, fun j g1 g2 => ?_, fun k => ?_⟩⟩ (by omega) (by omega)⟩
  · obtain ⟨⟨a1, a2, a3⟩, -⟩ := hA
    obtain rfl | rfl | rfl | rfl : j = 4 * w 275 5 ∨ j = 4 * w 275 5 + 1 ∨ j = 4 * w 275 5 + 2 ∨ j = 4 * w 275 5 + 3 := by omega
    · omega
    · omega
    · omega
    · omega
  · rw [r1, r2, r3]
    exact hA.low (wn_now hK)
  · rw [v2, v4 j g1 g2, z5 j g1 g2]
    refine ⟨rfl, ?_⟩
    -- a step of the way
    have q1 := z3 (1000 * a + j + 21060)
    unfold plN at q1
    rw [if_neg (by omega), if_neg (by omega), if_neg (by omega), if_neg (by omega), if_pos (by omega), if_pos (by omega), show 1000 * a + j + 21060 - (1000 * a + 21060) = j by omega] at q1
    have q2 := e_Has.get z4.1 (c := 276) (k := 1000 * a + j + 21060) (lo := 0) (hi := 11) (nR_WAY (by omega)) (by decide)
    omega
  · rw [r1, r2, e6 k, z3 k]
    unfold plN
    rw [show wn w' (w 276) 276 k = w 276 k from by unfold wn; rw [if_pos rfl]]
theorem bkI.open0 {w : eW} {G : Int → Gh} (hI : mInv w G) (h5 : w 275 5 = 0) (h6 : w 275 6 = 0) (hp : 0 ≤ w 275 118 ∧ w 275 118 ≤ 60) (he : w 276 5 ≤ 900 * w 276 0) (ho : ∀ k, 0 ≤ k → k < 33060 → w 277 k = w 276 k) : bkI w G (fun _ => w 276) := by
  refine ⟨fun _ => rfl, fun i g1 g2 => ⟨hI.low (wn_now (fun _ _ _ _ => rfl)), by show w 276 5 ≤ 16 * i + 900 * w 276 0; omega, fun _ _ => rfl⟩, ho, fun q k g1 g2 => by omega, fun i g1 g2 => by omega, fun i j g1 g2 g3 => by omega, hp, h6, by omega⟩
theorem bkI.inv {w : eW} {G : Int → Gh} {S : Int → Int → Int} (h : bkI w G S) : mInv w G := by
  have q := (h.2.1 (w 275 5) h.2.2.2.2.2.2.2.2.1 (Int.le_refl _)).1
  exact q.low (fun c k g => by
    unfold wn
    by_cases e : c = 276
    · rw [if_pos e, e]; exact h.1 k
    · rw [if_neg e])
/-- a row, as the cell u has it that stands there again -/
theorem bkI.pre {w u : eW} {G : Int → Gh} {S : Int → Int → Int} {i : Int} (h : bkI w G S) (hF : e_fr mBb w u) (h6 : u 275 6 = 1) (hs : ∀ k, u 276 k = S i k) (hi : 0 ≤ i ∧ i < w 275 5) : mInv u G ∧ bkE u ∧ u 276 5 ≤ 7000000 ∧ bkR u i (u 276) (S (i + 1)) ∧ 0 ≤ u 356 i ∧ u 356 i ≤ 200000 := by
  have hb := h.bk
  obtain ⟨h1, h2, h3, h4, h5, h6', h7, h8, h9⟩ := h
  have hf := frB.bb hF
  have hK : ∀ c k, c ≠ 276 → K0 c k → u c k = w c k := fun c k q1 q2 => hf c k q1 (Or.inl q2)
  obtain ⟨q1, q2, q3⟩ := h2 i hi.1 (by omega)
  have hm := q1.low (frB.onN hf hs)
  have e56 : ∀ k, u 356 k = w 356 k := fun k => hf 356 k (by decide) (by omega)
  have e5 : u 275 5 = w 275 5 := hf _ _ (by decide) (by omega)
  have b1 := h6' i i hi.1 (Int.le_refl i) hi.2
  have ht := e_Has.get hm.1 (c := 276) (k := 0) (lo := 0) (hi := 6000) rfl (by decide)
  refine ⟨hm, ⟨by omega, Or.inr h6, fun g => by rw [e5, e56]; exact hb.2.2 (by omega)⟩, ?_, ?_, by rw [e56]; omega, by rw [e56]; omega⟩
  · rw [hs] at ht ⊢
    omega
  · rw [show u 276 = S i from funext hs]
    exact (h5 i hi.1 hi.2).next hK (fun j _ _ => hf 279 j (by decide) (by omega)) (hf 355 i (by decide) (by omega)) (e56 i) (fun k _ _ => hf 354 k (by decide) (by omega))
theorem bkI.back {w u v w' : eW} {G : Int → Gh} {S : Int → Int → Int} {n : Int} (h : bkI w G S) (hF : e_fr mBb w u) (h8 : u 275 118 = w 275 118) (hs : ∀ k, u 276 k = S n k) (hn : 0 ≤ n ∧ n ≤ w 275 5) (e1 : e_up u 275 6 0 = v) (e2 : e_up v 275 5 n = w') (hout : ∀ k, (k < 0 ∨ 33060 ≤ k) → u 276 k = w 276 k) : bkI w' G S := by
  obtain ⟨h1, h2, h3, h4, h5, h6, h7, h8', h9⟩ := h
  have hf := frB.bb hF
  have x : ∀ c k, c ≠ 275 → w' c k = u c k := fun c k q => by rw [← e2, ← e1]; exact (e_up_ne _ _ (Or.inl q)).trans (e_up_ne _ _ (Or.inl q))
  have x5 : w' 275 5 = n := by rw [← e2]; exact e_up_eq _ _ _ _
  have x6 : w' 275 6 = 0 := by rw [← e2, ← e1]; exact (e_up_ne _ _ (Or.inr (by decide))).trans (e_up_eq _ _ _ _)
  have xo : ∀ k, k ≠ 5 → k ≠ 6 → w' 275 k = u 275 k := fun k q1 q2 => by rw [← e2, ← e1]; exact (e_up_ne _ _ (Or.inr q1)).trans (e_up_ne _ _ (Or.inr q2))
  have hK : ∀ c k, c ≠ 276 → K0 c k → w' c k = w c k := fun c k q1 q2 => by
    by_cases e : c = 275
    · subst e
      rw [xo k (fun e => by rw [e] at q2; exact absurd q2 (by decide : ¬ ((1 : Int) ≤ 0))) (fun e => by rw [e] at q2; exact absurd q2 (by decide : ¬ ((1 : Int) ≤ 0)))]
      exact hf _ _ (by decide) (Or.inl q2)
    · rw [x c k e]; exact hf c k q1 (Or.inl q2)
  have y : ∀ c k, (277 ≤ c ∧ c ≤ 279) ∨ (354 ≤ c ∧ c ≤ 356) → w' c k = w c k := fun c k q => (x c k (by omega)).trans (hf c k (by omega) (by omega))
  have p8 : w' 275 118 = w 275 118 := (xo 118 (by decide) (by decide)).trans h8
  refine ⟨fun k => by rw [x5, x 276 k (by decide)]; exact hs k, fun i g1 g2 => ?_, fun k g1 g2 => by rw [y 277 k (by omega)]; exact h3 k g1 g2, fun q k g1 g2 g3 g4 => by rw [y 278 _ (by omega)]; exact h4 q k g1 (by omega) g3 g4, fun i g1 g2 => ?_, fun i j g1 g2 g3 => ?_, by omega, x6, by omega⟩
  · obtain ⟨q1, q2, q3⟩ := h2 i g1 (by omega)
    exact ⟨q1.low (wn_of hK), q2, fun k g => by rw [x 276 k (by decide), hout k g]; exact q3 k g⟩
  · exact (h5 i g1 (by omega)).next hK (fun j _ _ => y 279 j (by omega)) (y 355 i (by omega)) (y 356 i (by omega)) (fun k _ _ => y 354 k (by omega))
  · rw [y 356 i (by omega), y 356 j (by omega)]
    have := h6 i j g1 g2 (by omega)
    omega
/-- the machine writes into its cells alone -/
theorem out_now {k : Int} (h : k < 0 ∨ 33060 ≤ k) : e_out elay 276 k := ⟨by decide, by decide, fun kd cl n e => by
  have e1 : (some ((1 : Nat), (0 : Nat), (33060 : Nat))).map (fun q => q.2.2) = (elay[(276 : Int).toNat]?).map (fun q => q.2.2) := by decide +kernel
  rw [e] at e1
  have : 33060 = n := Option.some.inj e1
  omega⟩
theorem e_Ok.outN {d M : Nat} {l : eL} {w : eW} {Q : List eV → eW → Prop} (h : e_Ok 20 elay ecode eI d M (0, l, [], w) Q) : e_Ok 20 elay ecode eI d M (0, l, [], w) (fun r v => Q r v ∧ ∀ k, (k < 0 ∨ 33060 ≤ k) → v 276 k = w 276 k) := (e_Ok.out eAlk h).imp (fun _ _ h => ⟨h.1, fun k q => h.2 276 k (out_now q)⟩)
end
