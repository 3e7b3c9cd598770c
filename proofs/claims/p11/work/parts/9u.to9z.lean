-- part 9u
section
noncomputable section
/-! the book grows -/
theorem wn_of {w v : eW} {s : Int → Int} (hK : ∀ c k, c ≠ 276 → K0 c k → v c k = w c k) : ∀ c k, K0 c k → wn v s c k = wn w s c k := fun c k q => by
  unfold wn
  by_cases e : c = 276
  · rw [if_pos e, if_pos e]
  · rw [if_neg e, if_neg e]; exact hK c k e q
theorem wn_now {w v : eW} (hK : ∀ c k, c ≠ 276 → K0 c k → v c k = w c k) : ∀ c k, K0 c k → wn v (w 276) c k = w c k := fun c k q => by
  unfold wn
  by_cases e : c = 276
  · rw [if_pos e, e]
  · rw [if_neg e]; exact hK c k e q
theorem plN_wn {v w : eW} {s : Int → Int} {a n z k : Int} {g : Int → Int} : plN (wn v s) a n z g k = plN (wn w s) a n z g k := by
  unfold plN
  rw [show wn v s 276 k = wn w s 276 k from by unfold wn; rw [if_pos rfl, if_pos rfl]]
theorem bkR.next {w w' : eW} {i : Int} {s s' : Int → Int} (h : bkR w i s s') (hK : ∀ c k, c ≠ 276 → K0 c k → w' c k = w c k) (h9 : ∀ j, 4 * i ≤ j → j ≤ 4 * i + 3 → w' 279 j = w 279 j) (h5 : w' 355 i = w 355 i) (h6 : w' 356 i = w 356 i) (h4 : ∀ k, 0 ≤ k → k < w 356 i → w' 354 k = w 354 k) : bkR w' i s s' := by
  have hu := wn_of (s := s) hK
  obtain ⟨q1, q2⟩ := h
  refine ⟨fun j g1 g2 => by rw [h9 j g1 g2]; exact q1 j g1 g2, ?_⟩
  rw [h9 (4 * i) (by omega) (by omega), h9 (4 * i + 1) (by omega) (by omega), h9 (4 * i + 2) (by omega) (by omega), h9 (4 * i + 3) (by omega) (by omega), h5, h6]
  rcases q2 with ⟨q2, q3⟩ | ⟨q2, q3, z, g, z1, z2, z3, z4, z5⟩
  · exact Or.inl ⟨q2.low hu, fun k => by rw [rowF_eq hu]; exact q3 k⟩
  · exact Or.inr ⟨q2, q3.low hu, z, g, z1, z2, z3, fun j g1 g2 => by rw [h4 _ (by omega) (by omega)]; exact z4 j g1 g2, fun k => (z5 k).trans plN_wn⟩
theorem bkI.E {w : eW} {G : Int → Gh} {S : Int → Int → Int} (h : bkI w G S) : 0 ≤ wE w ∧ wE w ≤ 999 * w 275 118 ∧ ∀ i, 0 ≤ i → i < w 275 5 → w 356 i ≤ wE w := by
  obtain ⟨-, -, -, -, -, h6, h7, -, h9⟩ := h
  unfold wE
  by_cases e : w 275 5 = 0
  · rw [if_pos e]
    exact ⟨by decide, by omega, fun i g1 g2 => by omega⟩
  · rw [if_neg e]
    have := h6 (w 275 5 - 1) (w 275 5 - 1) (by omega) (by omega) (by omega)
    exact ⟨this.1, this.2.2, fun i g1 g2 => (h6 i (w 275 5 - 1) g1 (by omega) (by omega)).2.1⟩
theorem bkI.bk {w : eW} {G : Int → Gh} {S : Int → Int → Int} (h : bkI w G S) : bkE w := by
  obtain ⟨-, -, -, -, -, h6, h7, h8, h9⟩ := h
  refine ⟨h9, Or.inl h8, fun g => ?_⟩
  have := h6 (w 275 5 - 1) (w 275 5 - 1) (by omega) (by omega) (by omega)
  omega
theorem bkI.low {w w' : eW} {G : Int → Gh} {S : Int → Int → Int} (h : bkI w G S) (hF : frB w w') (hs : ∀ k, w' 276 k = w 276 k) (hp : w 275 118 ≤ w' 275 118 ∧ w' 275 118 ≤ 60) (h60 : w' 275 6 = 0) : bkI w' G S := by
  obtain ⟨h1, h2, h3, h4, h5, h6, h7, h8, h9⟩ := h
  have hK : ∀ c k, c ≠ 276 → K0 c k → w' c k = w c k := fun c k q1 q2 => hF c k q1 (Or.inl q2)
  have e5 : w' 275 5 = w 275 5 := hF _ _ (by decide) (by omega)
  have e : ∀ c k, (277 ≤ c ∧ c ≤ 279) ∨ (354 ≤ c ∧ c ≤ 356) → w' c k = w c k := fun c k q => hF c k (by omega) (by omega)
  refine ⟨fun k => by rw [e5, hs]; exact h1 k, fun i g1 g2 => ?_, fun k g1 g2 => by rw [e 277 k (by omega)]; exact h3 k g1 g2, fun q k g1 g2 g3 g4 => by rw [e 278 _ (by omega)]; exact h4 q k g1 (by omega) g3 g4, fun i g1 g2 => ?_, fun i j g1 g2 g3 => ?_, by omega, h60, by omega⟩
  · obtain ⟨q1, q2, q3⟩ := h2 i g1 (by omega)
    exact ⟨q1.low (wn_of hK), q2, fun k g => by rw [hs]; exact q3 k g⟩
  · exact (h5 i g1 (by omega)).next hK (fun j _ _ => e 279 j (by omega)) (e 355 i (by omega)) (e 356 i (by omega)) (fun k _ _ => e 354 k (by omega))
  · rw [e 356 i (by omega), e 356 j (by omega)]
    have := h6 i j g1 g2 (by omega)
    omega
theorem no_9u_0 {R : Int} {E : Int} {k : Int} : ¬ mWr R E 277 k := by unfold mWr mKw mSo; omega
theorem no_9u_1 {R : Int} {E : Int} : ¬ mWr R E 275 6 := by unfold mWr mKw mSo; omega
theorem bkI.add {w wm w' : eW} {G : Int → Gh} {S : Int → Int → Int} {x a b c : Int} (h : bkI w G S) (hm : frB w wm) (hm6 : wm 275 6 = w 275 6) (hw : wrR wm w' (w 275 5) (wE w) x a b c) (hN : w 275 5 ≤ 1999) (hI : mInv w' G) (hev : evG w w') (hout : ∀ k, (k < 0 ∨ 33060 ≤ k) → w' 276 k = w 276 k) (hrow : bkR w' (w 275 5) (w 276) (w' 276)) (hp : w 275 118 ≤ w' 275 118 ∧ w' 275 118 ≤ 60) (hE : wE w ≤ w' 356 (w 275 5) ∧ w' 356 (w 275 5) ≤ 999 * w' 275 118) : bkI w' G (fun i => if i ≤ w 275 5 then S i else w' 276) := by
  have hEE := h.E
  obtain ⟨h1, h2, h3, h4, h5, h6, h7, h8, h9⟩ := h
  obtain ⟨w1, w2, w3, w4, w5⟩ := hw
  have nK : ∀ c k, K0 c k → ¬ mWr (w 275 5) (wE w) c k := fun c k q q1 => wr_K0 q1 q
  have hK : ∀ c k, c ≠ 276 → K0 c k → w' c k = w c k := fun c k q1 q2 => (w3 c k (nK c k q2)).trans (hm c k q1 (Or.inl q2))
  have e77 : ∀ k, w' 277 k = w 277 k := fun k => (w3 277 k (by first | exact no_9u_0 | (unfold mWr mKw mSo; omega))).trans (hm 277 k (by decide) (by omega))
  have e78 : ∀ k, ¬ mSo (w 275 5) 278 k → w' 278 k = w 278 k := fun k q => (w3 278 k (fun q1 => by rcases q1 with q1 | q1 | q1 | q1; omega; (unfold mKw at q1; omega); omega; exact q q1)).trans (hm 278 k (by decide) (by omega))
  have e79 : ∀ k, k < 4 * w 275 5 → w' 279 k = w 279 k := fun k q => (w3 279 k (by unfold mWr mKw mSo; omega)).trans (hm 279 k (by decide) (by omega))
  have e5 : ∀ c k, c = 355 ∨ c = 356 → k < w 275 5 → w' c k = w c k := fun c k q1 q2 => (w3 c k (by unfold mWr mKw mSo; omega)).trans (hm c k (by omega) (by omega))
  have e4 : ∀ k, k < wE w → w' 354 k = w 354 k := fun k q => (w3 354 k (by unfold mWr mKw mSo; omega)).trans (hm 354 k (by decide) (by omega))
  have e6 : ∀ k, w' 276 k = wm 276 k := fun k => w3 276 k (nK 276 k (K0_now k))
  have f0 : w 276 = S (w 275 5) := funext h1
  refine ⟨fun k => ?_, fun i g1 g2 => ?_, fun k g1 g2 => ?_, fun q k g1 g2 g3 g4 => ?_, fun i g1 g2 => ?_, fun i j g1 g2 g3 => ?_, by omega, ?_, by omega⟩
  · show w' 276 k = (if w' 275 5 ≤ w 275 5 then S (w' 275 5) else w' 276) k
    rw [if_neg (by omega)]
  · show mInv (wn w' (if i ≤ w 275 5 then S i else w' 276)) G ∧ (if i ≤ w 275 5 then S i else w' 276) 5 ≤ 16 * i + 900 * (if i ≤ w 275 5 then S i else w' 276) 0 ∧ ∀ k, _ → (if i ≤ w 275 5 then S i else w' 276) k = _
    by_cases e : i ≤ w 275 5
    · rw [if_pos e]
      obtain ⟨q1, q2, q3⟩ := h2 i g1 e
      exact ⟨q1.low (wn_of hK), q2, fun k g => by rw [hout k g]; exact q3 k g⟩
    · rw [if_neg e]
      obtain ⟨-, q2, -⟩ := h2 (w 275 5) h9.1 (Int.le_refl _)
      rw [← h1, ← h1] at q2
      refine ⟨hI.low (wn_now (fun _ _ _ _ => rfl)), ?_, fun _ _ => rfl⟩
      unfold evG at hev
      omega
  · show w' 277 k = (if (0 : Int) ≤ w 275 5 then S 0 else w' 276) k
    rw [if_pos h9.1, e77]
    exact h3 k g1 g2
  · show _ = (if 100 * q ≤ w 275 5 then S (100 * q) else w' 276) k
    by_cases e : 100 * q ≤ w 275 5
    · rw [if_pos e, e78 _ (by unfold mSo; omega)]
      exact h4 q k g1 e g3 g4
    · rw [if_neg e, e6 k]
      have := w5 (by omega) k g3 g4
      rw [show (w 275 5 + 1) / 100 = q by omega] at this
      exact this
  · show bkR w' i (if i ≤ w 275 5 then S i else w' 276) (if i + 1 ≤ w 275 5 then S (i + 1) else w' 276)
    rw [if_pos (by omega)]
    by_cases e : i + 1 ≤ w 275 5
    · rw [if_pos e]
      have q := h6 i i g1 (Int.le_refl i) (by omega)
      exact (h5 i g1 (by omega)).next hK (fun j _ _ => e79 j (by omega)) (e5 355 i (by omega) (by omega)) (e5 356 i (by omega) (by omega)) (fun k _ g => e4 k (by have := hEE.2.2 i g1 (by omega); omega))
    · rw [if_neg e, show i = w 275 5 by omega, ← f0]
      exact hrow
  · by_cases e : j < w 275 5
    · rw [e5 356 i (by omega) (by omega), e5 356 j (by omega) e]
      have := h6 i j g1 g2 e
      omega
    · rw [show j = w 275 5 by omega]
      by_cases e2 : i < w 275 5
      · rw [e5 356 i (by omega) e2]
        have q1 := h6 i i g1 (Int.le_refl i) e2
        have q2 := hEE.2.2 i g1 e2
        omega
      · rw [show i = w 275 5 by omega]
        omega
  · have := (w3 275 6 (by first | exact no_9u_1 | (unfold mWr mKw mSo; omega))).trans hm6
    omega
/-- a call was written down -/
theorem no_9u_2 {R : Int} {E : Int} : ¬ mWr R E 275 118 := by unfold mWr mKw mSo; omega
theorem no_9u_3 : ¬ mTi 275 118 := by unfold mTi; omega
theorem no_9u_4 : ¬ mTi 275 6 := by unfold mTi; omega
theorem bkI.op {w w' : eW} {G : Int → Gh} {S : Int → Int → Int} {x a b c : Int} {s : Int → Int} (h : bkI w G S) (ho : opS w w' G x a b c s) (hev : evG w w') (hnb : ¬ mBk w) (hC : rowC w x a b c) (hs : ∀ k, s k = rowF w x a b c k) (ha : -2147483648 ≤ a ∧ a ≤ 2147483647) (hb : -2147483648 ≤ b ∧ b ≤ 2147483647) (hc : -2147483648 ≤ c ∧ c ≤ 2147483647) (hout : ∀ k, (k < 0 ∨ 33060 ≤ k) → w' 276 k = w 276 k) : ∃ S', bkI w' G S' := by
  obtain ⟨o1, o2, wm, o3, o4, o5⟩ := ho
  have h8 := h.2.2.2.2.2.2.2.1
  have h9 := h.2.2.2.2.2.2.2.2
  have hEE := h.E
  rcases o5 with ⟨q, -⟩ | ⟨-, hw⟩
  · omega
  have hx := hC.1
  have hN : w 275 5 ≤ 1999 := by unfold mBk at hnb; omega
  have hw0 := hw
  obtain ⟨w1, ⟨r0, r1, r2, r3⟩, w3, w4, w5⟩ := hw
  have hf := frB.ti o3
  have hK : ∀ c k, c ≠ 276 → K0 c k → w' c k = w c k := fun c k q1 q2 => (w3 c k (fun q => wr_K0 q q2)).trans (hf c k q1 (Or.inl q2))
  have p8 : w' 275 118 = w 275 118 := (w3 275 118 (by first | exact no_9u_2 | (unfold mWr mKw mSo; omega))).trans (o3 275 118 no_9u_3)
  have p6 : w' 356 (w 275 5) = wE w := by
    rcases w4 with ⟨q, -⟩ | ⟨-, -, q⟩
    · omega
    · exact q
  refine ⟨_, h.add hf (o3 275 6 no_9u_4) hw0 hN o2 hev hout ⟨fun j g1 g2 => ?_, Or.inl ⟨?_, fun k => ?_⟩⟩ (by have := h.2.2.2.2.2.2.1; omega) (by omega)⟩
  · obtain rfl | rfl | rfl | rfl : j = 4 * w 275 5 ∨ j = 4 * w 275 5 + 1 ∨ j = 4 * w 275 5 + 2 ∨ j = 4 * w 275 5 + 3 := by omega
    · omega
    · omega
    · omega
    · omega
  · rw [r0, r1, r2, r3]
    exact hC.low (wn_now hK)
  · rw [r0, r1, r2, r3, rowF_eq (wn_now hK), o1 k]
    exact hs k
theorem no_9u_5 : ¬ mPm 275 6 := by unfold mPm; omega
theorem bkI.plan {w w' : eW} {G : Int → Gh} {S : Int → Int → Int} {a n m : Int} (h : bkI w G S) (hA : plA w a n m) (hnb : ¬ mBk w) (hD : plD w w' G a n m) (ha : 0 ≤ a ∧ a ≤ 3) (hout : ∀ k, (k < 0 ∨ 33060 ≤ k) → w' 276 k = w 276 k) : ∃ S', bkI w' G S' := by
  obtain ⟨z, f, wm, z1, z2, z3, z4, z5, hw, z7, z8⟩ := hD
  have h9 := h.2.2.2.2.2.2.2.2
  have hEE := h.E
  have h8 := h.2.2.2.2.2.2.2.1
  have hN : w 275 5 ≤ 1999 := by unfold mBk at hnb; omega
  have hw0 := hw
  obtain ⟨w1, ⟨r0, r1, r2, r3⟩, w3, w4, w5⟩ := hw
  have hf := frB.pm z2
  have nK : ∀ c k, K0 c k → ¬ mWr (w 275 5) (wE w) c k := fun c k q q1 => wr_K0 q1 q
  have hK : ∀ c k, c ≠ 276 → K0 c k → w' c k = w c k := fun c k q1 q2 => (w3 c k (nK c k q2)).trans (hf c k q1 (Or.inl q2))
  have e6 : ∀ k, w' 276 k = wm 276 k := fun k => w3 276 k (nK 276 k (K0_now k))
  have p8 : w' 275 118 = wm 275 118 := w3 275 118 (by first | exact no_9u_2 | (unfold mWr mKw mSo; omega))
  have e19 : wm 276 (36 * a + 19) = z := by rw [z3]; unfold plN; rw [if_pos rfl]
  have hI : mInv w' G := z4.low (fun c k q => w3 c k (nK c k q))
  obtain ⟨v1, v2, v3, v4⟩ : wE w + z ≤ 200000 ∧ w' 355 (w 275 5) = wE w ∧ w' 356 (w 275 5) = wE w + z ∧ ∀ j, 0 ≤ j → j < z → w' 354 (wE w + j) = wm 353 j := by
    rw [e19] at w4
    rcases w4 with ⟨-, q | q⟩ | ⟨q, -⟩
    · exact q
    · omega
    · exact absurd rfl q
  have e0 : w' 276 0 = w 276 0 := by rw [e6, z3]; unfold plN; rw [if_neg (by omega), if_neg (by omega), if_neg (by omega), if_neg (by omega), if_neg (by omega)]
  have e5 : w' 276 5 = w 276 5 := by rw [e6, z3]; unfold plN; rw [if_neg (by omega), if_neg (by omega), if_neg (by omega), if_neg (by omega), if_neg (by omega)]
  refine ⟨_, h.add hf (z2 275 6 no_9u_5) hw0 hN hI (by unfold evG; omega) hout ⟨fun j g1 g2 => ?_, Or.inr ⟨r0, ?_, z, f, z1, by omega, by omega, fun j g1 g2 => ?_, fun k => ?_⟩⟩ (by omega) (by omega)⟩
  · obtain ⟨⟨a1, a2, a3⟩, -⟩ := hA
    obtain rfl | rfl | rfl | rfl : j = 4 * w 275 5 ∨ j = 4 * w 275 5 + 1 ∨ j = 4 * w 275 5 + 2 ∨ j = 4 * w 275 5 + 3 := by omega
    · omega
    · omega
    · omega
    · omega
  · rw [r1, r2, r3]
    exact hA.low (wn_now hK)
  · rw [v2, v4 j g1 g2, z5 j g1 g2]
    refine ⟨rfl, ?_⟩
    -- a step of the way
    have q1 := z3 (1000 * a + j + 21060)
    unfold plN at q1
    rw [if_neg (by omega), if_neg (by omega), if_neg (by omega), if_neg (by omega), if_pos (by omega), if_pos (by omega), show 1000 * a + j + 21060 - (1000 * a + 21060) = j by omega] at q1
    have q2 := e_Has.get z4.1 (c := 276) (k := 1000 * a + j + 21060) (lo := 0) (hi := 11) (nR_WAY (by omega)) (by decide)
    omega
  · rw [r1, r2, e6 k, z3 k]
    unfold plN
    rw [show wn w' (w 276) 276 k = w 276 k from by unfold wn; rw [if_pos rfl]]
theorem bkI.open0 {w : eW} {G : Int → Gh} (hI : mInv w G) (h5 : w 275 5 = 0) (h6 : w 275 6 = 0) (hp : 0 ≤ w 275 118 ∧ w 275 118 ≤ 60) (he : w 276 5 ≤ 900 * w 276 0) (ho : ∀ k, 0 ≤ k → k < 33060 → w 277 k = w 276 k) : bkI w G (fun _ => w 276) := by
  refine ⟨fun _ => rfl, fun i g1 g2 => ⟨hI.low (wn_now (fun _ _ _ _ => rfl)), by show w 276 5 ≤ 16 * i + 900 * w 276 0; omega, fun _ _ => rfl⟩, ho, fun q k g1 g2 => by omega, fun i g1 g2 => by omega, fun i j g1 g2 g3 => by omega, hp, h6, by omega⟩
theorem bkI.inv {w : eW} {G : Int → Gh} {S : Int → Int → Int} (h : bkI w G S) : mInv w G := by
  have q := (h.2.1 (w 275 5) h.2.2.2.2.2.2.2.2.1 (Int.le_refl _)).1
  exact q.low (fun c k g => by
    unfold wn
    by_cases e : c = 276
    · rw [if_pos e, e]; exact h.1 k
    · rw [if_neg e])
/-- a row, as the cell u has it that stands there again -/
theorem bkI.pre {w u : eW} {G : Int → Gh} {S : Int → Int → Int} {i : Int} (h : bkI w G S) (hF : e_fr mBb w u) (h6 : u 275 6 = 1) (hs : ∀ k, u 276 k = S i k) (hi : 0 ≤ i ∧ i < w 275 5) : mInv u G ∧ bkE u ∧ u 276 5 ≤ 7000000 ∧ bkR u i (u 276) (S (i + 1)) ∧ 0 ≤ u 356 i ∧ u 356 i ≤ 200000 := by
  have hb := h.bk
  obtain ⟨h1, h2, h3, h4, h5, h6', h7, h8, h9⟩ := h
  have hf := frB.bb hF
  have hK : ∀ c k, c ≠ 276 → K0 c k → u c k = w c k := fun c k q1 q2 => hf c k q1 (Or.inl q2)
  obtain ⟨q1, q2, q3⟩ := h2 i hi.1 (by omega)
  have hm := q1.low (frB.onN hf hs)
  have e56 : ∀ k, u 356 k = w 356 k := fun k => hf 356 k (by decide) (by omega)
  have e5 : u 275 5 = w 275 5 := hf _ _ (by decide) (by omega)
  have b1 := h6' i i hi.1 (Int.le_refl i) hi.2
  have ht := e_Has.get hm.1 (c := 276) (k := 0) (lo := 0) (hi := 6000) rfl (by decide)
  refine ⟨hm, ⟨by omega, Or.inr h6, fun g => by rw [e5, e56]; exact hb.2.2 (by omega)⟩, ?_, ?_, by rw [e56]; omega, by rw [e56]; omega⟩
  · rw [hs] at ht ⊢
    omega
  · rw [show u 276 = S i from funext hs]
    exact (h5 i hi.1 hi.2).next hK (fun j _ _ => hf 279 j (by decide) (by omega)) (hf 355 i (by decide) (by omega)) (e56 i) (fun k _ _ => hf 354 k (by decide) (by omega))
theorem bkI.back {w u v w' : eW} {G : Int → Gh} {S : Int → Int → Int} {n : Int} (h : bkI w G S) (hF : e_fr mBb w u) (h8 : u 275 118 = w 275 118) (hs : ∀ k, u 276 k = S n k) (hn : 0 ≤ n ∧ n ≤ w 275 5) (e1 : e_up u 275 6 0 = v) (e2 : e_up v 275 5 n = w') (hout : ∀ k, (k < 0 ∨ 33060 ≤ k) → u 276 k = w 276 k) : bkI w' G S := by
  obtain ⟨h1, h2, h3, h4, h5, h6, h7, h8', h9⟩ := h
  have hf := frB.bb hF
  have x : ∀ c k, c ≠ 275 → w' c k = u c k := fun c k q => by rw [← e2, ← e1]; exact (e_up_ne _ _ (Or.inl q)).trans (e_up_ne _ _ (Or.inl q))
  have x5 : w' 275 5 = n := by rw [← e2]; exact e_up_eq _ _ _ _
  have x6 : w' 275 6 = 0 := by rw [← e2, ← e1]; exact (e_up_ne _ _ (Or.inr (by decide))).trans (e_up_eq _ _ _ _)
  have xo : ∀ k, k ≠ 5 → k ≠ 6 → w' 275 k = u 275 k := fun k q1 q2 => by rw [← e2, ← e1]; exact (e_up_ne _ _ (Or.inr q1)).trans (e_up_ne _ _ (Or.inr q2))
  have hK : ∀ c k, c ≠ 276 → K0 c k → w' c k = w c k := fun c k q1 q2 => by
    by_cases e : c = 275
    · subst e
      rw [xo k (fun e => by rw [e] at q2; exact absurd q2 (by decide : ¬ ((1 : Int) ≤ 0))) (fun e => by rw [e] at q2; exact absurd q2 (by decide : ¬ ((1 : Int) ≤ 0)))]
      exact hf _ _ (by decide) (Or.inl q2)
    · rw [x c k e]; exact hf c k q1 (Or.inl q2)
  have y : ∀ c k, (277 ≤ c ∧ c ≤ 279) ∨ (354 ≤ c ∧ c ≤ 356) → w' c k = w c k := fun c k q => (x c k (by omega)).trans (hf c k (by omega) (by omega))
  have p8 : w' 275 118 = w 275 118 := (xo 118 (by decide) (by decide)).trans h8
  refine ⟨fun k => by rw [x5, x 276 k (by decide)]; exact hs k, fun i g1 g2 => ?_, fun k g1 g2 => by rw [y 277 k (by omega)]; exact h3 k g1 g2, fun q k g1 g2 g3 g4 => by rw [y 278 _ (by omega)]; exact h4 q k g1 (by omega) g3 g4, fun i g1 g2 => ?_, fun i j g1 g2 g3 => ?_, by omega, x6, by omega⟩
  · obtain ⟨q1, q2, q3⟩ := h2 i g1 (by omega)
    exact ⟨q1.low (wn_of hK), q2, fun k g => by rw [x 276 k (by decide), hout k g]; exact q3 k g⟩
  · exact (h5 i g1 (by omega)).next hK (fun j _ _ => y 279 j (by omega)) (y 355 i (by omega)) (y 356 i (by omega)) (fun k _ _ => y 354 k (by omega))
  · rw [y 356 i (by omega), y 356 j (by omega)]
    have := h6 i j g1 g2 (by omega)
    omega
/-- the machine writes into its cells alone -/
theorem out_now {k : Int} (h : k < 0 ∨ 33060 ≤ k) : e_out elay 276 k := ⟨by decide, by decide, fun kd cl n e => by
  have e1 : (some ((1 : Nat), (0 : Nat), (33060 : Nat))).map (fun q => q.2.2) = (elay[(276 : Int).toNat]?).map (fun q => q.2.2) := by decide +kernel
  rw [e] at e1
  have : 33060 = n := Option.some.inj e1
  omega⟩
theorem e_Ok.outN {d M : Nat} {l : eL} {w : eW} {Q : List eV → eW → Prop} (h : e_Ok 20 elay ecode eI d M (0, l, [], w) Q) : e_Ok 20 elay ecode eI d M (0, l, [], w) (fun r v => Q r v ∧ ∀ k, (k < 0 ∨ 33060 ≤ k) → v 276 k = w 276 k) := (e_Ok.out eAlk h).imp (fun _ _ h => ⟨h.1, fun k q => h.2 276 k (out_now q)⟩)
end
end
-- part 9v
section
noncomputable section
theorem no_9v_0 : ¬ mTi 275 118 := by unfold mTi; omega
theorem no_9v_1 : ¬ mTi 275 6 := by unfold mTi; omega
set_option maxHeartbeats 4000000 in
theorem c_435_r {d : Nat} (hd : 47 ≤ d) {w : eW} {G : Int → Gh} (hI : mInv w G) (hB : bkE w) (hE : w 276 5 ≤ 7000000) (h6 : w 275 6 = 1) {x a b c : Int} (g1 : -2147483648 ≤ x ∧ x ≤ 2147483647) (g2 : -2147483648 ≤ a ∧ a ≤ 2147483647) (g3 : -2147483648 ≤ b ∧ b ≤ 2147483647) (g4 : -2147483648 ≤ c ∧ c ≤ 2147483647) (hC : rowC w x a b c) : e_Ok 20 elay ecode eI d 435 (0, [(0, (1, 275)), (1, (0, x)), (2, (0, a)), (3, (0, b)), (4, (0, c))], [], w) (fun r w' => ∃ z : Int, r = [(0, z)] ∧ e_fr mBb w w' ∧ w' 275 118 = w 275 118 ∧ w' 275 6 = w 275 6 ∧ ∀ k, w' 276 k = rowF w x a b c k) := by
  obtain ⟨d, rfl⟩ : ∃ e, d = e + 1 := ⟨d - 1, by omega⟩
  have hx0 := hC.1
  refine e_Ok.ps1 (x := (0, x)) (q := 1) 1 rfl ?_
  have hs2 : ∀ x : Int, 0 ≤ x ∧ x ≤ 11 ∧ x ≠ 10 → (x = 0) ∨ (x = 1) ∨ (x = 2) ∨ (x = 3) ∨ (x = 4) ∨ (x = 5) ∨ (x = 6) ∨ (x = 7) ∨ (x = 8) ∨ (x = 9) ∨ (x = 11) := fun x h => by omega
  obtain h1 | h1 | h1 | h1 | h1 | h1 | h1 | h1 | h1 | h1 | h1 := hs2 (x) (by omega)
  · refine e_Ok.sw (tg := 60) rfl (by rw [h1]; rfl) ?_
    have hX : x = 0 := by omega
    refine e_Ok.run (t' := (63, [(0, (1, 275)), (1, (0, x)), (2, (0, a)), (3, (0, b)), (4, (0, c))], [(0, b), (0, a), (1, 275)], w)) 3 rfl ?_
    refine e_Ok.callV rfl (e_dq hd rfl) rfl rfl rfl rfl ((c_425 (e_dq hd rfl) hI hB hE (by omega) (by omega)).imp (fun _ _ h => again_of h6 (hC.2.1 hX) h)) (fun r3 w4 h5 => ?_)
    obtain ⟨z6, rfl, q7, q7s⟩ := h5
    refine e_Ok.nrm (q := 66) (st' := [(0, z6)]) rfl rfl ?_
    refine e_Ok.rets rfl rfl ?_
    exact ⟨_, rfl, (e_fr.mono q7 (fun _ _ g => Or.inl g)), q7 275 118 no_9v_0, q7 275 6 no_9v_1, fun k => by rw [q7s k, hX]; rfl⟩
  · refine e_Ok.sw (tg := 67) rfl (by rw [h1]; rfl) ?_
    have hX : x = 1 := by omega
    refine e_Ok.run (t' := (69, [(0, (1, 275)), (1, (0, x)), (2, (0, a)), (3, (0, b)), (4, (0, c))], [(0, a), (1, 275)], w)) 2 rfl ?_
    refine e_Ok.callV rfl (e_dq hd rfl) rfl rfl rfl rfl ((c_426 (e_dq hd rfl) hI hB hE (by omega)).imp (fun _ _ h => again_of h6 (hC.2.2.1 hX) h)) (fun r8 w9 h10 => ?_)
    obtain ⟨z11, rfl, q12, q12s⟩ := h10
    refine e_Ok.nrm (q := 72) (st' := [(0, z11)]) rfl rfl ?_
    refine e_Ok.rets rfl rfl ?_
    exact ⟨_, rfl, (e_fr.mono q12 (fun _ _ g => Or.inl g)), q12 275 118 no_9v_0, q12 275 6 no_9v_1, fun k => by rw [q12s k, hX]; rfl⟩
  · refine e_Ok.sw (tg := 73) rfl (by rw [h1]; rfl) ?_
    have hX : x = 2 := by omega
    refine e_Ok.run (t' := (76, [(0, (1, 275)), (1, (0, x)), (2, (0, a)), (3, (0, b)), (4, (0, c))], [(0, b), (0, a), (1, 275)], w)) 3 rfl ?_
    refine e_Ok.callV rfl (e_dq hd rfl) rfl rfl rfl rfl ((c_427 (e_dq hd rfl) hI hB hE (by omega) (by omega)).imp (fun _ _ h => again_of h6 (hC.2.2.2.1 hX) h)) (fun r13 w14 h15 => ?_)
    obtain ⟨z16, rfl, q17, q17s⟩ := h15
    refine e_Ok.nrm (q := 79) (st' := [(0, z16)]) rfl rfl ?_
    refine e_Ok.rets rfl rfl ?_
    exact ⟨_, rfl, (e_fr.mono q17 (fun _ _ g => Or.inl g)), q17 275 118 no_9v_0, q17 275 6 no_9v_1, fun k => by rw [q17s k, hX]; rfl⟩
  · refine e_Ok.sw (tg := 80) rfl (by rw [h1]; rfl) ?_
    have hX : x = 3 := by omega
    have hX3 := (hC.2.2.2.2.1 hX).2
    refine e_Ok.run (t' := (86, [(0, (1, 275)), (1, (0, x)), (2, (0, a)), (3, (0, b)), (4, (0, c))], [(0, 1), (0, c), (0, b), (0, a), (1, 275)], w)) 5 rfl ?_
    refine e_Ok.if2 rfl (fun h18 => ?_) (fun h18 => ?_)
    · replace h18 : (c : Int) ≠ 1 := h18
      refine e_Ok.ps1 (x := (0, 0)) (q := 94) 1 rfl ?_
      refine e_Ok.callV rfl (e_dq hd rfl) rfl rfl rfl rfl ((c_428 (e_dq hd rfl) hI hB hE (by omega) (by omega) (by omega) (by omega)).imp (fun _ _ h => again_of h6 (hC.2.2.2.2.1 hX).1 h)) (fun r19 w20 h21 => ?_)
      obtain ⟨z22, rfl, q23, q23s⟩ := h21
      refine e_Ok.nrm (q := 97) (st' := [(0, z22)]) rfl rfl ?_
      refine e_Ok.rets rfl rfl ?_
      exact ⟨_, rfl, (e_fr.mono q23 (fun _ _ g => Or.inl g)), q23 275 118 no_9v_0, q23 275 6 no_9v_1, fun k => by rw [q23s k, hX, show c = 0 by omega]; rfl⟩
    · replace h18 : (c : Int) = 1 := Classical.not_not.mp (show ¬ ((c : Int) ≠ 1) from h18)
      refine e_Ok.ps1 (x := (0, 1)) (q := 94) 2 rfl ?_
      refine e_Ok.callV rfl (e_dq hd rfl) rfl rfl rfl rfl ((c_428 (e_dq hd rfl) hI hB hE (by omega) (by omega) (by omega) (by omega)).imp (fun _ _ h => again_of h6 (hC.2.2.2.2.1 hX).1 h)) (fun r24 w25 h26 => ?_)
      obtain ⟨z27, rfl, q28, q28s⟩ := h26
      refine e_Ok.nrm (q := 97) (st' := [(0, z27)]) rfl rfl ?_
      refine e_Ok.rets rfl rfl ?_
      exact ⟨_, rfl, (e_fr.mono q28 (fun _ _ g => Or.inl g)), q28 275 118 no_9v_0, q28 275 6 no_9v_1, fun k => by rw [q28s k, hX, show c = 1 by omega]; rfl⟩
  · refine e_Ok.sw (tg := 98) rfl (by rw [h1]; rfl) ?_
    have hX : x = 4 := by omega
    have hX4 := (hC.2.2.2.2.2.1 hX).2
    refine e_Ok.run (t' := (102, [(0, (1, 275)), (1, (0, x)), (2, (0, a)), (3, (0, b)), (4, (0, c))], [(0, 1), (0, b), (0, a), (1, 275)], w)) 4 rfl ?_
    refine e_Ok.if2 rfl (fun h29 => ?_) (fun h29 => ?_)
    · replace h29 : (b : Int) ≠ 1 := h29
      refine e_Ok.ps3 (x := (0, 1)) (y := (0, c)) (z := (0, 0)) (q := 113) 3 rfl ?_
      refine e_Ok.if2 rfl (fun h30 => ?_) (fun h30 => ?_)
      · replace h30 : (c : Int) ≠ 1 := h30
        refine e_Ok.ps1 (x := (0, 0)) (q := 121) 1 rfl ?_
        refine e_Ok.callV rfl (e_dq hd rfl) rfl rfl rfl rfl ((c_429 (e_dq hd rfl) hI hB hE (by omega) (by omega) (by omega) (by omega) (by omega)).imp (fun _ _ h => again_of h6 (hC.2.2.2.2.2.1 hX).1 h)) (fun r31 w32 h33 => ?_)
        obtain ⟨z34, rfl, q35, q35s⟩ := h33
        refine e_Ok.nrm (q := 124) (st' := [(0, z34)]) rfl rfl ?_
        refine e_Ok.rets rfl rfl ?_
        exact ⟨_, rfl, (e_fr.mono q35 (fun _ _ g => Or.inl g)), q35 275 118 no_9v_0, q35 275 6 no_9v_1, fun k => by rw [q35s k, hX, show b = 0 by omega, show c = 0 by omega]; rfl⟩
      · replace h30 : (c : Int) = 1 := Classical.not_not.mp (show ¬ ((c : Int) ≠ 1) from h30)
        refine e_Ok.ps1 (x := (0, 1)) (q := 121) 2 rfl ?_
        refine e_Ok.callV rfl (e_dq hd rfl) rfl rfl rfl rfl ((c_429 (e_dq hd rfl) hI hB hE (by omega) (by omega) (by omega) (by omega) (by omega)).imp (fun _ _ h => again_of h6 (hC.2.2.2.2.2.1 hX).1 h)) (fun r36 w37 h38 => ?_)
        obtain ⟨z40, rfl, q41, q41s⟩ := h38
        refine e_Ok.nrm (q := 124) (st' := [(0, z40)]) rfl rfl ?_
        refine e_Ok.rets rfl rfl ?_
        exact ⟨_, rfl, (e_fr.mono q41 (fun _ _ g => Or.inl g)), q41 275 118 no_9v_0, q41 275 6 no_9v_1, fun k => by rw [q41s k, hX, show b = 0 by omega, show c = 1 by omega]; rfl⟩
    · replace h29 : (b : Int) = 1 := Classical.not_not.mp (show ¬ ((b : Int) ≠ 1) from h29)
      refine e_Ok.ps3 (x := (0, 1)) (y := (0, c)) (z := (0, 1)) (q := 113) 4 rfl ?_
      refine e_Ok.if2 rfl (fun h42 => ?_) (fun h42 => ?_)
      · replace h42 : (c : Int) ≠ 1 := h42
        refine e_Ok.ps1 (x := (0, 0)) (q := 121) 1 rfl ?_
        refine e_Ok.callV rfl (e_dq hd rfl) rfl rfl rfl rfl ((c_429 (e_dq hd rfl) hI hB hE (by omega) (by omega) (by omega) (by omega) (by omega)).imp (fun _ _ h => again_of h6 (hC.2.2.2.2.2.1 hX).1 h)) (fun r43 w44 h45 => ?_)
        obtain ⟨z46, rfl, q47, q47s⟩ := h45
        refine e_Ok.nrm (q := 124) (st' := [(0, z46)]) rfl rfl ?_
        refine e_Ok.rets rfl rfl ?_
        exact ⟨_, rfl, (e_fr.mono q47 (fun _ _ g => Or.inl g)), q47 275 118 no_9v_0, q47 275 6 no_9v_1, fun k => by rw [q47s k, hX, show b = 1 by omega, show c = 0 by omega]; rfl⟩
      · replace h42 : (c : Int) = 1 := Classical.not_not.mp (show ¬ ((c : Int) ≠ 1) from h42)
        refine e_Ok.ps1 (x := (0, 1)) (q := 121) 2 rfl ?_
        refine e_Ok.callV rfl (e_dq hd rfl) rfl rfl rfl rfl ((c_429 (e_dq hd rfl) hI hB hE (by omega) (by omega) (by omega) (by omega) (by omega)).imp (fun _ _ h => again_of h6 (hC.2.2.2.2.2.1 hX).1 h)) (fun r48 w49 h50 => ?_)
        obtain ⟨z51, rfl, q52, q52s⟩ := h50
        refine e_Ok.nrm (q := 124) (st' := [(0, z51)]) rfl rfl ?_
        refine e_Ok.rets rfl rfl ?_
        exact ⟨_, rfl, (e_fr.mono q52 (fun _ _ g => Or.inl g)), q52 275 118 no_9v_0, q52 275 6 no_9v_1, fun k => by rw [q52s k, hX, show b = 1 by omega, show c = 1 by omega]; rfl⟩
  · refine e_Ok.sw (tg := 125) rfl (by rw [h1]; rfl) ?_
    have hX : x = 5 := by omega
    refine e_Ok.run (t' := (127, [(0, (1, 275)), (1, (0, x)), (2, (0, a)), (3, (0, b)), (4, (0, c))], [(0, a), (1, 275)], w)) 2 rfl ?_
    refine e_Ok.callV rfl (e_dq hd rfl) rfl rfl rfl rfl ((c_430 (e_dq hd rfl) hI hB hE (by omega)).imp (fun _ _ h => again_of h6 (hC.2.2.2.2.2.2.1 hX) h)) (fun r53 w54 h55 => ?_)
    obtain ⟨z56, rfl, q57, q57s⟩ := h55
    refine e_Ok.nrm (q := 130) (st' := [(0, z56)]) rfl rfl ?_
    refine e_Ok.rets rfl rfl ?_
    exact ⟨_, rfl, (e_fr.mono q57 (fun _ _ g => Or.inl g)), q57 275 118 no_9v_0, q57 275 6 no_9v_1, fun k => by rw [q57s k, hX]; rfl⟩
  · refine e_Ok.sw (tg := 131) rfl (by rw [h1]; rfl) ?_
    have hX : x = 6 := by omega
    refine e_Ok.run (t' := (133, [(0, (1, 275)), (1, (0, x)), (2, (0, a)), (3, (0, b)), (4, (0, c))], [(0, a), (1, 275)], w)) 2 rfl ?_
    refine e_Ok.callV rfl (e_dq hd rfl) rfl rfl rfl rfl ((c_431 (e_dq hd rfl) hI hB hE (by omega)).imp (fun _ _ h => again_of h6 (hC.2.2.2.2.2.2.2.1 hX) h)) (fun r58 w59 h60 => ?_)
    obtain ⟨z61, rfl, q62, q62s⟩ := h60
    refine e_Ok.nrm (q := 136) (st' := [(0, z61)]) rfl rfl ?_
    refine e_Ok.rets rfl rfl ?_
    exact ⟨_, rfl, (e_fr.mono q62 (fun _ _ g => Or.inl g)), q62 275 118 no_9v_0, q62 275 6 no_9v_1, fun k => by rw [q62s k, hX]; rfl⟩
  · refine e_Ok.sw (tg := 137) rfl (by rw [h1]; rfl) ?_
    have hX : x = 7 := by omega
    refine e_Ok.run (t' := (139, [(0, (1, 275)), (1, (0, x)), (2, (0, a)), (3, (0, b)), (4, (0, c))], [(0, a), (1, 275)], w)) 2 rfl ?_
    refine e_Ok.callV rfl (e_dq hd rfl) rfl rfl rfl rfl ((c_432 (e_dq hd rfl) hI hB hE (by omega)).imp (fun _ _ h => again_of h6 (hC.2.2.2.2.2.2.2.2.1 hX) h)) (fun r63 w64 h65 => ?_)
    obtain ⟨z66, rfl, q67, q67s⟩ := h65
    refine e_Ok.nrm (q := 142) (st' := [(0, z66)]) rfl rfl ?_
    refine e_Ok.rets rfl rfl ?_
    exact ⟨_, rfl, (e_fr.mono q67 (fun _ _ g => Or.inl g)), q67 275 118 no_9v_0, q67 275 6 no_9v_1, fun k => by rw [q67s k, hX]; rfl⟩
  · refine e_Ok.sw (tg := 143) rfl (by rw [h1]; rfl) ?_
    have hX : x = 8 := by omega
    refine e_Ok.run (t' := (148, [(0, (1, 275)), (1, (0, x)), (2, (0, a)), (3, (0, b)), (4, (0, c))], [(0, c), (0, b), (0, a), (1, 275)], w)) 4 rfl ?_
    refine e_Ok.callV rfl (e_dq hd rfl) rfl rfl rfl rfl ((c_433 (e_dq hd rfl) hI hB hE (by omega) (by omega) (by omega)).imp (fun _ _ h => again_of h6 (hC.2.2.2.2.2.2.2.2.2.1 hX) h)) (fun r68 w69 h70 => ?_)
    obtain ⟨z71, rfl, q72, q72s⟩ := h70
    refine e_Ok.nrm (q := 151) (st' := [(0, z71)]) rfl rfl ?_
    refine e_Ok.rets rfl rfl ?_
    exact ⟨_, rfl, (e_fr.mono q72 (fun _ _ g => Or.inl g)), q72 275 118 no_9v_0, q72 275 6 no_9v_1, fun k => by rw [q72s k, hX]; rfl⟩
  · refine e_Ok.sw (tg := 152) rfl (by rw [h1]; rfl) ?_
    have hX : x = 9 := by omega
    refine e_Ok.run (t' := (155, [(0, (1, 275)), (1, (0, x)), (2, (0, a)), (3, (0, b)), (4, (0, c))], [(0, b), (0, a), (1, 275)], w)) 3 rfl ?_
    refine e_Ok.callV rfl (e_dq hd rfl) rfl rfl rfl rfl ((c_434 (e_dq hd rfl) hI hB hE (by omega) (by omega)).imp (fun _ _ h => again_of h6 (hC.2.2.2.2.2.2.2.2.2.2.1 hX) h)) (fun r73 w74 h75 => ?_)
    obtain ⟨z76, rfl, q77, q77s⟩ := h75
    refine e_Ok.nrm (q := 158) (st' := [(0, z76)]) rfl rfl ?_
    refine e_Ok.rets rfl rfl ?_
    exact ⟨_, rfl, (e_fr.mono q77 (fun _ _ g => Or.inl g)), q77 275 118 no_9v_0, q77 275 6 no_9v_1, fun k => by rw [q77s k, hX]; rfl⟩
  · refine e_Ok.sw (tg := 168) rfl (by rw [h1]; rfl) ?_
    have hX : x = 11 := by omega
    refine e_Ok.run (t' := (170, [(0, (1, 275)), (1, (0, x)), (2, (0, a)), (3, (0, b)), (4, (0, c))], [(0, a), (1, 275)], w)) 2 rfl ?_
    refine e_Ok.callV rfl (e_dq hd rfl) rfl rfl rfl rfl ((c_419 (e_dq hd rfl) hI hB hE (by omega)).imp (fun _ _ h => again_of h6 (hC.2.2.2.2.2.2.2.2.2.2.2 hX) h)) (fun r78 w79 h80 => ?_)
    obtain ⟨z81, rfl, q82, q82s⟩ := h80
    refine e_Ok.nrm (q := 173) (st' := [(0, z81)]) rfl rfl ?_
    refine e_Ok.rets rfl rfl ?_
    exact ⟨_, rfl, (e_fr.mono q82 (fun _ _ g => Or.inl g)), q82 275 118 no_9v_0, q82 275 6 no_9v_1, fun k => by rw [q82s k, hX]; rfl⟩
theorem no_9v_2 : ¬ mPm 275 6 := by unfold mPm; omega
theorem c_435_p {d : Nat} (hd : 47 ≤ d) {w : eW} {G : Int → Gh} (hI : mInv w G) (hB : bkE w) (h6 : w 275 6 = 1) (hpl : 0 ≤ w 275 118 ∧ w 275 118 ≤ 60) {a b c : Int} (g1 : -2147483648 ≤ a ∧ a ≤ 2147483647) (g2 : -2147483648 ≤ b ∧ b ≤ 2147483647) (g3 : -2147483648 ≤ c ∧ c ≤ 2147483647) (hA : plA w a b c) {R E zz : Int} {g : Int → Int} (hR : 0 ≤ R ∧ R ≤ 1999) (hr7 : w 275 117 = R) (hzz : 0 ≤ zz ∧ zz ≤ 999) (hEE : 0 ≤ E ∧ E + zz ≤ 200000) (hE5 : w 355 R = E) (hE6 : w 356 R = E + zz) (hE4 : ∀ i, 0 ≤ i → i < zz → w 354 (E + i) = g i ∧ 0 ≤ g i ∧ g i ≤ 11) : e_Ok 20 elay ecode eI d 435 (0, [(0, (1, 275)), (1, (0, 10)), (2, (0, a)), (3, (0, b)), (4, (0, c))], [], w) (fun r w' => ∃ z : Int, r = [(0, z)] ∧ e_fr mBb w w' ∧ w' 275 118 = w 275 118 ∧ w' 275 6 = w 275 6 ∧ ∀ k, w' 276 k = plN w a b zz g k) := by
  obtain ⟨d, rfl⟩ : ∃ e, d = e + 1 := ⟨d - 1, by omega⟩
  refine e_Ok.ps1 (x := (0, 10)) (q := 1) 1 rfl ?_
  have hs2 : ∀ x : Int, 10 ≤ x ∧ x ≤ 10 → (x = 10) := fun x h => by omega
  obtain h1 := hs2 (10) (by omega)
  · refine e_Ok.sw (tg := 159) rfl (by rw [h1]; rfl) ?_
    refine e_Ok.run (t' := (164, [(0, (1, 275)), (1, (0, 10)), (2, (0, a)), (3, (0, b)), (4, (0, c))], [(0, c), (0, b), (0, a), (1, 275)], w)) 4 rfl ?_
    refine e_Ok.callV rfl (e_dq hd rfl) rfl rfl rfl rfl (c_418_a (e_dq hd rfl) hI hB (by omega) (by omega) (by omega) hpl h6 hA hR hr7 hzz hEE hE5 hE6 hE4) (fun r3 w4 h5 => ?_)
    obtain ⟨z6, rfl, q7, q7T, q78, q7s⟩ := h5
    refine e_Ok.nrm (q := 167) (st' := [(0, z6)]) rfl rfl ?_
    refine e_Ok.rets rfl rfl ?_
    exact ⟨_, rfl, (e_fr.mono q7 (fun _ _ g => Or.inr (Or.inl g))), q78, q7 275 6 no_9v_2, q7s⟩
theorem c_435 {d : Nat} (hd : 47 ≤ d) {w : eW} {G : Int → Gh} (hI : mInv w G) (hB : bkE w) (hE : w 276 5 ≤ 7000000) (h6 : w 275 6 = 1) (hpl : 0 ≤ w 275 118 ∧ w 275 118 ≤ 60) {i x a b c : Int} {s : Int → Int} (hi : 0 ≤ i ∧ i ≤ 1999) (h7 : w 275 117 = i) (hr : bkR w i (w 276) s) (h56 : w 356 i ≤ 200000) (ex : w 279 (4 * i) = x) (ea : w 279 (4 * i + 1) = a) (eb : w 279 (4 * i + 2) = b) (ec : w 279 (4 * i + 3) = c) : e_Ok 20 elay ecode eI d 435 (0, [(0, (1, 275)), (1, (0, x)), (2, (0, a)), (3, (0, b)), (4, (0, c))], [], w) (fun r w' => ∃ z : Int, r = [(0, z)] ∧ e_fr mBb w w' ∧ w' 275 118 = w 275 118 ∧ w' 275 6 = w 275 6 ∧ ∀ k, w' 276 k = s k) := by
  obtain ⟨q1, q2⟩ := hr
  have kx := q1 (4 * i) (by omega) (by omega)
  have ka := q1 (4 * i + 1) (by omega) (by omega)
  have kb := q1 (4 * i + 2) (by omega) (by omega)
  have kc := q1 (4 * i + 3) (by omega) (by omega)
  rw [wn_self, ex, ea, eb, ec] at q2
  rw [ex] at kx
  rw [ea] at ka
  rw [eb] at kb
  rw [ec] at kc
  rcases q2 with ⟨q2, q3⟩ | ⟨q2, q3, z, g, z1, z2, z3, z4, z5⟩
  · refine (c_435_r hd hI hB hE h6 kx ka kb kc q2).imp (fun r w' h => ?_)
    obtain ⟨z, h1, h2, h3, h4, h5⟩ := h
    exact ⟨z, h1, h2, h3, h4, fun k => by rw [h5 k, q3 k]⟩
  · subst q2
    refine (c_435_p hd hI hB h6 hpl ka kb kc q3 (E := w 355 i) hi h7 z1 ⟨z2, by omega⟩ rfl z3 z4).imp (fun r w' h => ?_)
    obtain ⟨z', h1, h2, h3, h4, h5⟩ := h
    exact ⟨z', h1, h2, h3, h4, fun k => by rw [h5 k, z5 k]⟩
theorem no_9v_3 : ¬ mBb 275 0 := by unfold mBb mTi mPm; omega
theorem no_9v_4 : ¬ mBb 275 4 := by unfold mBb mTi mPm; omega
theorem no_9v_5 {k : Int} : ¬ mBb 279 k := by unfold mBb mTi mPm; omega
theorem no_9v_6 : ¬ mBb 275 2 := by unfold mBb mTi mPm; omega
theorem no_9v_7 {k : Int} : ¬ mBb 278 k := by unfold mBb mTi mPm; omega
theorem no_9v_8 : ¬ mBb 275 1 := by unfold mBb mTi mPm; omega
theorem no_9v_9 {k : Int} : ¬ mBb 277 k := by unfold mBb mTi mPm; omega
set_option maxHeartbeats 4000000 in
theorem c_436 {d : Nat} (hd : 49 ≤ d) {w : eW} {G : Int → Gh} {S : Int → Int → Int} (hK : bkI w G S) {p1 : Int} (g1 : -2147483648 ≤ p1 ∧ p1 ≤ 2147483647) : e_Ok 20 elay ecode eI d 436 (0, [(0, (1, 275)), (1, (0, p1))], [], w) (fun r w' => ∃ z : Int, r = [(0, z)] ∧ (w = w' ∨ (bkI w' G S ∧ e_fr (fun c k => mBb c k ∨ (c = 275 ∧ k = 5)) w w'))) := by
  obtain ⟨d, rfl⟩ : ∃ e, d = e + 1 := ⟨d - 1, by omega⟩
  have hI := hK.inv
  have hro := hK.2.2.2.2.2.2.2.2
  refine e_Ok.ps3 (x := (1, 275)) (y := (4, 0)) (z := (4, p1)) (q := 4) 4 rfl ?_
  refine e_Ok.getf (z := w 275 5) rfl (el_o rfl) rfl (ef_o rfl) rfl (by omega) ?_
  refine e_Ok.run (t' := (8, [(0, (1, 275)), (1, (0, p1))], [(4, w 275 5), (4, 0), (4, p1)], w)) 1 rfl ?_
  refine e_Ok.callS rfl (e_dq hd rfl) rfl rfl (c_266) (fun r1 w2 h3 => ?_)
  obtain ⟨z4, rfl, rfl, q5⟩ := h3
  obtain ⟨rfl, q5⟩ | ⟨rfl, q5⟩ := q5
  · refine e_Ok.nrm (q := 11) (st' := [(0, 1)]) rfl rfl ?_
    refine e_Ok.if1 rfl (fun h6 => ?_) (fun h6 => ?_)
    · replace h6 : (1 : Int) ≠ 0 := h6
      refine e_Ok.ps1 (x := (1, 275)) (q := 17) 1 rfl ?_
      have h7 := (e_Has.get hI.1 (c := 275) (k := 3) (lo := 0) (hi := 1) rfl (by decide))
      refine e_Ok.getf (z := w 275 3) rfl (el_o rfl) rfl (ef_o rfl) rfl (e_bq h7 (by decide) (by decide)) ?_
      refine e_Ok.if1 rfl (fun h8 => ?_) (fun h8 => ?_)
      · replace h8 : (w 275 3 : Int) ≠ 0 := h8
        refine e_Ok.ps2 (x := (0, 100)) (y := (0, p1)) (q := 29) 2 rfl ?_
        refine e_Ok.divn (fun z9 hz9 => ?_) rfl (by omega) (by omega)
        replace hz9 : z9 = p1 / 100 := hz9
        have z9r : 0 ≤ z9 ∧ z9 ≤ 20 := by omega
        have hSz := hK.2.1 (100 * z9) (by omega) (by omega)
        refine e_Ok.run (t' := (33, [(3, (0, 0)), (2, (0, z9)), (0, (1, 275)), (1, (0, p1))], [], w)) 3 rfl ?_
        have hL10 : ∀ (nn : Nat) (y3 : Int) (v1 : eW), e_fr mBb w v1 ∧ (0 ≤ y3 ∧ y3 ≤ 33060) ∧ (∀ k, 0 ≤ k → k < y3 → v1 276 k = S (100 * z9) k) ∧ (∀ c k, ¬ (c = 276 ∧ 0 ≤ k ∧ k < y3) → v1 c k = w c k) → 33061 - y3 < nn → e_Ok 20 elay ecode eI (d + 1) 436 (33, [(0, (1, 275)), (1, (0, p1)), (2, (0, z9)), (3, (0, y3))], [], v1) (fun r w' => ∃ z : Int, r = [(0, z)] ∧ (w = w' ∨ (bkI w' G S ∧ e_fr (fun c k => mBb c k ∨ (c = 275 ∧ k = 5)) w w'))) := by
          intro nn
          induction nn with
          | zero => intro y3 v1 hj hm; obtain ⟨j12, j13, j14, j15⟩ := hj; exfalso; omega
          | succ nn ih11 =>
            intro y3 v1 hj hm
            obtain ⟨j12, j13, j14, j15⟩ := hj
            refine e_Ok.run (t' := (36, [(0, (1, 275)), (1, (0, p1)), (2, (0, z9)), (3, (0, y3))], [(0, 33060), (0, y3)], v1)) 2 rfl ?_
            refine e_Ok.if2 rfl (fun h16 => ?_) (fun h16 => ?_)
            · replace h16 : (y3 : Int) ≥ 33060 := h16
              have hv1s : ∀ k, v1 276 k = S (100 * z9) k := fun k => Decidable.byCases (p := 0 ≤ k ∧ k < 33060) (fun e => j14 k e.1 (by omega)) (fun e => Eq.trans (j15 276 k (by omega)) (hSz.2.2 k (by omega)).symm)
              refine e_Ok.ps2 (x := (0, 1)) (y := (1, 275)) (q := 79) 2 rfl ?_
              refine e_Ok.putb rfl (el_o rfl) rfl (ef_o rfl) (by omega) ?_
              generalize hw17 : e_up v1 275 6 1 = w17
              refine e_Ok.ps2 (x := (0, z9)) (y := (0, 100)) (q := 85) 2 rfl ?_
              refine e_Ok.mul (z := 100 * z9) rfl rfl (by omega) ?_
              refine e_Ok.run (t' := (87, [(3, (0, 100 * z9)), (0, (1, 275)), (1, (0, p1)), (2, (0, z9))], [], w17)) 1 rfl ?_
              have hL19 : ∀ (nn : Nat) (y3 : Int) (v2 : eW), e_fr mBb w v2 ∧ e_Has mTy v2 ∧ v2 275 6 = 1 ∧ v2 275 118 = w 275 118 ∧ (∀ k, v2 276 k = S y3 k) ∧ ((100 * z9 ≤ y3 ∧ y3 ≤ p1)) → 2001 - y3 < nn → e_Ok 20 elay ecode eI (d + 1) 436 (87, [(0, (1, 275)), (1, (0, p1)), (3, (0, y3))], [], v2) (fun r w' => ∃ z : Int, r = [(0, z)] ∧ (w = w' ∨ (bkI w' G S ∧ e_fr (fun c k => mBb c k ∨ (c = 275 ∧ k = 5)) w w'))) := by
                intro nn
                induction nn with
                | zero => intro y3 v2 hj hm; obtain ⟨j21, j22, j23, j24, j25, j26⟩ := hj; exfalso; omega
                | succ nn ih20 =>
                  intro y3 v2 hj hm
                  obtain ⟨j21, j22, j23, j24, j25, j26⟩ := hj
                  refine e_Ok.run (t' := (89, [(0, (1, 275)), (1, (0, p1)), (3, (0, y3))], [(0, p1), (0, y3)], v2)) 2 rfl ?_
                  refine e_Ok.if2 rfl (fun h27 => ?_) (fun h27 => ?_)
                  · replace h27 : (y3 : Int) ≥ p1 := h27
                    refine e_Ok.ps2 (x := (0, 0)) (y := (1, 275)) (q := 149) 2 rfl ?_
                    refine e_Ok.putb rfl (el_o rfl) rfl (ef_o rfl) (by omega) ?_
                    generalize hw28 : e_up v2 275 6 0 = w28
                    refine e_Ok.ps2 (x := (0, p1)) (y := (1, 275)) (q := 154) 2 rfl ?_
                    refine e_Ok.putf rfl (el_o rfl) rfl (ef_o rfl) ?_
                    generalize hw30 : e_up w28 275 5 p1 = w30
                    refine e_Ok.ps1 (x := (1, 275)) (q := 158) 1 rfl ?_
                    refine e_Ok.getr (z := 276) rfl (el_o rfl) rfl (ef_o rfl) (e_uq hw30 (Or.inr (by decide)) (e_uq hw28 (Or.inr (by decide)) ((j21 275 0 no_9v_3).trans (e_Has.eq hI.1 rfl)))) ⟨by decide, by decide⟩ ?_
                    refine e_Ok.ps1 (x := (0, 0)) (q := 162) 1 rfl ?_
                    have h31 := (e_Has.get j22 (c := 276) (k := 0) (lo := 0) (hi := 6000) rfl (by decide))
                    refine e_Ok.ald (z := v2 276 0) rfl (el_o rfl) rfl (by omega) (e_uq hw30 (Or.inl (by decide)) (e_uq hw28 (Or.inl (by decide)) rfl)) (e_bq h31 (by decide) (by decide)) ?_
                    refine e_Ok.rets rfl rfl ?_
                    have hb := bkI.back hK j21 j24 (n := p1) (fun k => by rw [show p1 = y3 by omega]; exact j25 k) (by omega) hw28 hw30 (fun k g => by rw [j25 k]; exact (hK.2.1 y3 (by omega) (by omega)).2.2 k g)
                    exact ⟨_, rfl, Or.inr ⟨hb, fun c k q => (by rw [← hw30, ← hw28]; exact (e_up_ne _ _ (by omega)).trans ((e_up_ne _ _ (by unfold mBb at q; omega)).trans (j21 c k (fun g => q (Or.inl g)))))⟩⟩
                  · replace h27 : (y3 : Int) < p1 := Int.not_le.mp (show ¬ ((y3 : Int) ≥ p1) from h27)
                    have hkb := (hK.2.2.2.2.1 y3 (by omega) (by omega)).1
                    refine e_Ok.ps2 (x := (0, y3)) (y := (1, 275)) (q := 94) 2 rfl ?_
                    refine e_Ok.putf rfl (el_o rfl) rfl (ef_o rfl) ?_
                    generalize hw32 : e_up v2 275 117 y3 = w32
                    have f33 : e_fr mBb w w32 := e_fr.up j21 hw32 (by first | exact Or.inr (Or.inr ⟨rfl, Or.inr rfl⟩) | (unfold mBb mTi mPm; omega))
                    refine e_Ok.ps2 (x := (1, 275)) (y := (1, 275)) (q := 99) 2 rfl ?_
                    refine e_Ok.getr (z := 279) rfl (el_o rfl) rfl (ef_o rfl) (e_uq hw32 (Or.inr (by decide)) ((j21 275 4 no_9v_4).trans (e_Has.eq hI.1 rfl))) ⟨by decide, by decide⟩ ?_
                    refine e_Ok.ps2 (x := (0, y3)) (y := (0, 4)) (q := 104) 2 rfl ?_
                    refine e_Ok.mul (z := 4 * y3) rfl rfl (by omega) ?_
                    have h34 := (hkb (4 * y3) (by omega) (by omega))
                    refine e_Ok.ald (z := w 279 (4 * y3)) rfl (el_o rfl) rfl (by omega) (e_uq hw32 (Or.inl (by decide)) ((j21 279 (4 * y3) no_9v_5).trans rfl)) (by omega) ?_
                    refine e_Ok.ps1 (x := (1, 275)) (q := 107) 1 rfl ?_
                    refine e_Ok.getr (z := 279) rfl (el_o rfl) rfl (ef_o rfl) (e_uq hw32 (Or.inr (by decide)) ((j21 275 4 no_9v_4).trans (e_Has.eq hI.1 rfl))) ⟨by decide, by decide⟩ ?_
                    refine e_Ok.ps2 (x := (0, y3)) (y := (0, 4)) (q := 112) 2 rfl ?_
                    refine e_Ok.mul (z := 4 * y3) rfl rfl (by omega) ?_
                    refine e_Ok.ps1 (x := (0, 1)) (q := 114) 1 rfl ?_
                    refine e_Ok.add (z := 4 * y3 + 1) rfl rfl (by omega) ?_
                    have h35 := (hkb (4 * y3 + 1) (by omega) (by omega))
                    refine e_Ok.ald (z := w 279 (4 * y3 + 1)) rfl (el_o rfl) rfl (by omega) (e_uq hw32 (Or.inl (by decide)) ((j21 279 (4 * y3 + 1) no_9v_5).trans rfl)) (by omega) ?_
                    refine e_Ok.ps1 (x := (1, 275)) (q := 117) 1 rfl ?_
                    refine e_Ok.getr (z := 279) rfl (el_o rfl) rfl (ef_o rfl) (e_uq hw32 (Or.inr (by decide)) ((j21 275 4 no_9v_4).trans (e_Has.eq hI.1 rfl))) ⟨by decide, by decide⟩ ?_
                    refine e_Ok.ps2 (x := (0, y3)) (y := (0, 4)) (q := 122) 2 rfl ?_
                    refine e_Ok.mul (z := 4 * y3) rfl rfl (by omega) ?_
                    refine e_Ok.ps1 (x := (0, 2)) (q := 124) 1 rfl ?_
                    refine e_Ok.add (z := 4 * y3 + 2) rfl rfl (by omega) ?_
                    have h36 := (hkb (4 * y3 + 2) (by omega) (by omega))
                    refine e_Ok.ald (z := w 279 (4 * y3 + 2)) rfl (el_o rfl) rfl (by omega) (e_uq hw32 (Or.inl (by decide)) ((j21 279 (4 * y3 + 2) no_9v_5).trans rfl)) (by omega) ?_
                    refine e_Ok.ps1 (x := (1, 275)) (q := 127) 1 rfl ?_
                    refine e_Ok.getr (z := 279) rfl (el_o rfl) rfl (ef_o rfl) (e_uq hw32 (Or.inr (by decide)) ((j21 275 4 no_9v_4).trans (e_Has.eq hI.1 rfl))) ⟨by decide, by decide⟩ ?_
                    refine e_Ok.ps2 (x := (0, y3)) (y := (0, 4)) (q := 132) 2 rfl ?_
                    refine e_Ok.mul (z := 4 * y3) rfl rfl (by omega) ?_
                    refine e_Ok.ps1 (x := (0, 3)) (q := 134) 1 rfl ?_
                    refine e_Ok.add (z := 4 * y3 + 3) rfl rfl (by omega) ?_
                    have h37 := (hkb (4 * y3 + 3) (by omega) (by omega))
                    refine e_Ok.ald (z := w 279 (4 * y3 + 3)) rfl (el_o rfl) rfl (by omega) (e_uq hw32 (Or.inl (by decide)) ((j21 279 (4 * y3 + 3) no_9v_5).trans rfl)) (by omega) ?_
                    have hpr := bkI.pre hK f33 (show w32 275 6 = 1 from by rw [← hw32]; exact (e_up_ne _ _ (Or.inr (by decide))).trans j23) (fun k => Eq.trans (show w32 276 k = v2 276 k from by rw [← hw32]; exact e_up_ne _ _ (Or.inl (by decide))) (j25 k)) (i := y3) (by omega)
                    have h118 : w32 275 118 = w 275 118 := by rw [← hw32]; exact (e_up_ne _ _ (Or.inr (by decide))).trans j24
                    have h66 : w32 275 6 = 1 := by rw [← hw32]; exact (e_up_ne _ _ (Or.inr (by decide))).trans j23
                    refine e_Ok.callV rfl (e_dq hd rfl) rfl rfl rfl rfl (c_435 (e_dq hd rfl) hpr.1 hpr.2.1 hpr.2.2.1 h66 (by have := hK.2.2.2.2.2.2.1; omega) (i := y3) (by omega) (e_ue hw32) hpr.2.2.2.1 hpr.2.2.2.2.2 (f33 279 _ no_9v_5) (f33 279 _ no_9v_5) (f33 279 _ no_9v_5) (f33 279 _ no_9v_5)) (fun r38 w40 h41 => ?_)
                    obtain ⟨z42, rfl, q43, q438, q436, q43s⟩ := h41
                    have f44 : e_fr mBb w w40 := e_fr.trans f33 (e_fr.mono q43 (fun c k q => by exact q))
                    refine e_Ok.nrm (q := 139) (st' := [(0, z42)]) rfl rfl ?_
                    refine e_Ok.run (t' := (141, [(4, (0, z42)), (0, (1, 275)), (1, (0, p1)), (3, (0, y3))], [], w40)) 1 rfl ?_
                    refine e_Ok.inc (z := y3 + 1) rfl rfl (by first | with_reducible rfl | omega) (by omega) ?_
                    show e_Ok 20 elay ecode eI (d + 1) 436 (144, [(3, (0, y3 + 1)), (4, (0, z42)), (0, (1, 275)), (1, (0, p1))], [], w40) _
                    refine e_Ok.ps0 (q := 87) 1 rfl ?_
                    refine e_Ok.sub eAlk (e_sub_of rfl ?_) (ih20 (y3 + 1) w40 ⟨f44, (show e_Has mTy w40 from (hK.2.1 (y3 + 1) (by omega) (by omega)).1.1.low (frB.onN (frB.bb f44) q43s)), (q436.trans h66), (q438.trans h118), q43s, by omega⟩ (by omega))
                    exact ⟨rfl, rfl, rfl, trivial⟩
              refine e_Ok.sub eAlk (e_sub_of rfl ?_) (hL19 (2001 + 1 : Int).toNat (100 * z9) w17 ⟨(show e_fr mBb w w17 from e_fr.up j12 hw17 (by first | exact Or.inr (Or.inr ⟨rfl, Or.inl rfl⟩) | (unfold mBb mTi mPm; omega))), (e_Has.low (show e_Has mTy v1 from e_Has.low hSz.1.1 (frB.onN (frB.bb j12) hv1s)) (fun c k q => by rw [← hw17]; exact e_up_ne _ _ (Decidable.byCases (p := c = 275) (fun e => Or.inr (fun e2 => by rw [e, e2] at q; exact absurd q (by decide : ¬ ((1 : Int) ≤ 0)))) (fun e => Or.inl e)))), (e_ue hw17), (e_uq hw17 (Or.inr (by decide)) (j15 275 118 (by omega))), (fun k => Eq.trans (show w17 276 k = v1 276 k from by rw [← hw17]; exact e_up_ne _ _ (Or.inl (by decide))) (hv1s k)), by omega⟩ (by omega))
              exact ⟨rfl, rfl, rfl, trivial⟩
            · replace h16 : (y3 : Int) < 33060 := Int.not_le.mp (show ¬ ((y3 : Int) ≥ 33060) from h16)
              have hSb : -2147483648 ≤ S (100 * z9) y3 ∧ S (100 * z9) y3 ≤ 2147483647 := by have := e_Has.now hSz.1.1 y3; unfold wn at this; rw [if_pos rfl] at this; exact this
              refine e_Ok.ps1 (x := (1, 275)) (q := 40) 1 rfl ?_
              refine e_Ok.getr (z := 276) rfl (el_o rfl) rfl (ef_o rfl) ((j12 275 0 no_9v_3).trans (e_Has.eq hI.1 rfl)) ⟨by decide, by decide⟩ ?_
              refine e_Ok.ps2 (x := (0, z9)) (y := (0, y3)) (q := 45) 2 rfl ?_
              refine e_Ok.if1 rfl (fun h45 => ?_) (fun h45 => ?_)
              · replace h45 : (z9 : Int) ≠ 0 := h45
                refine e_Ok.ps1 (x := (1, 275)) (q := 58) 1 rfl ?_
                refine e_Ok.getr (z := 278) rfl (el_o rfl) rfl (ef_o rfl) ((j12 275 2 no_9v_6).trans (e_Has.eq hI.1 rfl)) ⟨by decide, by decide⟩ ?_
                refine e_Ok.ps3 (x := (0, 1)) (y := (0, z9)) (z := (0, 33060)) (q := 65) 3 rfl ?_
                refine e_Ok.sub' (z := z9 - 1) rfl rfl (by omega) ?_
                refine e_Ok.mul (z := 33060 * z9 - 33060) rfl (by omega) (by omega) ?_
                refine e_Ok.ps1 (x := (0, y3)) (q := 68) 1 rfl ?_
                refine e_Ok.add (z := 33060 * z9 + y3 - 33060) rfl (by omega) (by omega) ?_
                refine e_Ok.ald (z := (S (100 * z9) y3)) rfl rfl rfl (by omega) ((j12 278 (33060 * z9 + y3 - 33060) no_9v_7).trans (by rw [show 33060 * z9 + y3 - 33060 = 33060 * z9 - 33060 + y3 by omega]; exact hK.2.2.2.1 z9 y3 (by omega) (by omega) (by omega) (by omega))) (by omega) ?_
                refine e_Ok.ast rfl (el_o rfl) rfl rfl (by omega) ?_
                generalize hw46 : e_up v1 276 y3 ((S (100 * z9) y3)) = w46
                refine e_Ok.inc (z := y3 + 1) rfl rfl (by first | with_reducible rfl | omega) (by omega) ?_
                show e_Ok 20 elay ecode eI (d + 1) 436 (74, [(3, (0, y3 + 1)), (0, (1, 275)), (1, (0, p1)), (2, (0, z9))], [], w46) _
                refine e_Ok.ps0 (q := 33) 1 rfl ?_
                refine e_Ok.sub eAlk (e_sub_of rfl ?_) (ih11 (y3 + 1) w46 ⟨(show e_fr mBb w w46 from e_fr.up j12 hw46 (by first | exact Or.inl (Or.inl rfl) | (unfold mBb mTi mPm; omega))), by omega, (fun k g1 g2 => Decidable.byCases (p := k = y3) (fun e => by rw [e, ← hw46]; exact e_up_eq _ _ _ _) (fun e => Eq.trans (show w46 276 k = v1 276 k from by rw [← hw46]; exact e_up_ne _ _ (Or.inr e)) (j14 k g1 (by omega)))), (fun c k q => Eq.trans (show w46 c k = v1 c k from by rw [← hw46]; exact e_up_ne _ _ (by omega)) (j15 c k (by omega)))⟩ (by omega))
                exact ⟨rfl, rfl, rfl, rfl, trivial⟩
              · replace h45 : (z9 : Int) = 0 := Classical.not_not.mp (show ¬ ((z9 : Int) ≠ 0) from h45)
                have hS0 : S 0 y3 = S (100 * z9) y3 := by rw [show 100 * z9 = 0 by omega]
                rw [← hS0] at hSb
                refine e_Ok.run (t' := (49, [(0, (1, 275)), (1, (0, p1)), (2, (0, z9)), (3, (0, y3))], [(1, 275), (0, y3), (1, 276)], v1)) 1 rfl ?_
                refine e_Ok.getr (z := 277) rfl (el_o rfl) rfl (ef_o rfl) ((j12 275 1 no_9v_8).trans (e_Has.eq hI.1 rfl)) ⟨by decide, by decide⟩ ?_
                refine e_Ok.ps1 (x := (0, y3)) (q := 53) 1 rfl ?_
                refine e_Ok.ald (z := (S 0 y3)) rfl (el_o rfl) rfl (by omega) ((j12 277 y3 no_9v_9).trans (hK.2.2.1 y3 (by omega) (by omega))) (by omega) ?_
                refine e_Ok.ps0 (q := 70) 1 rfl ?_
                refine e_Ok.ast rfl (el_o rfl) rfl rfl (by omega) ?_
                generalize hw48 : e_up v1 276 y3 ((S 0 y3)) = w48
                refine e_Ok.inc (z := y3 + 1) rfl rfl (by first | with_reducible rfl | omega) (by omega) ?_
                show e_Ok 20 elay ecode eI (d + 1) 436 (74, [(3, (0, y3 + 1)), (0, (1, 275)), (1, (0, p1)), (2, (0, z9))], [], w48) _
                refine e_Ok.ps0 (q := 33) 1 rfl ?_
                refine e_Ok.sub eAlk (e_sub_of rfl ?_) (ih11 (y3 + 1) w48 ⟨(show e_fr mBb w w48 from e_fr.up j12 hw48 (by first | exact Or.inl (Or.inl rfl) | (unfold mBb mTi mPm; omega))), by omega, (fun k g1 g2 => Decidable.byCases (p := k = y3) (fun e => by rw [e, ← hw48]; exact (e_up_eq _ _ _ _).trans hS0) (fun e => Eq.trans (show w48 276 k = v1 276 k from by rw [← hw48]; exact e_up_ne _ _ (Or.inr e)) (j14 k g1 (by omega)))), (fun c k q => Eq.trans (show w48 c k = v1 c k from by rw [← hw48]; exact e_up_ne _ _ (by omega)) (j15 c k (by omega)))⟩ (by omega))
                exact ⟨rfl, rfl, rfl, rfl, trivial⟩
        refine e_Ok.sub eAlk (e_sub_of rfl ?_) (hL10 (33061 + 1 : Int).toNat 0 w ⟨e_fr.refl w, by omega, (fun k g1 g2 => by omega), (fun c k _ => rfl)⟩ (by omega))
        exact ⟨rfl, rfl, rfl, rfl, trivial⟩
      · replace h8 : (w 275 3 : Int) = 0 := Classical.not_not.mp (show ¬ ((w 275 3 : Int) ≠ 0) from h8)
        refine e_Ok.ps1 (x := (0, (-2))) (q := 25) 1 rfl ?_
        refine e_Ok.rets rfl rfl ?_
        exact ⟨_, rfl, Or.inl rfl⟩
    · replace h6 : (1 : Int) = 0 := Classical.not_not.mp (show ¬ ((1 : Int) ≠ 0) from h6)
      exfalso; omega
  · refine e_Ok.nrm (q := 11) (st' := [(0, 0)]) rfl rfl ?_
    refine e_Ok.if1 rfl (fun h50 => ?_) (fun h50 => ?_)
    · replace h50 : (0 : Int) ≠ 0 := h50
      exfalso; omega
    · replace h50 : (0 : Int) = 0 := Classical.not_not.mp (show ¬ ((0 : Int) ≠ 0) from h50)
      refine e_Ok.ps1 (x := (0, (-1))) (q := 15) 1 rfl ?_
      refine e_Ok.rets rfl rfl ?_
      exact ⟨_, rfl, Or.inl rfl⟩
end
end
-- part 9w
section
noncomputable section
/-! tokens -/
def kyc (i : Int) : Int := (e_key.getD i.toNat 0).toInt
/-- the keywords: where one begins, where the space behind it is, its number -/
def e_wst : List (Int × Int × Int) := [(0, 3, 0), (4, 6, 1), (7, 10, 2), (11, 15, 3), (16, 20, 4), (21, 26, 5), (27, 30, 6), (31, 35, 7), (36, 40, 8), (41, 45, 9), (46, 49, 10), (50, 55, 11), (56, 60, 12), (61, 65, 13), (66, 70, 14), (71, 76, 15), (77, 83, 16), (84, 89, 17), (90, 92, 18), (93, 97, 19), (98, 103, 20), (104, 107, 21), (108, 113, 22), (114, 121, 23), (122, 124, 24), (125, 128, 25), (129, 132, 26), (133, 139, 27), (140, 145, 28), (146, 150, 29), (151, 156, 30), (157, 162, 31), (163, 170, 32)]
theorem ws_all : e_wst.all (fun x => decide (0 ≤ x.1 ∧ x.1 + 2 ≤ x.2.1 ∧ x.2.1 ≤ 170 ∧ 0 ≤ x.2.2 ∧ x.2.2 ≤ 32 ∧ kyc x.2.1 = 32 ∧ (x.2.1 = 170 ∨ (x.2.2 + 1 ≤ 32 ∧ ∃ y ∈ e_wst, y.1 = x.2.1 + 1 ∧ y.2.2 = x.2.2 + 1))) && (List.range 171).all (fun i => decide (x.1 ≤ (i : Int) → (i : Int) < x.2.1 → kyc i ≠ 32))) = true := by decide +kernel
theorem ws_f {a b k : Int} (h : (a, b, k) ∈ e_wst) : (0 ≤ a ∧ a + 2 ≤ b ∧ b ≤ 170 ∧ 0 ≤ k ∧ k ≤ 32 ∧ kyc b = 32) ∧ (b = 170 ∨ (k + 1 ≤ 32 ∧ ∃ e, (b + 1, e, k + 1) ∈ e_wst)) ∧ (∀ i, a ≤ i → i < b → kyc i ≠ 32) := by
  have q := List.all_eq_true.mp ws_all _ h
  simp only [Bool.and_eq_true, decide_eq_true_eq] at q
  obtain ⟨⟨q1, q2, q3, q4, q5, q6, q7⟩, q8⟩ := q
  refine ⟨⟨q1, q2, q3, q4, q5, q6⟩, ?_, fun i g1 g2 => ?_⟩
  · rcases q7 with q7 | ⟨q7, y, y1, y2, y3⟩
    · exact Or.inl q7
    · exact Or.inr ⟨q7, y.2.1, by rw [← y2, ← y3]; exact y1⟩
  · have := List.all_eq_true.mp q8 i.toNat (List.mem_range.mpr (by omega))
    simp only [decide_eq_true_eq] at this
    rw [show ((i.toNat : Nat) : Int) = i by omega] at this
    exact this g1 g2
section E9w
variable {fd : Nat} {lay : List eY} {code : Nat → Nat → eE} {I : Nat → xM} {d M a b p nx : Nat} {l : eL} {r : List eV} {w : eW} {Q : List eV → eW → Prop}
theorem kyc_in (i : Int) : -2147483648 ≤ kyc i ∧ kyc i ≤ 2147483647 := ⟨Int32.le_toInt _, Int32.toInt_le _⟩
theorem e_Ok.sc {i : Int} (hi : 0 ≤ i ∧ i < 171) (hb : Nat.ble (e_cats r) 8 = true) (hc : code M p = (0, e_S (g_sc nx), a, b)) (h : e_Ok fd lay code I d M (nx, l, (0, kyc i) :: r, w) Q) : e_Ok fd lay code I d M (p, l, (0, i) :: (1, 357) :: r, w) Q := by
  refine e_Ok.step hc ?_ h
  have e : e_chr 357 i = some (kyc i) := by
    unfold e_chr
    rw [if_pos ⟨rfl, hi.1, hi.2⟩]
    rfl
  unfold e_S
  show ((bif Nat.ble (e_cats r) 8 then (e_chr 357 i).map (fun n => (nx, (0, n) :: r)) else none : Option (Nat × List eV))).map _ = _
  rw [hb, e]
  rfl
end E9w
def mTq (c k : Int) : Prop := c = 275 ∧ 84 ≤ k ∧ k ≤ 87
theorem su_9w_1 {c k : Int} (q : mTq c k) : mS c k := by
  unfold mTq at q
  rcases q with ⟨q, ⟨q, q⟩⟩
  · exact Or.inr (Or.inr ⟨(by omega), Or.inr (Or.inl ⟨(by omega), (by omega)⟩)⟩)
theorem mT_Tq {w w' : eW} (f : e_fr mTq w w') (h : e_Has mTy w) : e_Has mTy w' := mT_S (f.mono (fun c k q => su_9w_1 q)) h
theorem tk_none {c k : Int} (q : mTq c k) : hTy c k = (1, 0) := by
  obtain ⟨rfl, h⟩ := q
  obtain rfl | rfl | rfl | rfl : k = 84 ∨ k = 85 ∨ k = 86 ∨ k = 87 := by omega
  all_goals rfl
theorem hT_Tq {w w' : eW} (f : e_fr mTq w w') (h : e_Has hTy w) : e_Has hTy w' := h.fr (fun c k q => tk_none q) f
/-- the token: from ta to te, its kind and what it is -/
def tkV (N ta te ki wh : Int) : Prop := (0 ≤ ta ∧ ta ≤ te ∧ te ≤ N) ∧ (0 ≤ ki ∧ ki ≤ 5) ∧ (ki = 0 → ta = N) ∧ (ki ≠ 0 → ta < te) ∧ (ki = 4 → ta + 2 ≤ te ∧ 0 ≤ wh ∧ wh ≤ 32) ∧ -2147483648 ≤ wh ∧ wh ≤ 2147483647
def tkS (w : eW) (N : Int) : Prop := tkV N (w 275 86) (w 275 87) (w 275 84) (w 275 85)
theorem c_326 {d : Nat} {w : eW} (hT : e_Has mTy w) (hH : e_Has hTy w) {N : Int} (hN : w 275 9 = N) (hNr : 0 ≤ N ∧ N ≤ 4000) {i : Int} (hi : 0 ≤ i ∧ i ≤ 2147483647) : e_Ok 20 elay ecode eI d 326 (0, [(0, (1, 275)), (1, (0, i))], [], w) (fun r w' => ∃ z : Int, r = [(0, z)] ∧ w = w' ∧ ((i < N ∧ z = w 281 i ∧ -128 ≤ z ∧ z ≤ 127) ∨ (N ≤ i ∧ z = -1000))) := by
  refine e_Ok.ps2 (x := (1, 275)) (y := (0, i)) (q := 2) 2 rfl ?_
  refine e_Ok.getf (z := N) rfl (el_o rfl) rfl (ef_o rfl) hN (by omega) ?_
  refine e_Ok.if2 rfl (fun h1 => ?_) (fun h1 => ?_)
  · replace h1 : (i : Int) ≥ N := h1
    refine e_Ok.ps1 (x := (0, (-1000))) (q := 20) 1 rfl ?_
    refine e_Ok.rets rfl rfl ?_
    exact ⟨_, rfl, rfl, Or.inr ⟨by omega, rfl⟩⟩
  · replace h1 : (i : Int) < N := Int.not_le.mp (show ¬ ((i : Int) ≥ N) from h1)
    refine e_Ok.ps1 (x := (1, 275)) (q := 9) 1 rfl ?_
    refine e_Ok.getr (z := 281) rfl (el_o rfl) rfl (ef_o rfl) (e_Has.eq hT (mt_o rfl)) ⟨by decide, by decide⟩ ?_
    refine e_Ok.ps1 (x := (0, i)) (q := 13) 1 rfl ?_
    have h2 := (e_Has.get hH (c := 281) (k := i) (lo := (-128)) (hi := 127) rfl (by decide))
    refine e_Ok.ald (z := w 281 i) rfl (el_o rfl) rfl (by omega) rfl (e_bq h2 (by decide) (by decide)) ?_
    refine e_Ok.ps0 (q := 20) 1 rfl ?_
    refine e_Ok.rets rfl rfl ?_
    exact ⟨_, rfl, rfl, Or.inl ⟨by omega, rfl, by omega, by omega⟩⟩
theorem c_324_x {d : Nat} (hd : 21 ≤ d) {w : eW} {b : Int} : e_Ok 20 elay ecode eI d 324 (0, [(0, (0, b))], [], w) (fun r w' => ∃ z : Int, r = [(0, z)] ∧ w = w' ∧ ((z = 1 ∧ ((97 ≤ b ∧ b ≤ 122) ∨ (65 ≤ b ∧ b ≤ 90))) ∨ (z = 0 ∧ ((b < 97 ∨ 122 < b) ∧ (b < 65 ∨ 90 < b))))) := by
  obtain ⟨d, rfl⟩ : ∃ e, d = e + 1 := ⟨d - 1, by omega⟩
  refine e_Ok.ps3 (x := (4, 122)) (y := (4, 97)) (z := (4, b)) (q := 8) 4 rfl ?_
  refine e_Ok.callS rfl (e_dq hd rfl) rfl rfl (c_266) (fun r1 w2 h3 => ?_)
  obtain ⟨z4, rfl, rfl, q5⟩ := h3
  obtain ⟨rfl, q5⟩ | ⟨rfl, q5⟩ := q5
  · refine e_Ok.nrm (q := 11) (st' := [(0, 1)]) rfl rfl ?_
    refine e_Ok.if1 rfl (fun h6 => ?_) (fun h6 => ?_)
    · replace h6 : (1 : Int) ≠ 0 := h6
      refine e_Ok.ps1 (x := (0, 1)) (q := 33) 2 rfl ?_
      refine e_Ok.rets rfl rfl ?_
      exact ⟨_, rfl, rfl, Or.inl ⟨rfl, by omega⟩⟩
    · replace h6 : (1 : Int) = 0 := Classical.not_not.mp (show ¬ ((1 : Int) ≠ 0) from h6)
      exfalso; omega
  · refine e_Ok.nrm (q := 11) (st' := [(0, 0)]) rfl rfl ?_
    refine e_Ok.if1 rfl (fun h7 => ?_) (fun h7 => ?_)
    · replace h7 : (0 : Int) ≠ 0 := h7
      exfalso; omega
    · replace h7 : (0 : Int) = 0 := Classical.not_not.mp (show ¬ ((0 : Int) ≠ 0) from h7)
      refine e_Ok.ps3 (x := (4, 90)) (y := (4, 65)) (z := (4, b)) (q := 22) 4 rfl ?_
      refine e_Ok.callS rfl (e_dq hd rfl) rfl rfl (c_266) (fun r8 w9 h10 => ?_)
      obtain ⟨z11, rfl, rfl, q12⟩ := h10
      obtain ⟨rfl, q12⟩ | ⟨rfl, q12⟩ := q12
      · refine e_Ok.nrm (q := 25) (st' := [(0, 1)]) rfl rfl ?_
        refine e_Ok.if1 rfl (fun h13 => ?_) (fun h13 => ?_)
        · replace h13 : (1 : Int) = 0 := h13
          exfalso; omega
        · replace h13 : (1 : Int) ≠ 0 := (show ¬ ((1 : Int) = 0) from h13)
          refine e_Ok.ps1 (x := (0, 1)) (q := 33) 2 rfl ?_
          refine e_Ok.rets rfl rfl ?_
          exact ⟨_, rfl, rfl, Or.inl ⟨rfl, by omega⟩⟩
      · refine e_Ok.nrm (q := 25) (st' := [(0, 0)]) rfl rfl ?_
        refine e_Ok.if1 rfl (fun h14 => ?_) (fun h14 => ?_)
        · replace h14 : (0 : Int) = 0 := h14
          refine e_Ok.ps1 (x := (0, 0)) (q := 33) 1 rfl ?_
          refine e_Ok.rets rfl rfl ?_
          exact ⟨_, rfl, rfl, Or.inr ⟨rfl, by omega⟩⟩
        · replace h14 : (0 : Int) ≠ 0 := (show ¬ ((0 : Int) = 0) from h14)
          exfalso; omega
theorem c_325_x {d : Nat} (hd : 21 ≤ d) {w : eW} {b : Int} : e_Ok 20 elay ecode eI d 325 (0, [(0, (0, b))], [], w) (fun r w' => ∃ z : Int, r = [(0, z)] ∧ w = w' ∧ ((z = 1 ∧ (48 ≤ b ∧ b ≤ 57)) ∨ (z = 0 ∧ (b < 48 ∨ 57 < b)))) := by
  obtain ⟨d, rfl⟩ : ∃ e, d = e + 1 := ⟨d - 1, by omega⟩
  refine e_Ok.ps3 (x := (4, 57)) (y := (4, 48)) (z := (4, b)) (q := 8) 4 rfl ?_
  refine e_Ok.callS rfl (e_dq hd rfl) rfl rfl (c_266) (fun r1 w2 h3 => ?_)
  obtain ⟨z4, rfl, rfl, q5⟩ := h3
  obtain ⟨rfl, q5⟩ | ⟨rfl, q5⟩ := q5
  · refine e_Ok.nrm (q := 11) (st' := [(0, 1)]) rfl rfl ?_
    refine e_Ok.rets rfl rfl ?_
    exact ⟨_, rfl, rfl, Or.inl ⟨rfl, by omega⟩⟩
  · refine e_Ok.nrm (q := 11) (st' := [(0, 0)]) rfl rfl ?_
    refine e_Ok.rets rfl rfl ?_
    exact ⟨_, rfl, rfl, Or.inr ⟨rfl, by omega⟩⟩
theorem c_329 {d : Nat} (hd : 22 ≤ d) {w : eW} (hT : e_Has mTy w) (hH : e_Has hTy w) {N : Int} (hN : w 275 9 = N) (hNr : 0 ≤ N ∧ N ≤ 4000) {t : Int} (ht : w 275 86 = t) (htr : 0 ≤ t ∧ t < N) (hb : 48 ≤ w 281 t ∧ w 281 t ≤ 57) : e_Ok 20 elay ecode eI d 329 (0, [(0, (1, 275))], [], w) (fun r w' => r = [] ∧ e_fr mTq w w' ∧ tkS w' N ∧ t ≤ w' 275 86) := by
  obtain ⟨d, rfl⟩ : ∃ e, d = e + 1 := ⟨d - 1, by omega⟩
  refine e_Ok.run (t' := (3, [(1, (4, 0)), (0, (1, 275))], [(1, 275)], w)) 3 rfl ?_
  refine e_Ok.getf (z := t) rfl (el_o rfl) rfl (ef_o rfl) ht (by omega) ?_
  refine e_Ok.run (t' := (7, [(3, (0, t)), (1, (4, 0)), (0, (1, 275))], [], w)) 1 rfl ?_
  have hL1 : ∀ (nn : Nat) (y1 : Int) (y3 : Int), (t ≤ y3 ∧ y3 ≤ N) ∧ ((t < y3 ∨ (y3 = t ∧ w 281 y3 = w 281 t))) → 4001 - y3 < nn → e_Ok 20 elay ecode eI (d + 1) 329 (7, [(0, (1, 275)), (1, (4, y1)), (3, (0, y3))], [], w) (fun r w' => r = [] ∧ e_fr mTq w w' ∧ tkS w' N ∧ t ≤ w' 275 86) := by
    intro nn
    induction nn with
    | zero => intro y1 y3 hj hm; obtain ⟨j3, j4⟩ := hj; exfalso; omega
    | succ nn ih2 =>
      intro y1 y3 hj hm
      obtain ⟨j3, j4⟩ := hj
      refine e_Ok.run (t' := (9, [(0, (1, 275)), (1, (4, y1)), (3, (0, y3))], [(0, y3), (1, 275)], w)) 2 rfl ?_
      refine e_Ok.callV rfl (e_dq hd rfl) rfl rfl rfl rfl (c_326 hT hH hN hNr (by omega)) (fun r5 w6 h7 => ?_)
      obtain ⟨z8, rfl, rfl, q9⟩ := h7
      refine e_Ok.nrm (q := 12) (st' := [(0, z8)]) rfl rfl ?_
      refine e_Ok.callS rfl (e_dq hd rfl) rfl rfl (c_325_x (e_dq hd rfl)) (fun r10 w11 h12 => ?_)
      obtain ⟨z13, rfl, rfl, q14⟩ := h12
      obtain ⟨rfl, q14⟩ | ⟨rfl, q14⟩ := q14
      · refine e_Ok.nrm (q := 15) (st' := [(0, 1)]) rfl rfl ?_
        refine e_Ok.if1 rfl (fun h15 => ?_) (fun h15 => ?_)
        · replace h15 : (1 : Int) = 0 := h15
          exfalso; omega
        · replace h15 : (1 : Int) ≠ 0 := (show ¬ ((1 : Int) = 0) from h15)
          refine e_Ok.ps2 (x := (4, 2147483647)) (y := (4, y1)) (q := 22) 2 rfl ?_
          refine e_Ok.lcmp rfl (fun z16 z16a z16b z16c => ?_)
          refine e_Ok.if1 rfl (fun h17 => ?_) (fun h17 => ?_)
          · replace h17 : (z16 : Int) ≤ 0 := h17
            refine e_Ok.ps2 (x := (4, y1)) (y := (4, 10)) (q := 34) 2 rfl ?_
            refine e_Ok.anyL rfl ⟨_, rfl⟩ (fun x18 => ?_)
            refine e_Ok.ps2 (x := (0, y3)) (y := (1, 275)) (q := 37) 2 rfl ?_
            refine e_Ok.callV rfl (e_dq hd rfl) rfl rfl rfl rfl (c_326 hT hH hN hNr (by omega)) (fun r19 w20 h21 => ?_)
            obtain ⟨z22, rfl, rfl, q23⟩ := h21
            refine e_Ok.nrm (q := 40) (st' := [(0, z22), (4, x18)]) rfl rfl ?_
            refine e_Ok.run (t' := (41, [(0, (1, 275)), (1, (4, y1)), (3, (0, y3))], [(4, z22), (4, x18)], w)) 1 rfl ?_
            refine e_Ok.anyL rfl ⟨_, rfl⟩ (fun x24 => ?_)
            refine e_Ok.ps1 (x := (4, 48)) (q := 45) 1 rfl ?_
            refine e_Ok.anyL rfl ⟨_, rfl⟩ (fun x25 => ?_)
            refine e_Ok.run (t' := (47, [(1, (4, x25)), (0, (1, 275)), (3, (0, y3))], [], w)) 1 rfl ?_
            refine e_Ok.inc (z := y3 + 1) rfl rfl (by first | with_reducible rfl | omega) (by omega) ?_
            show e_Ok 20 elay ecode eI (d + 1) 329 (50, [(3, (0, y3 + 1)), (1, (4, x25)), (0, (1, 275))], [], w) _
            refine e_Ok.ps0 (q := 7) 1 rfl ?_
            refine e_Ok.sub eAlk (e_sub_of rfl ?_) (ih2 x25 (y3 + 1) ⟨by omega, (Or.inl (by omega))⟩ (by omega))
            exact ⟨rfl, rfl, rfl, trivial⟩
          · replace h17 : (z16 : Int) > 0 := Int.not_le.mp (show ¬ ((z16 : Int) ≤ 0) from h17)
            refine e_Ok.run (t' := (47, [(1, (4, y1)), (0, (1, 275)), (3, (0, y3))], [], w)) 3 rfl ?_
            refine e_Ok.inc (z := y3 + 1) rfl rfl (by first | with_reducible rfl | omega) (by omega) ?_
            show e_Ok 20 elay ecode eI (d + 1) 329 (50, [(3, (0, y3 + 1)), (1, (4, y1)), (0, (1, 275))], [], w) _
            refine e_Ok.ps0 (q := 7) 1 rfl ?_
            refine e_Ok.sub eAlk (e_sub_of rfl ?_) (ih2 y1 (y3 + 1) ⟨by omega, (Or.inl (by omega))⟩ (by omega))
            exact ⟨rfl, rfl, rfl, trivial⟩
      · refine e_Ok.nrm (q := 15) (st' := [(0, 0)]) rfl rfl ?_
        refine e_Ok.if1 rfl (fun h26 => ?_) (fun h26 => ?_)
        · replace h26 : (0 : Int) = 0 := h26
          refine e_Ok.ps2 (x := (0, y3)) (y := (1, 275)) (q := 55) 2 rfl ?_
          refine e_Ok.putf rfl (el_o rfl) rfl (ef_o rfl) ?_
          generalize hw27 : e_up w 275 87 y3 = w27
          have f28 : e_fr mTq w w27 := e_fr.up (e_fr.refl w) hw27 (by first | exact ⟨rfl, ⟨(by decide), (by decide)⟩⟩ | (unfold mTq; omega))
          refine e_Ok.ps3 (x := (4, 2147483647)) (y := (4, y1)) (z := (1, 275)) (q := 63) 3 rfl ?_
          refine e_Ok.lcmp rfl (fun z29 z29a z29b z29c => ?_)
          refine e_Ok.if1 rfl (fun h30 => ?_) (fun h30 => ?_)
          · replace h30 : (z29 : Int) ≤ 0 := h30
            refine e_Ok.ps1 (x := (0, 2)) (q := 72) 1 rfl ?_
            refine e_Ok.putf rfl (el_o rfl) rfl (ef_o rfl) ?_
            generalize hw31 : e_up w27 275 84 2 = w31
            refine e_Ok.ps2 (x := (4, y1)) (y := (1, 275)) (q := 77) 2 rfl ?_
            refine e_Ok.l2i rfl (fun z33 z33a z33b => ?_)
            refine e_Ok.putf rfl (el_o rfl) rfl (ef_o rfl) ?_
            generalize hw34 : e_up w31 275 85 z33 = w34
            refine e_Ok.rets rfl rfl ?_
            have et86 : w34 275 86 = t := (e_uq hw34 (Or.inr (by decide)) (e_uq hw31 (Or.inr (by decide)) (e_uq hw27 (Or.inr (by decide)) ht)))
            have et87 : w34 275 87 = y3 := (e_uq hw34 (Or.inr (by decide)) (e_uq hw31 (Or.inr (by decide)) (e_ue hw27)))
            have et84 : w34 275 84 = 2 := (e_uq hw34 (Or.inr (by decide)) (e_ue hw31))
            have et85 : w34 275 85 = z33 := (e_ue hw34)
            exact ⟨rfl, (show e_fr mTq w w34 from e_fr.up (show e_fr mTq w w31 from e_fr.up f28 hw31 (by first | exact ⟨rfl, ⟨(by decide), (by decide)⟩⟩ | (unfold mTq; omega))) hw34 (by first | exact ⟨rfl, ⟨(by decide), (by decide)⟩⟩ | (unfold mTq; omega))), by unfold tkS tkV; rw [et86, et87, et84, et85]; omega, by omega⟩
          · replace h30 : (z29 : Int) > 0 := Int.not_le.mp (show ¬ ((z29 : Int) ≤ 0) from h30)
            refine e_Ok.ps1 (x := (0, 5)) (q := 72) 2 rfl ?_
            refine e_Ok.putf rfl (el_o rfl) rfl (ef_o rfl) ?_
            generalize hw36 : e_up w27 275 84 5 = w36
            refine e_Ok.ps2 (x := (4, y1)) (y := (1, 275)) (q := 77) 2 rfl ?_
            refine e_Ok.l2i rfl (fun z38 z38a z38b => ?_)
            refine e_Ok.putf rfl (el_o rfl) rfl (ef_o rfl) ?_
            generalize hw40 : e_up w36 275 85 z38 = w40
            refine e_Ok.rets rfl rfl ?_
            have et86 : w40 275 86 = t := (e_uq hw40 (Or.inr (by decide)) (e_uq hw36 (Or.inr (by decide)) (e_uq hw27 (Or.inr (by decide)) ht)))
            have et87 : w40 275 87 = y3 := (e_uq hw40 (Or.inr (by decide)) (e_uq hw36 (Or.inr (by decide)) (e_ue hw27)))
            have et84 : w40 275 84 = 5 := (e_uq hw40 (Or.inr (by decide)) (e_ue hw36))
            have et85 : w40 275 85 = z38 := (e_ue hw40)
            exact ⟨rfl, (show e_fr mTq w w40 from e_fr.up (show e_fr mTq w w36 from e_fr.up f28 hw36 (by first | exact ⟨rfl, ⟨(by decide), (by decide)⟩⟩ | (unfold mTq; omega))) hw40 (by first | exact ⟨rfl, ⟨(by decide), (by decide)⟩⟩ | (unfold mTq; omega))), by unfold tkS tkV; rw [et86, et87, et84, et85]; omega, by omega⟩
        · replace h26 : (0 : Int) ≠ 0 := (show ¬ ((0 : Int) = 0) from h26)
          exfalso; omega
  refine e_Ok.sub eAlk (e_sub_of rfl ?_) (hL1 (4001 + 1 : Int).toNat 0 t ⟨by omega, (Or.inr ⟨rfl, rfl⟩)⟩ (by omega))
  exact ⟨rfl, rfl, rfl, trivial⟩
theorem c_330 {d : Nat} (hd : 22 ≤ d) {w : eW} (hT : e_Has mTy w) (hH : e_Has hTy w) {N : Int} (hN : w 275 9 = N) (hNr : 0 ≤ N ∧ N ≤ 4000) {t b : Int} (ht : w 275 86 = t) (he : w 275 87 = t + 1) (htr : 0 ≤ t ∧ t < N) (hb : -1000 ≤ b ∧ b ≤ 127) : e_Ok 20 elay ecode eI d 330 (0, [(0, (1, 275)), (1, (0, b))], [], w) (fun r w' => r = [] ∧ e_fr mTq w w' ∧ tkS w' N ∧ t ≤ w' 275 86) := by
  obtain ⟨d, rfl⟩ : ∃ e, d = e + 1 := ⟨d - 1, by omega⟩
  refine e_Ok.ps2 (x := (0, 3)) (y := (1, 275)) (q := 2) 2 rfl ?_
  refine e_Ok.putf rfl (el_o rfl) rfl (ef_o rfl) ?_
  generalize hw1 : e_up w 275 84 3 = w1
  refine e_Ok.ps2 (x := (0, b)) (y := (1, 275)) (q := 7) 2 rfl ?_
  refine e_Ok.putf rfl (el_o rfl) rfl (ef_o rfl) ?_
  generalize hw3 : e_up w1 275 85 b = w3
  have f4 : e_fr mTq w w3 := e_fr.up (show e_fr mTq w w1 from e_fr.up (e_fr.refl w) hw1 (by first | exact ⟨rfl, ⟨(by decide), (by decide)⟩⟩ | (unfold mTq; omega))) hw3 (by first | exact ⟨rfl, ⟨(by decide), (by decide)⟩⟩ | (unfold mTq; omega))
  refine e_Ok.ps2 (x := (1, 275)) (y := (1, 275)) (q := 12) 2 rfl ?_
  refine e_Ok.getf (z := t) rfl (el_o rfl) rfl (ef_o rfl) (e_uq hw3 (Or.inr (by decide)) (e_uq hw1 (Or.inr (by decide)) ht)) (by omega) ?_
  refine e_Ok.ps1 (x := (0, 1)) (q := 16) 1 rfl ?_
  refine e_Ok.add (z := t + 1) rfl rfl (by omega) ?_
  refine e_Ok.callV rfl (e_dq hd rfl) rfl rfl rfl rfl (c_326 (mT_Tq f4 hT) (hT_Tq f4 hH) ((e_uq hw3 (Or.inr (by first | decide | omega)) (e_uq hw1 (Or.inr (by first | decide | omega)) hN))) hNr (by omega)) (fun r5 w6 h7 => ?_)
  obtain ⟨z8, rfl, rfl, q9⟩ := h7
  refine e_Ok.nrm (q := 20) (st' := [(0, z8)]) rfl rfl ?_
  refine e_Ok.ps1 (x := (0, 61)) (q := 22) 1 rfl ?_
  refine e_Ok.if2 rfl (fun h10 => ?_) (fun h10 => ?_)
  · replace h10 : (z8 : Int) ≠ 61 := h10
    refine e_Ok.run (t' := (34, [(2, (0, 0)), (0, (1, 275)), (1, (0, b))], [(0, 33), (0, b)], w3)) 4 rfl ?_
    refine e_Ok.if2 rfl (fun h11 => ?_) (fun h11 => ?_)
    · replace h11 : (b : Int) = 33 := h11
      refine e_Ok.ps1 (x := (0, 0)) (q := 50) 1 rfl ?_
      refine e_Ok.if1 rfl (fun h12 => ?_) (fun h12 => ?_)
      · replace h12 : (0 : Int) = 0 := h12
        refine e_Ok.ps2 (x := (0, 43)) (y := (0, b)) (q := 97) 2 rfl ?_
        refine e_Ok.if2 rfl (fun h13 => ?_) (fun h13 => ?_)
        · replace h13 : (b : Int) = 43 := h13
          exfalso; omega
        · replace h13 : (b : Int) ≠ 43 := (show ¬ ((b : Int) = 43) from h13)
          refine e_Ok.ps2 (x := (0, 45)) (y := (0, b)) (q := 103) 2 rfl ?_
          refine e_Ok.if2 rfl (fun h14 => ?_) (fun h14 => ?_)
          · replace h14 : (b : Int) = 45 := h14
            exfalso; omega
          · replace h14 : (b : Int) ≠ 45 := (show ¬ ((b : Int) = 45) from h14)
            refine e_Ok.ps2 (x := (0, 42)) (y := (0, b)) (q := 109) 2 rfl ?_
            refine e_Ok.if2 rfl (fun h15 => ?_) (fun h15 => ?_)
            · replace h15 : (b : Int) = 42 := h15
              exfalso; omega
            · replace h15 : (b : Int) ≠ 42 := (show ¬ ((b : Int) = 42) from h15)
              refine e_Ok.ps2 (x := (0, 47)) (y := (0, b)) (q := 115) 2 rfl ?_
              refine e_Ok.if2 rfl (fun h16 => ?_) (fun h16 => ?_)
              · replace h16 : (b : Int) = 47 := h16
                exfalso; omega
              · replace h16 : (b : Int) ≠ 47 := (show ¬ ((b : Int) = 47) from h16)
                refine e_Ok.ps2 (x := (0, 37)) (y := (0, b)) (q := 121) 2 rfl ?_
                refine e_Ok.if2 rfl (fun h17 => ?_) (fun h17 => ?_)
                · replace h17 : (b : Int) = 37 := h17
                  exfalso; omega
                · replace h17 : (b : Int) ≠ 37 := (show ¬ ((b : Int) = 37) from h17)
                  refine e_Ok.ps2 (x := (0, 61)) (y := (0, b)) (q := 127) 2 rfl ?_
                  refine e_Ok.if2 rfl (fun h18 => ?_) (fun h18 => ?_)
                  · replace h18 : (b : Int) = 61 := h18
                    exfalso; omega
                  · replace h18 : (b : Int) ≠ 61 := (show ¬ ((b : Int) = 61) from h18)
                    refine e_Ok.ps2 (x := (0, 60)) (y := (0, b)) (q := 133) 2 rfl ?_
                    refine e_Ok.if2 rfl (fun h19 => ?_) (fun h19 => ?_)
                    · replace h19 : (b : Int) = 60 := h19
                      exfalso; omega
                    · replace h19 : (b : Int) ≠ 60 := (show ¬ ((b : Int) = 60) from h19)
                      refine e_Ok.ps2 (x := (0, 62)) (y := (0, b)) (q := 139) 2 rfl ?_
                      refine e_Ok.if2 rfl (fun h20 => ?_) (fun h20 => ?_)
                      · replace h20 : (b : Int) = 62 := h20
                        exfalso; omega
                      · replace h20 : (b : Int) ≠ 62 := (show ¬ ((b : Int) = 62) from h20)
                        refine e_Ok.ps2 (x := (0, 40)) (y := (0, b)) (q := 145) 2 rfl ?_
                        refine e_Ok.if2 rfl (fun h21 => ?_) (fun h21 => ?_)
                        · replace h21 : (b : Int) = 40 := h21
                          exfalso; omega
                        · replace h21 : (b : Int) ≠ 40 := (show ¬ ((b : Int) = 40) from h21)
                          refine e_Ok.ps2 (x := (0, 41)) (y := (0, b)) (q := 151) 2 rfl ?_
                          refine e_Ok.if2 rfl (fun h22 => ?_) (fun h22 => ?_)
                          · replace h22 : (b : Int) = 41 := h22
                            exfalso; omega
                          · replace h22 : (b : Int) ≠ 41 := (show ¬ ((b : Int) = 41) from h22)
                            refine e_Ok.ps2 (x := (0, 44)) (y := (0, b)) (q := 157) 2 rfl ?_
                            refine e_Ok.if2 rfl (fun h23 => ?_) (fun h23 => ?_)
                            · replace h23 : (b : Int) = 44 := h23
                              exfalso; omega
                            · replace h23 : (b : Int) ≠ 44 := (show ¬ ((b : Int) = 44) from h23)
                              refine e_Ok.ps2 (x := (0, 59)) (y := (0, b)) (q := 163) 2 rfl ?_
                              refine e_Ok.if2 rfl (fun h24 => ?_) (fun h24 => ?_)
                              · replace h24 : (b : Int) = 59 := h24
                                exfalso; omega
                              · replace h24 : (b : Int) ≠ 59 := (show ¬ ((b : Int) = 59) from h24)
                                refine e_Ok.ps2 (x := (0, 58)) (y := (0, b)) (q := 169) 2 rfl ?_
                                refine e_Ok.if2 rfl (fun h25 => ?_) (fun h25 => ?_)
                                · replace h25 : (b : Int) = 58 := h25
                                  exfalso; omega
                                · replace h25 : (b : Int) ≠ 58 := (show ¬ ((b : Int) = 58) from h25)
                                  refine e_Ok.ps2 (x := (0, 5)) (y := (1, 275)) (q := 174) 2 rfl ?_
                                  refine e_Ok.putf rfl (el_o rfl) rfl (ef_o rfl) ?_
                                  generalize hw26 : e_up w3 275 84 5 = w26
                                  refine e_Ok.rets rfl rfl ?_
                                  have et86 : w26 275 86 = t := (e_uq hw26 (Or.inr (by decide)) (e_uq hw3 (Or.inr (by decide)) (e_uq hw1 (Or.inr (by decide)) ht)))
                                  have et87 : w26 275 87 = t + 1 := (e_uq hw26 (Or.inr (by decide)) (e_uq hw3 (Or.inr (by decide)) (e_uq hw1 (Or.inr (by decide)) he)))
                                  have et84 : w26 275 84 = 5 := (e_ue hw26)
                                  have et85 : w26 275 85 = b := (e_uq hw26 (Or.inr (by decide)) (e_ue hw3))
                                  exact ⟨rfl, (show e_fr mTq w w26 from e_fr.up f4 hw26 (by first | exact ⟨rfl, ⟨(by decide), (by decide)⟩⟩ | (unfold mTq; omega))), by unfold tkS tkV; rw [et86, et87, et84, et85]; omega, by omega⟩
      · replace h12 : (0 : Int) ≠ 0 := (show ¬ ((0 : Int) = 0) from h12)
        exfalso; omega
    · replace h11 : (b : Int) ≠ 33 := (show ¬ ((b : Int) = 33) from h11)
      refine e_Ok.ps2 (x := (0, 60)) (y := (0, b)) (q := 40) 2 rfl ?_
      refine e_Ok.if2 rfl (fun h28 => ?_) (fun h28 => ?_)
      · replace h28 : (b : Int) = 60 := h28
        refine e_Ok.ps1 (x := (0, 0)) (q := 50) 1 rfl ?_
        refine e_Ok.if1 rfl (fun h29 => ?_) (fun h29 => ?_)
        · replace h29 : (0 : Int) = 0 := h29
          refine e_Ok.ps2 (x := (0, 43)) (y := (0, b)) (q := 97) 2 rfl ?_
          refine e_Ok.if2 rfl (fun h30 => ?_) (fun h30 => ?_)
          · replace h30 : (b : Int) = 43 := h30
            exfalso; omega
          · replace h30 : (b : Int) ≠ 43 := (show ¬ ((b : Int) = 43) from h30)
            refine e_Ok.ps2 (x := (0, 45)) (y := (0, b)) (q := 103) 2 rfl ?_
            refine e_Ok.if2 rfl (fun h31 => ?_) (fun h31 => ?_)
            · replace h31 : (b : Int) = 45 := h31
              exfalso; omega
            · replace h31 : (b : Int) ≠ 45 := (show ¬ ((b : Int) = 45) from h31)
              refine e_Ok.ps2 (x := (0, 42)) (y := (0, b)) (q := 109) 2 rfl ?_
              refine e_Ok.if2 rfl (fun h32 => ?_) (fun h32 => ?_)
              · replace h32 : (b : Int) = 42 := h32
                exfalso; omega
              · replace h32 : (b : Int) ≠ 42 := (show ¬ ((b : Int) = 42) from h32)
                refine e_Ok.ps2 (x := (0, 47)) (y := (0, b)) (q := 115) 2 rfl ?_
                refine e_Ok.if2 rfl (fun h33 => ?_) (fun h33 => ?_)
                · replace h33 : (b : Int) = 47 := h33
                  exfalso; omega
                · replace h33 : (b : Int) ≠ 47 := (show ¬ ((b : Int) = 47) from h33)
                  refine e_Ok.ps2 (x := (0, 37)) (y := (0, b)) (q := 121) 2 rfl ?_
                  refine e_Ok.if2 rfl (fun h34 => ?_) (fun h34 => ?_)
                  · replace h34 : (b : Int) = 37 := h34
                    exfalso; omega
                  · replace h34 : (b : Int) ≠ 37 := (show ¬ ((b : Int) = 37) from h34)
                    refine e_Ok.ps2 (x := (0, 61)) (y := (0, b)) (q := 127) 2 rfl ?_
                    refine e_Ok.if2 rfl (fun h35 => ?_) (fun h35 => ?_)
                    · replace h35 : (b : Int) = 61 := h35
                      exfalso; omega
                    · replace h35 : (b : Int) ≠ 61 := (show ¬ ((b : Int) = 61) from h35)
                      refine e_Ok.ps2 (x := (0, 60)) (y := (0, b)) (q := 133) 2 rfl ?_
                      refine e_Ok.if2 rfl (fun h36 => ?_) (fun h36 => ?_)
                      · replace h36 : (b : Int) = 60 := h36
                        refine e_Ok.rets rfl rfl ?_
                        have et86 : w3 275 86 = t := (e_uq hw3 (Or.inr (by decide)) (e_uq hw1 (Or.inr (by decide)) ht))
                        have et87 : w3 275 87 = t + 1 := (e_uq hw3 (Or.inr (by decide)) (e_uq hw1 (Or.inr (by decide)) he))
                        have et84 : w3 275 84 = 3 := (e_uq hw3 (Or.inr (by decide)) (e_ue hw1))
                        have et85 : w3 275 85 = b := (e_ue hw3)
                        exact ⟨rfl, f4, by unfold tkS tkV; rw [et86, et87, et84, et85]; omega, by omega⟩
                      · replace h36 : (b : Int) ≠ 60 := (show ¬ ((b : Int) = 60) from h36)
                        exfalso; omega
        · replace h29 : (0 : Int) ≠ 0 := (show ¬ ((0 : Int) = 0) from h29)
          exfalso; omega
      · replace h28 : (b : Int) ≠ 60 := (show ¬ ((b : Int) = 60) from h28)
        refine e_Ok.ps2 (x := (0, 62)) (y := (0, b)) (q := 46) 2 rfl ?_
        refine e_Ok.if2 rfl (fun h37 => ?_) (fun h37 => ?_)
        · replace h37 : (b : Int) ≠ 62 := h37
          refine e_Ok.ps2 (x := (0, 43)) (y := (0, b)) (q := 97) 2 rfl ?_
          refine e_Ok.if2 rfl (fun h38 => ?_) (fun h38 => ?_)
          · replace h38 : (b : Int) = 43 := h38
            refine e_Ok.rets rfl rfl ?_
            have et86 : w3 275 86 = t := (e_uq hw3 (Or.inr (by decide)) (e_uq hw1 (Or.inr (by decide)) ht))
            have et87 : w3 275 87 = t + 1 := (e_uq hw3 (Or.inr (by decide)) (e_uq hw1 (Or.inr (by decide)) he))
            have et84 : w3 275 84 = 3 := (e_uq hw3 (Or.inr (by decide)) (e_ue hw1))
            have et85 : w3 275 85 = b := (e_ue hw3)
            exact ⟨rfl, f4, by unfold tkS tkV; rw [et86, et87, et84, et85]; omega, by omega⟩
          · replace h38 : (b : Int) ≠ 43 := (show ¬ ((b : Int) = 43) from h38)
            refine e_Ok.ps2 (x := (0, 45)) (y := (0, b)) (q := 103) 2 rfl ?_
            refine e_Ok.if2 rfl (fun h40 => ?_) (fun h40 => ?_)
            · replace h40 : (b : Int) = 45 := h40
              refine e_Ok.rets rfl rfl ?_
              have et86 : w3 275 86 = t := (e_uq hw3 (Or.inr (by decide)) (e_uq hw1 (Or.inr (by decide)) ht))
              have et87 : w3 275 87 = t + 1 := (e_uq hw3 (Or.inr (by decide)) (e_uq hw1 (Or.inr (by decide)) he))
              have et84 : w3 275 84 = 3 := (e_uq hw3 (Or.inr (by decide)) (e_ue hw1))
              have et85 : w3 275 85 = b := (e_ue hw3)
              exact ⟨rfl, f4, by unfold tkS tkV; rw [et86, et87, et84, et85]; omega, by omega⟩
            · replace h40 : (b : Int) ≠ 45 := (show ¬ ((b : Int) = 45) from h40)
              refine e_Ok.ps2 (x := (0, 42)) (y := (0, b)) (q := 109) 2 rfl ?_
              refine e_Ok.if2 rfl (fun h41 => ?_) (fun h41 => ?_)
              · replace h41 : (b : Int) = 42 := h41
                refine e_Ok.rets rfl rfl ?_
                have et86 : w3 275 86 = t := (e_uq hw3 (Or.inr (by decide)) (e_uq hw1 (Or.inr (by decide)) ht))
                have et87 : w3 275 87 = t + 1 := (e_uq hw3 (Or.inr (by decide)) (e_uq hw1 (Or.inr (by decide)) he))
                have et84 : w3 275 84 = 3 := (e_uq hw3 (Or.inr (by decide)) (e_ue hw1))
                have et85 : w3 275 85 = b := (e_ue hw3)
                exact ⟨rfl, f4, by unfold tkS tkV; rw [et86, et87, et84, et85]; omega, by omega⟩
              · replace h41 : (b : Int) ≠ 42 := (show ¬ ((b : Int) = 42) from h41)
                refine e_Ok.ps2 (x := (0, 47)) (y := (0, b)) (q := 115) 2 rfl ?_
                refine e_Ok.if2 rfl (fun h42 => ?_) (fun h42 => ?_)
                · replace h42 : (b : Int) = 47 := h42
                  refine e_Ok.rets rfl rfl ?_
                  have et86 : w3 275 86 = t := (e_uq hw3 (Or.inr (by decide)) (e_uq hw1 (Or.inr (by decide)) ht))
                  have et87 : w3 275 87 = t + 1 := (e_uq hw3 (Or.inr (by decide)) (e_uq hw1 (Or.inr (by decide)) he))
                  have et84 : w3 275 84 = 3 := (e_uq hw3 (Or.inr (by decide)) (e_ue hw1))
                  have et85 : w3 275 85 = b := (e_ue hw3)
                  exact ⟨rfl, f4, by unfold tkS tkV; rw [et86, et87, et84, et85]; omega, by omega⟩
                · replace h42 : (b : Int) ≠ 47 := (show ¬ ((b : Int) = 47) from h42)
                  refine e_Ok.ps2 (x := (0, 37)) (y := (0, b)) (q := 121) 2 rfl ?_
                  refine e_Ok.if2 rfl (fun h43 => ?_) (fun h43 => ?_)
                  · replace h43 : (b : Int) = 37 := h43
                    refine e_Ok.rets rfl rfl ?_
                    have et86 : w3 275 86 = t := (e_uq hw3 (Or.inr (by decide)) (e_uq hw1 (Or.inr (by decide)) ht))
                    have et87 : w3 275 87 = t + 1 := (e_uq hw3 (Or.inr (by decide)) (e_uq hw1 (Or.inr (by decide)) he))
                    have et84 : w3 275 84 = 3 := (e_uq hw3 (Or.inr (by decide)) (e_ue hw1))
                    have et85 : w3 275 85 = b := (e_ue hw3)
                    exact ⟨rfl, f4, by unfold tkS tkV; rw [et86, et87, et84, et85]; omega, by omega⟩
                  · replace h43 : (b : Int) ≠ 37 := (show ¬ ((b : Int) = 37) from h43)
                    refine e_Ok.ps2 (x := (0, 61)) (y := (0, b)) (q := 127) 2 rfl ?_
                    refine e_Ok.if2 rfl (fun h44 => ?_) (fun h44 => ?_)
                    · replace h44 : (b : Int) = 61 := h44
                      refine e_Ok.rets rfl rfl ?_
                      have et86 : w3 275 86 = t := (e_uq hw3 (Or.inr (by decide)) (e_uq hw1 (Or.inr (by decide)) ht))
                      have et87 : w3 275 87 = t + 1 := (e_uq hw3 (Or.inr (by decide)) (e_uq hw1 (Or.inr (by decide)) he))
                      have et84 : w3 275 84 = 3 := (e_uq hw3 (Or.inr (by decide)) (e_ue hw1))
                      have et85 : w3 275 85 = b := (e_ue hw3)
                      exact ⟨rfl, f4, by unfold tkS tkV; rw [et86, et87, et84, et85]; omega, by omega⟩
                    · replace h44 : (b : Int) ≠ 61 := (show ¬ ((b : Int) = 61) from h44)
                      refine e_Ok.ps2 (x := (0, 60)) (y := (0, b)) (q := 133) 2 rfl ?_
                      refine e_Ok.if2 rfl (fun h45 => ?_) (fun h45 => ?_)
                      · replace h45 : (b : Int) = 60 := h45
                        refine e_Ok.rets rfl rfl ?_
                        have et86 : w3 275 86 = t := (e_uq hw3 (Or.inr (by decide)) (e_uq hw1 (Or.inr (by decide)) ht))
                        have et87 : w3 275 87 = t + 1 := (e_uq hw3 (Or.inr (by decide)) (e_uq hw1 (Or.inr (by decide)) he))
                        have et84 : w3 275 84 = 3 := (e_uq hw3 (Or.inr (by decide)) (e_ue hw1))
                        have et85 : w3 275 85 = b := (e_ue hw3)
                        exact ⟨rfl, f4, by unfold tkS tkV; rw [et86, et87, et84, et85]; omega, by omega⟩
                      · replace h45 : (b : Int) ≠ 60 := (show ¬ ((b : Int) = 60) from h45)
                        refine e_Ok.ps2 (x := (0, 62)) (y := (0, b)) (q := 139) 2 rfl ?_
                        refine e_Ok.if2 rfl (fun h46 => ?_) (fun h46 => ?_)
                        · replace h46 : (b : Int) = 62 := h46
                          refine e_Ok.rets rfl rfl ?_
                          have et86 : w3 275 86 = t := (e_uq hw3 (Or.inr (by decide)) (e_uq hw1 (Or.inr (by decide)) ht))
                          have et87 : w3 275 87 = t + 1 := (e_uq hw3 (Or.inr (by decide)) (e_uq hw1 (Or.inr (by decide)) he))
                          have et84 : w3 275 84 = 3 := (e_uq hw3 (Or.inr (by decide)) (e_ue hw1))
                          have et85 : w3 275 85 = b := (e_ue hw3)
                          exact ⟨rfl, f4, by unfold tkS tkV; rw [et86, et87, et84, et85]; omega, by omega⟩
                        · replace h46 : (b : Int) ≠ 62 := (show ¬ ((b : Int) = 62) from h46)
                          refine e_Ok.ps2 (x := (0, 40)) (y := (0, b)) (q := 145) 2 rfl ?_
                          refine e_Ok.if2 rfl (fun h47 => ?_) (fun h47 => ?_)
                          · replace h47 : (b : Int) = 40 := h47
                            refine e_Ok.rets rfl rfl ?_
                            have et86 : w3 275 86 = t := (e_uq hw3 (Or.inr (by decide)) (e_uq hw1 (Or.inr (by decide)) ht))
                            have et87 : w3 275 87 = t + 1 := (e_uq hw3 (Or.inr (by decide)) (e_uq hw1 (Or.inr (by decide)) he))
                            have et84 : w3 275 84 = 3 := (e_uq hw3 (Or.inr (by decide)) (e_ue hw1))
                            have et85 : w3 275 85 = b := (e_ue hw3)
                            exact ⟨rfl, f4, by unfold tkS tkV; rw [et86, et87, et84, et85]; omega, by omega⟩
                          · replace h47 : (b : Int) ≠ 40 := (show ¬ ((b : Int) = 40) from h47)
                            refine e_Ok.ps2 (x := (0, 41)) (y := (0, b)) (q := 151) 2 rfl ?_
                            refine e_Ok.if2 rfl (fun h48 => ?_) (fun h48 => ?_)
                            · replace h48 : (b : Int) = 41 := h48
                              refine e_Ok.rets rfl rfl ?_
                              have et86 : w3 275 86 = t := (e_uq hw3 (Or.inr (by decide)) (e_uq hw1 (Or.inr (by decide)) ht))
                              have et87 : w3 275 87 = t + 1 := (e_uq hw3 (Or.inr (by decide)) (e_uq hw1 (Or.inr (by decide)) he))
                              have et84 : w3 275 84 = 3 := (e_uq hw3 (Or.inr (by decide)) (e_ue hw1))
                              have et85 : w3 275 85 = b := (e_ue hw3)
                              exact ⟨rfl, f4, by unfold tkS tkV; rw [et86, et87, et84, et85]; omega, by omega⟩
                            · replace h48 : (b : Int) ≠ 41 := (show ¬ ((b : Int) = 41) from h48)
                              refine e_Ok.ps2 (x := (0, 44)) (y := (0, b)) (q := 157) 2 rfl ?_
                              refine e_Ok.if2 rfl (fun h49 => ?_) (fun h49 => ?_)
                              · replace h49 : (b : Int) = 44 := h49
                                refine e_Ok.rets rfl rfl ?_
                                have et86 : w3 275 86 = t := (e_uq hw3 (Or.inr (by decide)) (e_uq hw1 (Or.inr (by decide)) ht))
                                have et87 : w3 275 87 = t + 1 := (e_uq hw3 (Or.inr (by decide)) (e_uq hw1 (Or.inr (by decide)) he))
                                have et84 : w3 275 84 = 3 := (e_uq hw3 (Or.inr (by decide)) (e_ue hw1))
                                have et85 : w3 275 85 = b := (e_ue hw3)
                                exact ⟨rfl, f4, by unfold tkS tkV; rw [et86, et87, et84, et85]; omega, by omega⟩
                              · replace h49 : (b : Int) ≠ 44 := (show ¬ ((b : Int) = 44) from h49)
                                refine e_Ok.ps2 (x := (0, 59)) (y := (0, b)) (q := 163) 2 rfl ?_
                                refine e_Ok.if2 rfl (fun h50 => ?_) (fun h50 => ?_)
                                · replace h50 : (b : Int) = 59 := h50
                                  refine e_Ok.rets rfl rfl ?_
                                  have et86 : w3 275 86 = t := (e_uq hw3 (Or.inr (by decide)) (e_uq hw1 (Or.inr (by decide)) ht))
                                  have et87 : w3 275 87 = t + 1 := (e_uq hw3 (Or.inr (by decide)) (e_uq hw1 (Or.inr (by decide)) he))
                                  have et84 : w3 275 84 = 3 := (e_uq hw3 (Or.inr (by decide)) (e_ue hw1))
                                  have et85 : w3 275 85 = b := (e_ue hw3)
                                  exact ⟨rfl, f4, by unfold tkS tkV; rw [et86, et87, et84, et85]; omega, by omega⟩
                                · replace h50 : (b : Int) ≠ 59 := (show ¬ ((b : Int) = 59) from h50)
                                  refine e_Ok.ps2 (x := (0, 58)) (y := (0, b)) (q := 169) 2 rfl ?_
                                  refine e_Ok.if2 rfl (fun h51 => ?_) (fun h51 => ?_)
                                  · replace h51 : (b : Int) = 58 := h51
                                    refine e_Ok.rets rfl rfl ?_
                                    have et86 : w3 275 86 = t := (e_uq hw3 (Or.inr (by decide)) (e_uq hw1 (Or.inr (by decide)) ht))
                                    have et87 : w3 275 87 = t + 1 := (e_uq hw3 (Or.inr (by decide)) (e_uq hw1 (Or.inr (by decide)) he))
                                    have et84 : w3 275 84 = 3 := (e_uq hw3 (Or.inr (by decide)) (e_ue hw1))
                                    have et85 : w3 275 85 = b := (e_ue hw3)
                                    exact ⟨rfl, f4, by unfold tkS tkV; rw [et86, et87, et84, et85]; omega, by omega⟩
                                  · replace h51 : (b : Int) ≠ 58 := (show ¬ ((b : Int) = 58) from h51)
                                    refine e_Ok.ps2 (x := (0, 5)) (y := (1, 275)) (q := 174) 2 rfl ?_
                                    refine e_Ok.putf rfl (el_o rfl) rfl (ef_o rfl) ?_
                                    generalize hw52 : e_up w3 275 84 5 = w52
                                    refine e_Ok.rets rfl rfl ?_
                                    have et86 : w52 275 86 = t := (e_uq hw52 (Or.inr (by decide)) (e_uq hw3 (Or.inr (by decide)) (e_uq hw1 (Or.inr (by decide)) ht)))
                                    have et87 : w52 275 87 = t + 1 := (e_uq hw52 (Or.inr (by decide)) (e_uq hw3 (Or.inr (by decide)) (e_uq hw1 (Or.inr (by decide)) he)))
                                    have et84 : w52 275 84 = 5 := (e_ue hw52)
                                    have et85 : w52 275 85 = b := (e_uq hw52 (Or.inr (by decide)) (e_ue hw3))
                                    exact ⟨rfl, (show e_fr mTq w w52 from e_fr.up f4 hw52 (by first | exact ⟨rfl, ⟨(by decide), (by decide)⟩⟩ | (unfold mTq; omega))), by unfold tkS tkV; rw [et86, et87, et84, et85]; omega, by omega⟩
        · replace h37 : (b : Int) = 62 := Classical.not_not.mp (show ¬ ((b : Int) ≠ 62) from h37)
          refine e_Ok.ps1 (x := (0, 0)) (q := 50) 1 rfl ?_
          refine e_Ok.if1 rfl (fun h54 => ?_) (fun h54 => ?_)
          · replace h54 : (0 : Int) = 0 := h54
            refine e_Ok.ps2 (x := (0, 43)) (y := (0, b)) (q := 97) 2 rfl ?_
            refine e_Ok.if2 rfl (fun h55 => ?_) (fun h55 => ?_)
            · replace h55 : (b : Int) = 43 := h55
              exfalso; omega
            · replace h55 : (b : Int) ≠ 43 := (show ¬ ((b : Int) = 43) from h55)
              refine e_Ok.ps2 (x := (0, 45)) (y := (0, b)) (q := 103) 2 rfl ?_
              refine e_Ok.if2 rfl (fun h56 => ?_) (fun h56 => ?_)
              · replace h56 : (b : Int) = 45 := h56
                exfalso; omega
              · replace h56 : (b : Int) ≠ 45 := (show ¬ ((b : Int) = 45) from h56)
                refine e_Ok.ps2 (x := (0, 42)) (y := (0, b)) (q := 109) 2 rfl ?_
                refine e_Ok.if2 rfl (fun h57 => ?_) (fun h57 => ?_)
                · replace h57 : (b : Int) = 42 := h57
                  exfalso; omega
                · replace h57 : (b : Int) ≠ 42 := (show ¬ ((b : Int) = 42) from h57)
                  refine e_Ok.ps2 (x := (0, 47)) (y := (0, b)) (q := 115) 2 rfl ?_
                  refine e_Ok.if2 rfl (fun h58 => ?_) (fun h58 => ?_)
                  · replace h58 : (b : Int) = 47 := h58
                    exfalso; omega
                  · replace h58 : (b : Int) ≠ 47 := (show ¬ ((b : Int) = 47) from h58)
                    refine e_Ok.ps2 (x := (0, 37)) (y := (0, b)) (q := 121) 2 rfl ?_
                    refine e_Ok.if2 rfl (fun h59 => ?_) (fun h59 => ?_)
                    · replace h59 : (b : Int) = 37 := h59
                      exfalso; omega
                    · replace h59 : (b : Int) ≠ 37 := (show ¬ ((b : Int) = 37) from h59)
                      refine e_Ok.ps2 (x := (0, 61)) (y := (0, b)) (q := 127) 2 rfl ?_
                      refine e_Ok.if2 rfl (fun h60 => ?_) (fun h60 => ?_)
                      · replace h60 : (b : Int) = 61 := h60
                        exfalso; omega
                      · replace h60 : (b : Int) ≠ 61 := (show ¬ ((b : Int) = 61) from h60)
                        refine e_Ok.ps2 (x := (0, 60)) (y := (0, b)) (q := 133) 2 rfl ?_
                        refine e_Ok.if2 rfl (fun h61 => ?_) (fun h61 => ?_)
                        · replace h61 : (b : Int) = 60 := h61
                          exfalso; omega
                        · replace h61 : (b : Int) ≠ 60 := (show ¬ ((b : Int) = 60) from h61)
                          refine e_Ok.ps2 (x := (0, 62)) (y := (0, b)) (q := 139) 2 rfl ?_
                          refine e_Ok.if2 rfl (fun h62 => ?_) (fun h62 => ?_)
                          · replace h62 : (b : Int) = 62 := h62
                            refine e_Ok.rets rfl rfl ?_
                            have et86 : w3 275 86 = t := (e_uq hw3 (Or.inr (by decide)) (e_uq hw1 (Or.inr (by decide)) ht))
                            have et87 : w3 275 87 = t + 1 := (e_uq hw3 (Or.inr (by decide)) (e_uq hw1 (Or.inr (by decide)) he))
                            have et84 : w3 275 84 = 3 := (e_uq hw3 (Or.inr (by decide)) (e_ue hw1))
                            have et85 : w3 275 85 = b := (e_ue hw3)
                            exact ⟨rfl, f4, by unfold tkS tkV; rw [et86, et87, et84, et85]; omega, by omega⟩
                          · replace h62 : (b : Int) ≠ 62 := (show ¬ ((b : Int) = 62) from h62)
                            exfalso; omega
          · replace h54 : (0 : Int) ≠ 0 := (show ¬ ((0 : Int) = 0) from h54)
            exfalso; omega
  · replace h10 : (z8 : Int) = 61 := Classical.not_not.mp (show ¬ ((z8 : Int) ≠ 61) from h10)
    refine e_Ok.run (t' := (34, [(2, (0, 1)), (0, (1, 275)), (1, (0, b))], [(0, 33), (0, b)], w3)) 5 rfl ?_
    refine e_Ok.if2 rfl (fun h63 => ?_) (fun h63 => ?_)
    · replace h63 : (b : Int) = 33 := h63
      refine e_Ok.ps1 (x := (0, 1)) (q := 50) 1 rfl ?_
      refine e_Ok.if1 rfl (fun h64 => ?_) (fun h64 => ?_)
      · replace h64 : (1 : Int) = 0 := h64
        exfalso; omega
      · replace h64 : (1 : Int) ≠ 0 := (show ¬ ((1 : Int) = 0) from h64)
        refine e_Ok.ps2 (x := (1, 275)) (y := (1, 275)) (q := 55) 2 rfl ?_
        refine e_Ok.getf (z := t + 1) rfl (el_o rfl) rfl (ef_o rfl) (e_uq hw3 (Or.inr (by decide)) (e_uq hw1 (Or.inr (by decide)) he)) (by omega) ?_
        refine e_Ok.ps1 (x := (0, 1)) (q := 59) 1 rfl ?_
        refine e_Ok.add (z := t + 2) rfl (e_adl (by decide)) (by omega) ?_
        refine e_Ok.putf rfl (el_o rfl) rfl (ef_o rfl) ?_
        generalize hw65 : e_up w3 275 87 (t + 2) = w65
        refine e_Ok.ps3 (x := (0, 33)) (y := (0, b)) (z := (1, 275)) (q := 67) 3 rfl ?_
        refine e_Ok.if2 rfl (fun h67 => ?_) (fun h67 => ?_)
        · replace h67 : (b : Int) ≠ 33 := h67
          exfalso; omega
        · replace h67 : (b : Int) = 33 := Classical.not_not.mp (show ¬ ((b : Int) ≠ 33) from h67)
          refine e_Ok.ps1 (x := (0, 110)) (q := 88) 2 rfl ?_
          refine e_Ok.putf rfl (el_o rfl) rfl (ef_o rfl) ?_
          generalize hw68 : e_up w65 275 85 110 = w68
          refine e_Ok.ps0 (q := 177) 1 rfl ?_
          refine e_Ok.rets rfl rfl ?_
          have et86 : w68 275 86 = t := (e_uq hw68 (Or.inr (by decide)) (e_uq hw65 (Or.inr (by decide)) (e_uq hw3 (Or.inr (by decide)) (e_uq hw1 (Or.inr (by decide)) ht))))
          have et87 : w68 275 87 = t + 2 := (e_uq hw68 (Or.inr (by decide)) (e_ue hw65))
          have et84 : w68 275 84 = 3 := (e_uq hw68 (Or.inr (by decide)) (e_uq hw65 (Or.inr (by decide)) (e_uq hw3 (Or.inr (by decide)) (e_ue hw1))))
          have et85 : w68 275 85 = 110 := (e_ue hw68)
          exact ⟨rfl, (show e_fr mTq w w68 from e_fr.up (show e_fr mTq w w65 from e_fr.up f4 hw65 (by first | exact ⟨rfl, ⟨(by decide), (by decide)⟩⟩ | (unfold mTq; omega))) hw68 (by first | exact ⟨rfl, ⟨(by decide), (by decide)⟩⟩ | (unfold mTq; omega))), by unfold tkS tkV; rw [et86, et87, et84, et85]; omega, by omega⟩
    · replace h63 : (b : Int) ≠ 33 := (show ¬ ((b : Int) = 33) from h63)
      refine e_Ok.ps2 (x := (0, 60)) (y := (0, b)) (q := 40) 2 rfl ?_
      refine e_Ok.if2 rfl (fun h70 => ?_) (fun h70 => ?_)
      · replace h70 : (b : Int) = 60 := h70
        refine e_Ok.ps1 (x := (0, 1)) (q := 50) 1 rfl ?_
        refine e_Ok.if1 rfl (fun h71 => ?_) (fun h71 => ?_)
        · replace h71 : (1 : Int) = 0 := h71
          exfalso; omega
        · replace h71 : (1 : Int) ≠ 0 := (show ¬ ((1 : Int) = 0) from h71)
          refine e_Ok.ps2 (x := (1, 275)) (y := (1, 275)) (q := 55) 2 rfl ?_
          refine e_Ok.getf (z := t + 1) rfl (el_o rfl) rfl (ef_o rfl) (e_uq hw3 (Or.inr (by decide)) (e_uq hw1 (Or.inr (by decide)) he)) (by omega) ?_
          refine e_Ok.ps1 (x := (0, 1)) (q := 59) 1 rfl ?_
          refine e_Ok.add (z := t + 2) rfl (e_adl (by decide)) (by omega) ?_
          refine e_Ok.putf rfl (el_o rfl) rfl (ef_o rfl) ?_
          generalize hw72 : e_up w3 275 87 (t + 2) = w72
          refine e_Ok.ps3 (x := (0, 33)) (y := (0, b)) (z := (1, 275)) (q := 67) 3 rfl ?_
          refine e_Ok.if2 rfl (fun h74 => ?_) (fun h74 => ?_)
          · replace h74 : (b : Int) ≠ 33 := h74
            refine e_Ok.ps2 (x := (0, 60)) (y := (0, b)) (q := 78) 2 rfl ?_
            refine e_Ok.if2 rfl (fun h75 => ?_) (fun h75 => ?_)
            · replace h75 : (b : Int) ≠ 60 := h75
              exfalso; omega
            · replace h75 : (b : Int) = 60 := Classical.not_not.mp (show ¬ ((b : Int) ≠ 60) from h75)
              refine e_Ok.ps1 (x := (0, 108)) (q := 88) 2 rfl ?_
              refine e_Ok.putf rfl (el_o rfl) rfl (ef_o rfl) ?_
              generalize hw76 : e_up w72 275 85 108 = w76
              refine e_Ok.ps0 (q := 177) 1 rfl ?_
              refine e_Ok.rets rfl rfl ?_
              have et86 : w76 275 86 = t := (e_uq hw76 (Or.inr (by decide)) (e_uq hw72 (Or.inr (by decide)) (e_uq hw3 (Or.inr (by decide)) (e_uq hw1 (Or.inr (by decide)) ht))))
              have et87 : w76 275 87 = t + 2 := (e_uq hw76 (Or.inr (by decide)) (e_ue hw72))
              have et84 : w76 275 84 = 3 := (e_uq hw76 (Or.inr (by decide)) (e_uq hw72 (Or.inr (by decide)) (e_uq hw3 (Or.inr (by decide)) (e_ue hw1))))
              have et85 : w76 275 85 = 108 := (e_ue hw76)
              exact ⟨rfl, (show e_fr mTq w w76 from e_fr.up (show e_fr mTq w w72 from e_fr.up f4 hw72 (by first | exact ⟨rfl, ⟨(by decide), (by decide)⟩⟩ | (unfold mTq; omega))) hw76 (by first | exact ⟨rfl, ⟨(by decide), (by decide)⟩⟩ | (unfold mTq; omega))), by unfold tkS tkV; rw [et86, et87, et84, et85]; omega, by omega⟩
          · replace h74 : (b : Int) = 33 := Classical.not_not.mp (show ¬ ((b : Int) ≠ 33) from h74)
            exfalso; omega
      · replace h70 : (b : Int) ≠ 60 := (show ¬ ((b : Int) = 60) from h70)
        refine e_Ok.ps2 (x := (0, 62)) (y := (0, b)) (q := 46) 2 rfl ?_
        refine e_Ok.if2 rfl (fun h78 => ?_) (fun h78 => ?_)
        · replace h78 : (b : Int) ≠ 62 := h78
          refine e_Ok.ps2 (x := (0, 43)) (y := (0, b)) (q := 97) 2 rfl ?_
          refine e_Ok.if2 rfl (fun h79 => ?_) (fun h79 => ?_)
          · replace h79 : (b : Int) = 43 := h79
            refine e_Ok.rets rfl rfl ?_
            have et86 : w3 275 86 = t := (e_uq hw3 (Or.inr (by decide)) (e_uq hw1 (Or.inr (by decide)) ht))
            have et87 : w3 275 87 = t + 1 := (e_uq hw3 (Or.inr (by decide)) (e_uq hw1 (Or.inr (by decide)) he))
            have et84 : w3 275 84 = 3 := (e_uq hw3 (Or.inr (by decide)) (e_ue hw1))
            have et85 : w3 275 85 = b := (e_ue hw3)
            exact ⟨rfl, f4, by unfold tkS tkV; rw [et86, et87, et84, et85]; omega, by omega⟩
          · replace h79 : (b : Int) ≠ 43 := (show ¬ ((b : Int) = 43) from h79)
            refine e_Ok.ps2 (x := (0, 45)) (y := (0, b)) (q := 103) 2 rfl ?_
            refine e_Ok.if2 rfl (fun h80 => ?_) (fun h80 => ?_)
            · replace h80 : (b : Int) = 45 := h80
              refine e_Ok.rets rfl rfl ?_
              have et86 : w3 275 86 = t := (e_uq hw3 (Or.inr (by decide)) (e_uq hw1 (Or.inr (by decide)) ht))
              have et87 : w3 275 87 = t + 1 := (e_uq hw3 (Or.inr (by decide)) (e_uq hw1 (Or.inr (by decide)) he))
              have et84 : w3 275 84 = 3 := (e_uq hw3 (Or.inr (by decide)) (e_ue hw1))
              have et85 : w3 275 85 = b := (e_ue hw3)
              exact ⟨rfl, f4, by unfold tkS tkV; rw [et86, et87, et84, et85]; omega, by omega⟩
            · replace h80 : (b : Int) ≠ 45 := (show ¬ ((b : Int) = 45) from h80)
              refine e_Ok.ps2 (x := (0, 42)) (y := (0, b)) (q := 109) 2 rfl ?_
              refine e_Ok.if2 rfl (fun h81 => ?_) (fun h81 => ?_)
              · replace h81 : (b : Int) = 42 := h81
                refine e_Ok.rets rfl rfl ?_
                have et86 : w3 275 86 = t := (e_uq hw3 (Or.inr (by decide)) (e_uq hw1 (Or.inr (by decide)) ht))
                have et87 : w3 275 87 = t + 1 := (e_uq hw3 (Or.inr (by decide)) (e_uq hw1 (Or.inr (by decide)) he))
                have et84 : w3 275 84 = 3 := (e_uq hw3 (Or.inr (by decide)) (e_ue hw1))
                have et85 : w3 275 85 = b := (e_ue hw3)
                exact ⟨rfl, f4, by unfold tkS tkV; rw [et86, et87, et84, et85]; omega, by omega⟩
              · replace h81 : (b : Int) ≠ 42 := (show ¬ ((b : Int) = 42) from h81)
                refine e_Ok.ps2 (x := (0, 47)) (y := (0, b)) (q := 115) 2 rfl ?_
                refine e_Ok.if2 rfl (fun h82 => ?_) (fun h82 => ?_)
                · replace h82 : (b : Int) = 47 := h82
                  refine e_Ok.rets rfl rfl ?_
                  have et86 : w3 275 86 = t := (e_uq hw3 (Or.inr (by decide)) (e_uq hw1 (Or.inr (by decide)) ht))
                  have et87 : w3 275 87 = t + 1 := (e_uq hw3 (Or.inr (by decide)) (e_uq hw1 (Or.inr (by decide)) he))
                  have et84 : w3 275 84 = 3 := (e_uq hw3 (Or.inr (by decide)) (e_ue hw1))
                  have et85 : w3 275 85 = b := (e_ue hw3)
                  exact ⟨rfl, f4, by unfold tkS tkV; rw [et86, et87, et84, et85]; omega, by omega⟩
                · replace h82 : (b : Int) ≠ 47 := (show ¬ ((b : Int) = 47) from h82)
                  refine e_Ok.ps2 (x := (0, 37)) (y := (0, b)) (q := 121) 2 rfl ?_
                  refine e_Ok.if2 rfl (fun h83 => ?_) (fun h83 => ?_)
                  · replace h83 : (b : Int) = 37 := h83
                    refine e_Ok.rets rfl rfl ?_
                    have et86 : w3 275 86 = t := (e_uq hw3 (Or.inr (by decide)) (e_uq hw1 (Or.inr (by decide)) ht))
                    have et87 : w3 275 87 = t + 1 := (e_uq hw3 (Or.inr (by decide)) (e_uq hw1 (Or.inr (by decide)) he))
                    have et84 : w3 275 84 = 3 := (e_uq hw3 (Or.inr (by decide)) (e_ue hw1))
                    have et85 : w3 275 85 = b := (e_ue hw3)
                    exact ⟨rfl, f4, by unfold tkS tkV; rw [et86, et87, et84, et85]; omega, by omega⟩
                  · replace h83 : (b : Int) ≠ 37 := (show ¬ ((b : Int) = 37) from h83)
                    refine e_Ok.ps2 (x := (0, 61)) (y := (0, b)) (q := 127) 2 rfl ?_
                    refine e_Ok.if2 rfl (fun h84 => ?_) (fun h84 => ?_)
                    · replace h84 : (b : Int) = 61 := h84
                      refine e_Ok.rets rfl rfl ?_
                      have et86 : w3 275 86 = t := (e_uq hw3 (Or.inr (by decide)) (e_uq hw1 (Or.inr (by decide)) ht))
                      have et87 : w3 275 87 = t + 1 := (e_uq hw3 (Or.inr (by decide)) (e_uq hw1 (Or.inr (by decide)) he))
                      have et84 : w3 275 84 = 3 := (e_uq hw3 (Or.inr (by decide)) (e_ue hw1))
                      have et85 : w3 275 85 = b := (e_ue hw3)
                      exact ⟨rfl, f4, by unfold tkS tkV; rw [et86, et87, et84, et85]; omega, by omega⟩
                    · replace h84 : (b : Int) ≠ 61 := (show ¬ ((b : Int) = 61) from h84)
                      refine e_Ok.ps2 (x := (0, 60)) (y := (0, b)) (q := 133) 2 rfl ?_
                      refine e_Ok.if2 rfl (fun h85 => ?_) (fun h85 => ?_)
                      · replace h85 : (b : Int) = 60 := h85
                        refine e_Ok.rets rfl rfl ?_
                        have et86 : w3 275 86 = t := (e_uq hw3 (Or.inr (by decide)) (e_uq hw1 (Or.inr (by decide)) ht))
                        have et87 : w3 275 87 = t + 1 := (e_uq hw3 (Or.inr (by decide)) (e_uq hw1 (Or.inr (by decide)) he))
                        have et84 : w3 275 84 = 3 := (e_uq hw3 (Or.inr (by decide)) (e_ue hw1))
                        have et85 : w3 275 85 = b := (e_ue hw3)
                        exact ⟨rfl, f4, by unfold tkS tkV; rw [et86, et87, et84, et85]; omega, by omega⟩
                      · replace h85 : (b : Int) ≠ 60 := (show ¬ ((b : Int) = 60) from h85)
                        refine e_Ok.ps2 (x := (0, 62)) (y := (0, b)) (q := 139) 2 rfl ?_
                        refine e_Ok.if2 rfl (fun h86 => ?_) (fun h86 => ?_)
                        · replace h86 : (b : Int) = 62 := h86
                          refine e_Ok.rets rfl rfl ?_
                          have et86 : w3 275 86 = t := (e_uq hw3 (Or.inr (by decide)) (e_uq hw1 (Or.inr (by decide)) ht))
                          have et87 : w3 275 87 = t + 1 := (e_uq hw3 (Or.inr (by decide)) (e_uq hw1 (Or.inr (by decide)) he))
                          have et84 : w3 275 84 = 3 := (e_uq hw3 (Or.inr (by decide)) (e_ue hw1))
                          have et85 : w3 275 85 = b := (e_ue hw3)
                          exact ⟨rfl, f4, by unfold tkS tkV; rw [et86, et87, et84, et85]; omega, by omega⟩
                        · replace h86 : (b : Int) ≠ 62 := (show ¬ ((b : Int) = 62) from h86)
                          refine e_Ok.ps2 (x := (0, 40)) (y := (0, b)) (q := 145) 2 rfl ?_
                          refine e_Ok.if2 rfl (fun h87 => ?_) (fun h87 => ?_)
                          · replace h87 : (b : Int) = 40 := h87
                            refine e_Ok.rets rfl rfl ?_
                            have et86 : w3 275 86 = t := (e_uq hw3 (Or.inr (by decide)) (e_uq hw1 (Or.inr (by decide)) ht))
                            have et87 : w3 275 87 = t + 1 := (e_uq hw3 (Or.inr (by decide)) (e_uq hw1 (Or.inr (by decide)) he))
                            have et84 : w3 275 84 = 3 := (e_uq hw3 (Or.inr (by decide)) (e_ue hw1))
                            have et85 : w3 275 85 = b := (e_ue hw3)
                            exact ⟨rfl, f4, by unfold tkS tkV; rw [et86, et87, et84, et85]; omega, by omega⟩
                          · replace h87 : (b : Int) ≠ 40 := (show ¬ ((b : Int) = 40) from h87)
                            refine e_Ok.ps2 (x := (0, 41)) (y := (0, b)) (q := 151) 2 rfl ?_
                            refine e_Ok.if2 rfl (fun h88 => ?_) (fun h88 => ?_)
                            · replace h88 : (b : Int) = 41 := h88
                              refine e_Ok.rets rfl rfl ?_
                              have et86 : w3 275 86 = t := (e_uq hw3 (Or.inr (by decide)) (e_uq hw1 (Or.inr (by decide)) ht))
                              have et87 : w3 275 87 = t + 1 := (e_uq hw3 (Or.inr (by decide)) (e_uq hw1 (Or.inr (by decide)) he))
                              have et84 : w3 275 84 = 3 := (e_uq hw3 (Or.inr (by decide)) (e_ue hw1))
                              have et85 : w3 275 85 = b := (e_ue hw3)
                              exact ⟨rfl, f4, by unfold tkS tkV; rw [et86, et87, et84, et85]; omega, by omega⟩
                            · replace h88 : (b : Int) ≠ 41 := (show ¬ ((b : Int) = 41) from h88)
                              refine e_Ok.ps2 (x := (0, 44)) (y := (0, b)) (q := 157) 2 rfl ?_
                              refine e_Ok.if2 rfl (fun h89 => ?_) (fun h89 => ?_)
                              · replace h89 : (b : Int) = 44 := h89
                                refine e_Ok.rets rfl rfl ?_
                                have et86 : w3 275 86 = t := (e_uq hw3 (Or.inr (by decide)) (e_uq hw1 (Or.inr (by decide)) ht))
                                have et87 : w3 275 87 = t + 1 := (e_uq hw3 (Or.inr (by decide)) (e_uq hw1 (Or.inr (by decide)) he))
                                have et84 : w3 275 84 = 3 := (e_uq hw3 (Or.inr (by decide)) (e_ue hw1))
                                have et85 : w3 275 85 = b := (e_ue hw3)
                                exact ⟨rfl, f4, by unfold tkS tkV; rw [et86, et87, et84, et85]; omega, by omega⟩
                              · replace h89 : (b : Int) ≠ 44 := (show ¬ ((b : Int) = 44) from h89)
                                refine e_Ok.ps2 (x := (0, 59)) (y := (0, b)) (q := 163) 2 rfl ?_
                                refine e_Ok.if2 rfl (fun h90 => ?_) (fun h90 => ?_)
                                · replace h90 : (b : Int) = 59 := h90
                                  refine e_Ok.rets rfl rfl ?_
                                  have et86 : w3 275 86 = t := (e_uq hw3 (Or.inr (by decide)) (e_uq hw1 (Or.inr (by decide)) ht))
                                  have et87 : w3 275 87 = t + 1 := (e_uq hw3 (Or.inr (by decide)) (e_uq hw1 (Or.inr (by decide)) he))
                                  have et84 : w3 275 84 = 3 := (e_uq hw3 (Or.inr (by decide)) (e_ue hw1))
                                  have et85 : w3 275 85 = b := (e_ue hw3)
                                  exact ⟨rfl, f4, by unfold tkS tkV; rw [et86, et87, et84, et85]; omega, by omega⟩
                                · replace h90 : (b : Int) ≠ 59 := (show ¬ ((b : Int) = 59) from h90)
                                  refine e_Ok.ps2 (x := (0, 58)) (y := (0, b)) (q := 169) 2 rfl ?_
                                  refine e_Ok.if2 rfl (fun h91 => ?_) (fun h91 => ?_)
                                  · replace h91 : (b : Int) = 58 := h91
                                    refine e_Ok.rets rfl rfl ?_
                                    have et86 : w3 275 86 = t := (e_uq hw3 (Or.inr (by decide)) (e_uq hw1 (Or.inr (by decide)) ht))
                                    have et87 : w3 275 87 = t + 1 := (e_uq hw3 (Or.inr (by decide)) (e_uq hw1 (Or.inr (by decide)) he))
                                    have et84 : w3 275 84 = 3 := (e_uq hw3 (Or.inr (by decide)) (e_ue hw1))
                                    have et85 : w3 275 85 = b := (e_ue hw3)
                                    exact ⟨rfl, f4, by unfold tkS tkV; rw [et86, et87, et84, et85]; omega, by omega⟩
                                  · replace h91 : (b : Int) ≠ 58 := (show ¬ ((b : Int) = 58) from h91)
                                    refine e_Ok.ps2 (x := (0, 5)) (y := (1, 275)) (q := 174) 2 rfl ?_
                                    refine e_Ok.putf rfl (el_o rfl) rfl (ef_o rfl) ?_
                                    generalize hw92 : e_up w3 275 84 5 = w92
                                    refine e_Ok.rets rfl rfl ?_
                                    have et86 : w92 275 86 = t := (e_uq hw92 (Or.inr (by decide)) (e_uq hw3 (Or.inr (by decide)) (e_uq hw1 (Or.inr (by decide)) ht)))
                                    have et87 : w92 275 87 = t + 1 := (e_uq hw92 (Or.inr (by decide)) (e_uq hw3 (Or.inr (by decide)) (e_uq hw1 (Or.inr (by decide)) he)))
                                    have et84 : w92 275 84 = 5 := (e_ue hw92)
                                    have et85 : w92 275 85 = b := (e_uq hw92 (Or.inr (by decide)) (e_ue hw3))
                                    exact ⟨rfl, (show e_fr mTq w w92 from e_fr.up f4 hw92 (by first | exact ⟨rfl, ⟨(by decide), (by decide)⟩⟩ | (unfold mTq; omega))), by unfold tkS tkV; rw [et86, et87, et84, et85]; omega, by omega⟩
        · replace h78 : (b : Int) = 62 := Classical.not_not.mp (show ¬ ((b : Int) ≠ 62) from h78)
          refine e_Ok.ps1 (x := (0, 1)) (q := 50) 1 rfl ?_
          refine e_Ok.if1 rfl (fun h94 => ?_) (fun h94 => ?_)
          · replace h94 : (1 : Int) = 0 := h94
            exfalso; omega
          · replace h94 : (1 : Int) ≠ 0 := (show ¬ ((1 : Int) = 0) from h94)
            refine e_Ok.ps2 (x := (1, 275)) (y := (1, 275)) (q := 55) 2 rfl ?_
            refine e_Ok.getf (z := t + 1) rfl (el_o rfl) rfl (ef_o rfl) (e_uq hw3 (Or.inr (by decide)) (e_uq hw1 (Or.inr (by decide)) he)) (by omega) ?_
            refine e_Ok.ps1 (x := (0, 1)) (q := 59) 1 rfl ?_
            refine e_Ok.add (z := t + 2) rfl (e_adl (by decide)) (by omega) ?_
            refine e_Ok.putf rfl (el_o rfl) rfl (ef_o rfl) ?_
            generalize hw95 : e_up w3 275 87 (t + 2) = w95
            refine e_Ok.ps3 (x := (0, 33)) (y := (0, b)) (z := (1, 275)) (q := 67) 3 rfl ?_
            refine e_Ok.if2 rfl (fun h103 => ?_) (fun h103 => ?_)
            · replace h103 : (b : Int) ≠ 33 := h103
              refine e_Ok.ps2 (x := (0, 60)) (y := (0, b)) (q := 78) 2 rfl ?_
              refine e_Ok.if2 rfl (fun h104 => ?_) (fun h104 => ?_)
              · replace h104 : (b : Int) ≠ 60 := h104
                refine e_Ok.ps1 (x := (0, 103)) (q := 88) 1 rfl ?_
                refine e_Ok.putf rfl (el_o rfl) rfl (ef_o rfl) ?_
                generalize hw105 : e_up w95 275 85 103 = w105
                refine e_Ok.ps0 (q := 177) 1 rfl ?_
                refine e_Ok.rets rfl rfl ?_
                have et86 : w105 275 86 = t := (e_uq hw105 (Or.inr (by decide)) (e_uq hw95 (Or.inr (by decide)) (e_uq hw3 (Or.inr (by decide)) (e_uq hw1 (Or.inr (by decide)) ht))))
                have et87 : w105 275 87 = t + 2 := (e_uq hw105 (Or.inr (by decide)) (e_ue hw95))
                have et84 : w105 275 84 = 3 := (e_uq hw105 (Or.inr (by decide)) (e_uq hw95 (Or.inr (by decide)) (e_uq hw3 (Or.inr (by decide)) (e_ue hw1))))
                have et85 : w105 275 85 = 103 := (e_ue hw105)
                exact ⟨rfl, (show e_fr mTq w w105 from e_fr.up (show e_fr mTq w w95 from e_fr.up f4 hw95 (by first | exact ⟨rfl, ⟨(by decide), (by decide)⟩⟩ | (unfold mTq; omega))) hw105 (by first | exact ⟨rfl, ⟨(by decide), (by decide)⟩⟩ | (unfold mTq; omega))), by unfold tkS tkV; rw [et86, et87, et84, et85]; omega, by omega⟩
              · replace h104 : (b : Int) = 60 := Classical.not_not.mp (show ¬ ((b : Int) ≠ 60) from h104)
                exfalso; omega
            · replace h103 : (b : Int) = 33 := Classical.not_not.mp (show ¬ ((b : Int) ≠ 33) from h103)
              exfalso; omega
theorem no_9w_0 : ¬ mTq 275 9 := by unfold mTq; omega
set_option maxHeartbeats 4000000 in
theorem c_328 {d : Nat} (hd : 23 ≤ d) {w : eW} (hT : e_Has mTy w) (hH : e_Has hTy w) {N : Int} (hN : w 275 9 = N) (hNr : 0 ≤ N ∧ N ≤ 4000) {t : Int} (ht : w 275 86 = t) (htr : 0 ≤ t ∧ t < N) (hb : (97 ≤ w 281 t ∧ w 281 t ≤ 122) ∨ (65 ≤ w 281 t ∧ w 281 t ≤ 90)) (hwh : -2147483648 ≤ w 275 85 ∧ w 275 85 ≤ 2147483647) : e_Ok 20 elay ecode eI d 328 (0, [(0, (1, 275))], [], w) (fun r w' => r = [] ∧ e_fr mTq w w' ∧ tkS w' N ∧ t ≤ w' 275 86) := by
  obtain ⟨d, rfl⟩ : ∃ e, d = e + 1 := ⟨d - 1, by omega⟩
  refine e_Ok.ps1 (x := (1, 275)) (q := 1) 1 rfl ?_
  refine e_Ok.getf (z := t) rfl (el_o rfl) rfl (ef_o rfl) ht (by omega) ?_
  refine e_Ok.run (t' := (5, [(1, (0, t)), (0, (1, 275))], [], w)) 1 rfl ?_
  have hL1 : ∀ (nn : Nat) (y1 : Int), (t ≤ y1 ∧ y1 ≤ N) ∧ ((t < y1 ∨ (y1 = t ∧ w 281 y1 = w 281 t))) → 4001 - y1 < nn → e_Ok 20 elay ecode eI (d + 1) 328 (5, [(0, (1, 275)), (1, (0, y1))], [], w) (fun r w' => r = [] ∧ e_fr mTq w w' ∧ tkS w' N ∧ t ≤ w' 275 86) := by
    intro nn
    induction nn with
    | zero => intro y1 hj hm; obtain ⟨j3, j4⟩ := hj; exfalso; omega
    | succ nn ih2 =>
      intro y1 hj hm
      obtain ⟨j3, j4⟩ := hj
      refine e_Ok.run (t' := (7, [(0, (1, 275)), (1, (0, y1))], [(0, y1), (1, 275)], w)) 2 rfl ?_
      refine e_Ok.callV rfl (e_dq hd rfl) rfl rfl rfl rfl (c_326 hT hH hN hNr (by omega)) (fun r5 w6 h7 => ?_)
      obtain ⟨z8, rfl, rfl, q9⟩ := h7
      refine e_Ok.nrm (q := 10) (st' := [(0, z8)]) rfl rfl ?_
      refine e_Ok.callS rfl (e_dq hd rfl) rfl rfl (c_324_x (e_dq hd rfl)) (fun r10 w11 h12 => ?_)
      obtain ⟨z13, rfl, rfl, q14⟩ := h12
      obtain ⟨rfl, q14⟩ | ⟨rfl, q14⟩ := q14
      · refine e_Ok.nrm (q := 13) (st' := [(0, 1)]) rfl rfl ?_
        refine e_Ok.if1 rfl (fun h15 => ?_) (fun h15 => ?_)
        · replace h15 : (1 : Int) ≠ 0 := h15
          refine e_Ok.inc (z := y1 + 1) rfl rfl (by first | with_reducible rfl | omega) (by omega) ?_
          show e_Ok 20 elay ecode eI (d + 1) 328 (30, [(1, (0, y1 + 1)), (0, (1, 275))], [], w) _
          refine e_Ok.ps0 (q := 5) 1 rfl ?_
          refine e_Ok.sub eAlk (e_sub_of rfl ?_) (ih2 (y1 + 1) ⟨by omega, (Or.inl (by omega))⟩ (by omega))
          exact ⟨rfl, rfl, trivial⟩
        · replace h15 : (1 : Int) = 0 := Classical.not_not.mp (show ¬ ((1 : Int) ≠ 0) from h15)
          exfalso; omega
      · refine e_Ok.nrm (q := 13) (st' := [(0, 0)]) rfl rfl ?_
        refine e_Ok.if1 rfl (fun h16 => ?_) (fun h16 => ?_)
        · replace h16 : (0 : Int) ≠ 0 := h16
          exfalso; omega
        · replace h16 : (0 : Int) = 0 := Classical.not_not.mp (show ¬ ((0 : Int) ≠ 0) from h16)
          refine e_Ok.ps2 (x := (0, y1)) (y := (1, 275)) (q := 18) 2 rfl ?_
          refine e_Ok.callV rfl (e_dq hd rfl) rfl rfl rfl rfl (c_326 hT hH hN hNr (by omega)) (fun r17 w18 h19 => ?_)
          obtain ⟨z20, rfl, rfl, q21⟩ := h19
          refine e_Ok.nrm (q := 21) (st' := [(0, z20)]) rfl rfl ?_
          refine e_Ok.callS rfl (e_dq hd rfl) rfl rfl (c_325_x (e_dq hd rfl)) (fun r22 w23 h24 => ?_)
          obtain ⟨z25, rfl, rfl, q26⟩ := h24
          obtain ⟨rfl, q26⟩ | ⟨rfl, q26⟩ := q26
          · refine e_Ok.nrm (q := 24) (st' := [(0, 1)]) rfl rfl ?_
            refine e_Ok.if1 rfl (fun h27 => ?_) (fun h27 => ?_)
            · replace h27 : (1 : Int) = 0 := h27
              exfalso; omega
            · replace h27 : (1 : Int) ≠ 0 := (show ¬ ((1 : Int) = 0) from h27)
              refine e_Ok.inc (z := y1 + 1) rfl rfl (by first | with_reducible rfl | omega) (by omega) ?_
              show e_Ok 20 elay ecode eI (d + 1) 328 (30, [(1, (0, y1 + 1)), (0, (1, 275))], [], w) _
              refine e_Ok.ps0 (q := 5) 1 rfl ?_
              refine e_Ok.sub eAlk (e_sub_of rfl ?_) (ih2 (y1 + 1) ⟨by omega, (Or.inl (by omega))⟩ (by omega))
              exact ⟨rfl, rfl, trivial⟩
          · refine e_Ok.nrm (q := 24) (st' := [(0, 0)]) rfl rfl ?_
            refine e_Ok.if1 rfl (fun h28 => ?_) (fun h28 => ?_)
            · replace h28 : (0 : Int) = 0 := h28
              refine e_Ok.ps2 (x := (0, y1)) (y := (1, 275)) (q := 35) 2 rfl ?_
              refine e_Ok.putf rfl (el_o rfl) rfl (ef_o rfl) ?_
              generalize hw29 : e_up w 275 87 y1 = w29
              have f30 : e_fr mTq w w29 := e_fr.up (e_fr.refl w) hw29 (by first | exact ⟨rfl, ⟨(by decide), (by decide)⟩⟩ | (unfold mTq; omega))
              refine e_Ok.ps3 (x := (1, 275)) (y := (0, y1)) (z := (1, 275)) (q := 41) 3 rfl ?_
              refine e_Ok.getf (z := t) rfl (el_o rfl) rfl (ef_o rfl) (e_uq hw29 (Or.inr (by decide)) ht) (by omega) ?_
              refine e_Ok.sub' (z := y1 - t) rfl rfl (by omega) ?_
              refine e_Ok.ps1 (x := (0, 24)) (q := 47) 1 rfl ?_
              refine e_Ok.if2 rfl (fun h31 => ?_) (fun h31 => ?_)
              · replace h31 : (y1 - t : Int) ≤ 24 := h31
                refine e_Ok.ps1 (x := (0, 1)) (q := 55) 1 rfl ?_
                refine e_Ok.putf rfl (el_o rfl) rfl (ef_o rfl) ?_
                generalize hw32 : e_up w29 275 84 1 = w32
                refine e_Ok.run (t' := (62, [(3, (0, 0)), (2, (0, 0)), (0, (1, 275)), (1, (0, y1))], [], w32)) 4 rfl ?_
                have hL35 : ∀ (nn : Nat) (y2 : Int) (y3 : Int) (v1 : eW), e_fr mTq w v1 ∧ (y2 = 171 ∨ ∃ e, (y2, e, y3) ∈ e_wst) ∧ ((0 ≤ y2 ∧ y2 ≤ 171 ∧ 0 ≤ y3 ∧ y3 ≤ 33)) ∧ v1 275 86 = t ∧ v1 275 87 = y1 ∧ ((1 ≤ v1 275 84 ∧ v1 275 84 ≤ 5)) ∧ ((v1 275 84 = 4 → t + 2 ≤ y1 ∧ 0 ≤ v1 275 85 ∧ v1 275 85 ≤ 32)) ∧ ((-2147483648 ≤ v1 275 85 ∧ v1 275 85 ≤ 2147483647)) → 172 - y2 < nn → e_Ok 20 elay ecode eI (d + 1) 328 (62, [(0, (1, 275)), (2, (0, y2)), (3, (0, y3))], [], v1) (fun r w' => r = [] ∧ e_fr mTq w w' ∧ tkS w' N ∧ t ≤ w' 275 86) := by
                  intro nn
                  induction nn with
                  | zero => intro y2 y3 v1 hj hm; obtain ⟨j37, j38, j40, j41, j42, j43, j44, j45⟩ := hj; exfalso; omega
                  | succ nn ih36 =>
                    intro y2 y3 v1 hj hm
                    obtain ⟨j37, j38, j40, j41, j42, j43, j44, j45⟩ := hj
                    refine e_Ok.run (t' := (63, [(0, (1, 275)), (2, (0, y2)), (3, (0, y3))], [(0, y2)], v1)) 1 rfl ?_
                    refine e_Ok.ps1 (x := (1, 357)) (q := 66) 1 rfl ?_
                    refine e_Ok.run (t' := (69, [(0, (1, 275)), (2, (0, y2)), (3, (0, y3))], [(0, 171), (0, y2)], v1)) 1 rfl ?_
                    refine e_Ok.if2 rfl (fun h46 => ?_) (fun h46 => ?_)
                    · replace h46 : (y2 : Int) ≥ 171 := h46
                      refine e_Ok.rets rfl rfl ?_
                      have et86 : v1 275 86 = t := j41
                      have et87 : v1 275 87 = y1 := j42
                      have et84 : v1 275 84 = v1 275 84 := rfl
                      have et85 : v1 275 85 = v1 275 85 := rfl
                      exact ⟨rfl, j37, by unfold tkS tkV; rw [et86, et87, et84, et85]; omega, by omega⟩
                    · replace h46 : (y2 : Int) < 171 := Int.not_le.mp (show ¬ ((y2 : Int) ≥ 171) from h46)
                      obtain ⟨e2, he2⟩ : ∃ e, (y2, e, y3) ∈ e_wst := by rcases j38 with g | g; exact absurd g (by omega); exact g
                      obtain ⟨hw1, hw2, hw3⟩ := ws_f he2
                      refine e_Ok.run (t' := (75, [(4, (0, 0)), (0, (1, 275)), (2, (0, y2)), (3, (0, y3))], [], v1)) 2 rfl ?_
                      have hL47 : ∀ (nn : Nat) (y4 : Int), 0 ≤ y4 ∧ y2 + y4 ≤ e2 → 171 - y4 < nn → e_Ok 20 elay ecode eI (d + 1) 328 (75, [(0, (1, 275)), (2, (0, y2)), (3, (0, y3)), (4, (0, y4))], [], v1) (fun r w' => r = [] ∧ e_fr mTq w w' ∧ tkS w' N ∧ t ≤ w' 275 86) := by
                        intro nn
                        induction nn with
                        | zero => intro y4 hj hm; obtain j49 := hj; exfalso; omega
                        | succ nn ih48 =>
                          intro y4 hj hm
                          obtain j49 := hj
                          refine e_Ok.run (t' := (78, [(0, (1, 275)), (2, (0, y2)), (3, (0, y3)), (4, (0, y4))], [(1, 357)], v1)) 1 rfl ?_
                          refine e_Ok.ps2 (x := (0, y4)) (y := (0, y2)) (q := 81) 2 rfl ?_
                          refine e_Ok.add (z := y2 + y4) rfl rfl (by omega) ?_
                          refine e_Ok.sc (by omega) rfl rfl ?_
                          have z50b := kyc_in (y2 + y4)
                          generalize hz50 : kyc (y2 + y4) = z50
                          rw [hz50] at z50b
                          refine e_Ok.run (t' := (87, [(0, (1, 275)), (2, (0, y2)), (3, (0, y3)), (4, (0, y4))], [(0, 32), (0, z50)], v1)) 1 rfl ?_
                          refine e_Ok.if2 rfl (fun h51 => ?_) (fun h51 => ?_)
                          · replace h51 : (z50 : Int) = 32 := h51
                            refine e_Ok.ps1 (x := (1, 357)) (q := 123) 1 rfl ?_
                            refine e_Ok.ps2 (x := (0, y4)) (y := (0, y2)) (q := 126) 2 rfl ?_
                            refine e_Ok.add (z := y2 + y4) rfl rfl (by omega) ?_
                            refine e_Ok.sc (by omega) rfl rfl ?_
                            have z52b := kyc_in (y2 + y4)
                            generalize hz52 : kyc (y2 + y4) = z52
                            rw [hz52] at z52b
                            refine e_Ok.run (t' := (132, [(0, (1, 275)), (2, (0, y2)), (3, (0, y3)), (4, (0, y4))], [(0, 32), (0, z52)], v1)) 1 rfl ?_
                            refine e_Ok.if2 rfl (fun h53 => ?_) (fun h53 => ?_)
                            · replace h53 : (z52 : Int) ≠ 32 := h53
                              have hL54 : ∀ (nn : Nat) (z2 : Int), y2 ≤ z2 ∧ z2 ≤ e2 → 171 - z2 < nn → e_Ok 20 elay ecode eI (d + 1) 328 (159, [(0, (1, 275)), (2, (0, z2)), (3, (0, y3))], [], v1) (fun r w' => r = [] ∧ e_fr mTq w w' ∧ tkS w' N ∧ t ≤ w' 275 86) := by
                                intro nn
                                induction nn with
                                | zero => intro z2 hj hm; obtain j56 := hj; exfalso; omega
                                | succ nn ih55 =>
                                  intro z2 hj hm
                                  obtain j56 := hj
                                  refine e_Ok.run (t' := (162, [(0, (1, 275)), (2, (0, z2)), (3, (0, y3))], [(1, 357)], v1)) 1 rfl ?_
                                  refine e_Ok.ps1 (x := (0, z2)) (q := 163) 1 rfl ?_
                                  refine e_Ok.sc (by omega) rfl rfl ?_
                                  have z57b := kyc_in (z2)
                                  generalize hz57 : kyc (z2) = z57
                                  rw [hz57] at z57b
                                  refine e_Ok.run (t' := (168, [(0, (1, 275)), (2, (0, z2)), (3, (0, y3))], [(0, 32), (0, z57)], v1)) 1 rfl ?_
                                  refine e_Ok.if2 rfl (fun h58 => ?_) (fun h58 => ?_)
                                  · replace h58 : (z57 : Int) = 32 := h58
                                    have hz2 : z2 = e2 := Decidable.byCases (p := z2 < e2) (fun e => absurd (show kyc z2 = 32 by rw [hz57]; omega) (hw3 _ (by omega) e)) (fun e => by omega)
                                    refine e_Ok.inc (z := z2 + 1) rfl rfl (by first | with_reducible rfl | omega) (by omega) ?_
                                    show e_Ok 20 elay ecode eI (d + 1) 328 (180, [(2, (0, z2 + 1)), (0, (1, 275)), (3, (0, y3))], [], v1) _
                                    refine e_Ok.inc (z := y3 + 1) rfl rfl (by first | with_reducible rfl | omega) (by omega) ?_
                                    show e_Ok 20 elay ecode eI (d + 1) 328 (183, [(3, (0, y3 + 1)), (2, (0, z2 + 1)), (0, (1, 275))], [], v1) _
                                    refine e_Ok.ps0 (q := 62) 1 rfl ?_
                                    refine e_Ok.sub eAlk (e_sub_of rfl ?_) (ih36 (z2 + 1) (y3 + 1) v1 ⟨j37, (by rcases hw2 with g | ⟨g1, g2⟩; exact Or.inl (by omega); exact Or.inr (by rw [show z2 + 1 = e2 + 1 by omega]; exact g2)), by omega, j41, j42, (by have u59 : v1 275 84 = v1 275 84 := rfl; omega), (by have u1 : v1 275 84 = v1 275 84 := rfl; have u2 : v1 275 85 = v1 275 85 := rfl; omega), (by have u1 : v1 275 84 = v1 275 84 := rfl; have u2 : v1 275 85 = v1 275 85 := rfl; omega)⟩ (by omega))
                                    exact ⟨rfl, rfl, rfl, trivial⟩
                                  · replace h58 : (z57 : Int) ≠ 32 := (show ¬ ((z57 : Int) = 32) from h58)
                                    have hlz : z2 ≠ e2 := fun e => by rw [e, hw1.2.2.2.2.2] at hz57; omega
                                    refine e_Ok.inc (z := z2 + 1) rfl rfl (by first | with_reducible rfl | omega) (by omega) ?_
                                    show e_Ok 20 elay ecode eI (d + 1) 328 (174, [(2, (0, z2 + 1)), (0, (1, 275)), (3, (0, y3))], [], v1) _
                                    refine e_Ok.ps0 (q := 159) 1 rfl ?_
                                    refine e_Ok.sub eAlk (e_sub_of rfl ?_) (ih55 (z2 + 1) (by omega) (by omega))
                                    exact ⟨rfl, rfl, rfl, trivial⟩
                              refine e_Ok.sub eAlk (e_sub_of rfl ?_) (hL54 (171 + 1 : Int).toNat y2 (by omega) (by omega))
                              exact ⟨rfl, rfl, rfl, trivial⟩
                            · replace h53 : (z52 : Int) = 32 := Classical.not_not.mp (show ¬ ((z52 : Int) ≠ 32) from h53)
                              have hk2 : 2 ≤ y4 := Decidable.byCases (p := y2 + y4 < e2) (fun e => absurd (show kyc (y2 + y4) = 32 by rw [hz52]; omega) (hw3 _ (by omega) e)) (fun e => by omega)
                              refine e_Ok.ps2 (x := (1, 275)) (y := (0, y4)) (q := 138) 2 rfl ?_
                              refine e_Ok.getf (z := y1) rfl (el_o rfl) rfl (ef_o rfl) j42 (by omega) ?_
                              refine e_Ok.ps1 (x := (1, 275)) (q := 142) 1 rfl ?_
                              refine e_Ok.getf (z := t) rfl (el_o rfl) rfl (ef_o rfl) j41 (by omega) ?_
                              refine e_Ok.sub' (z := y1 - t) rfl rfl (by omega) ?_
                              refine e_Ok.if2 rfl (fun h60 => ?_) (fun h60 => ?_)
                              · replace h60 : (y4 : Int) ≠ y1 - t := h60
                                have hL61 : ∀ (nn : Nat) (z2 : Int), y2 ≤ z2 ∧ z2 ≤ e2 → 171 - z2 < nn → e_Ok 20 elay ecode eI (d + 1) 328 (159, [(0, (1, 275)), (2, (0, z2)), (3, (0, y3))], [], v1) (fun r w' => r = [] ∧ e_fr mTq w w' ∧ tkS w' N ∧ t ≤ w' 275 86) := by
                                  intro nn
                                  induction nn with
                                  | zero => intro z2 hj hm; obtain j63 := hj; exfalso; omega
                                  | succ nn ih62 =>
                                    intro z2 hj hm
                                    obtain j63 := hj
                                    refine e_Ok.run (t' := (162, [(0, (1, 275)), (2, (0, z2)), (3, (0, y3))], [(1, 357)], v1)) 1 rfl ?_
                                    refine e_Ok.ps1 (x := (0, z2)) (q := 163) 1 rfl ?_
                                    refine e_Ok.sc (by omega) rfl rfl ?_
                                    have z64b := kyc_in (z2)
                                    generalize hz64 : kyc (z2) = z64
                                    rw [hz64] at z64b
                                    refine e_Ok.run (t' := (168, [(0, (1, 275)), (2, (0, z2)), (3, (0, y3))], [(0, 32), (0, z64)], v1)) 1 rfl ?_
                                    refine e_Ok.if2 rfl (fun h65 => ?_) (fun h65 => ?_)
                                    · replace h65 : (z64 : Int) = 32 := h65
                                      have hz2 : z2 = e2 := Decidable.byCases (p := z2 < e2) (fun e => absurd (show kyc z2 = 32 by rw [hz64]; omega) (hw3 _ (by omega) e)) (fun e => by omega)
                                      refine e_Ok.inc (z := z2 + 1) rfl rfl (by first | with_reducible rfl | omega) (by omega) ?_
                                      show e_Ok 20 elay ecode eI (d + 1) 328 (180, [(2, (0, z2 + 1)), (0, (1, 275)), (3, (0, y3))], [], v1) _
                                      refine e_Ok.inc (z := y3 + 1) rfl rfl (by first | with_reducible rfl | omega) (by omega) ?_
                                      show e_Ok 20 elay ecode eI (d + 1) 328 (183, [(3, (0, y3 + 1)), (2, (0, z2 + 1)), (0, (1, 275))], [], v1) _
                                      refine e_Ok.ps0 (q := 62) 1 rfl ?_
                                      refine e_Ok.sub eAlk (e_sub_of rfl ?_) (ih36 (z2 + 1) (y3 + 1) v1 ⟨j37, (by rcases hw2 with g | ⟨g1, g2⟩; exact Or.inl (by omega); exact Or.inr (by rw [show z2 + 1 = e2 + 1 by omega]; exact g2)), by omega, j41, j42, (by have u66 : v1 275 84 = v1 275 84 := rfl; omega), (by have u1 : v1 275 84 = v1 275 84 := rfl; have u2 : v1 275 85 = v1 275 85 := rfl; omega), (by have u1 : v1 275 84 = v1 275 84 := rfl; have u2 : v1 275 85 = v1 275 85 := rfl; omega)⟩ (by omega))
                                      exact ⟨rfl, rfl, rfl, trivial⟩
                                    · replace h65 : (z64 : Int) ≠ 32 := (show ¬ ((z64 : Int) = 32) from h65)
                                      have hlz : z2 ≠ e2 := fun e => by rw [e, hw1.2.2.2.2.2] at hz64; omega
                                      refine e_Ok.inc (z := z2 + 1) rfl rfl (by first | with_reducible rfl | omega) (by omega) ?_
                                      show e_Ok 20 elay ecode eI (d + 1) 328 (174, [(2, (0, z2 + 1)), (0, (1, 275)), (3, (0, y3))], [], v1) _
                                      refine e_Ok.ps0 (q := 159) 1 rfl ?_
                                      refine e_Ok.sub eAlk (e_sub_of rfl ?_) (ih62 (z2 + 1) (by omega) (by omega))
                                      exact ⟨rfl, rfl, rfl, trivial⟩
                                refine e_Ok.sub eAlk (e_sub_of rfl ?_) (hL61 (171 + 1 : Int).toNat y2 (by omega) (by omega))
                                exact ⟨rfl, rfl, rfl, trivial⟩
                              · replace h60 : (y4 : Int) = y1 - t := Classical.not_not.mp (show ¬ ((y4 : Int) ≠ y1 - t) from h60)
                                refine e_Ok.ps2 (x := (0, 4)) (y := (1, 275)) (q := 151) 2 rfl ?_
                                refine e_Ok.putf rfl (el_o rfl) rfl (ef_o rfl) ?_
                                generalize hw67 : e_up v1 275 84 4 = w67
                                refine e_Ok.ps2 (x := (0, y3)) (y := (1, 275)) (q := 156) 2 rfl ?_
                                refine e_Ok.putf rfl (el_o rfl) rfl (ef_o rfl) ?_
                                generalize hw69 : e_up w67 275 85 y3 = w69
                                have hL71 : ∀ (nn : Nat) (z2 : Int), y2 ≤ z2 ∧ z2 ≤ e2 → 171 - z2 < nn → e_Ok 20 elay ecode eI (d + 1) 328 (159, [(0, (1, 275)), (2, (0, z2)), (3, (0, y3))], [], w69) (fun r w' => r = [] ∧ e_fr mTq w w' ∧ tkS w' N ∧ t ≤ w' 275 86) := by
                                  intro nn
                                  induction nn with
                                  | zero => intro z2 hj hm; obtain j73 := hj; exfalso; omega
                                  | succ nn ih72 =>
                                    intro z2 hj hm
                                    obtain j73 := hj
                                    refine e_Ok.run (t' := (162, [(0, (1, 275)), (2, (0, z2)), (3, (0, y3))], [(1, 357)], w69)) 1 rfl ?_
                                    refine e_Ok.ps1 (x := (0, z2)) (q := 163) 1 rfl ?_
                                    refine e_Ok.sc (by omega) rfl rfl ?_
                                    have z74b := kyc_in (z2)
                                    generalize hz74 : kyc (z2) = z74
                                    rw [hz74] at z74b
                                    refine e_Ok.run (t' := (168, [(0, (1, 275)), (2, (0, z2)), (3, (0, y3))], [(0, 32), (0, z74)], w69)) 1 rfl ?_
                                    refine e_Ok.if2 rfl (fun h75 => ?_) (fun h75 => ?_)
                                    · replace h75 : (z74 : Int) = 32 := h75
                                      have hz2 : z2 = e2 := Decidable.byCases (p := z2 < e2) (fun e => absurd (show kyc z2 = 32 by rw [hz74]; omega) (hw3 _ (by omega) e)) (fun e => by omega)
                                      refine e_Ok.inc (z := z2 + 1) rfl rfl (by first | with_reducible rfl | omega) (by omega) ?_
                                      show e_Ok 20 elay ecode eI (d + 1) 328 (180, [(2, (0, z2 + 1)), (0, (1, 275)), (3, (0, y3))], [], w69) _
                                      refine e_Ok.inc (z := y3 + 1) rfl rfl (by first | with_reducible rfl | omega) (by omega) ?_
                                      show e_Ok 20 elay ecode eI (d + 1) 328 (183, [(3, (0, y3 + 1)), (2, (0, z2 + 1)), (0, (1, 275))], [], w69) _
                                      refine e_Ok.ps0 (q := 62) 1 rfl ?_
                                      refine e_Ok.sub eAlk (e_sub_of rfl ?_) (ih36 (z2 + 1) (y3 + 1) w69 ⟨(show e_fr mTq w w69 from e_fr.up (show e_fr mTq w w67 from e_fr.up j37 hw67 (by first | exact ⟨rfl, ⟨(by decide), (by decide)⟩⟩ | (unfold mTq; omega))) hw69 (by first | exact ⟨rfl, ⟨(by decide), (by decide)⟩⟩ | (unfold mTq; omega))), (by rcases hw2 with g | ⟨g1, g2⟩; exact Or.inl (by omega); exact Or.inr (by rw [show z2 + 1 = e2 + 1 by omega]; exact g2)), by omega, (e_uq hw69 (Or.inr (by first | decide | omega)) (e_uq hw67 (Or.inr (by first | decide | omega)) j41)), (e_uq hw69 (Or.inr (by first | decide | omega)) (e_uq hw67 (Or.inr (by first | decide | omega)) j42)), (by have u76 : w69 275 84 = 4 := (e_uq hw69 (Or.inr (by first | decide | omega)) (e_ue hw67)); omega), (by have u1 : w69 275 84 = 4 := (e_uq hw69 (Or.inr (by first | decide | omega)) (e_ue hw67)); have u2 : w69 275 85 = y3 := (e_ue hw69); omega), (by have u1 : w69 275 84 = 4 := (e_uq hw69 (Or.inr (by first | decide | omega)) (e_ue hw67)); have u2 : w69 275 85 = y3 := (e_ue hw69); omega)⟩ (by omega))
                                      exact ⟨rfl, rfl, rfl, trivial⟩
                                    · replace h75 : (z74 : Int) ≠ 32 := (show ¬ ((z74 : Int) = 32) from h75)
                                      have hlz : z2 ≠ e2 := fun e => by rw [e, hw1.2.2.2.2.2] at hz74; omega
                                      refine e_Ok.inc (z := z2 + 1) rfl rfl (by first | with_reducible rfl | omega) (by omega) ?_
                                      show e_Ok 20 elay ecode eI (d + 1) 328 (174, [(2, (0, z2 + 1)), (0, (1, 275)), (3, (0, y3))], [], w69) _
                                      refine e_Ok.ps0 (q := 159) 1 rfl ?_
                                      refine e_Ok.sub eAlk (e_sub_of rfl ?_) (ih72 (z2 + 1) (by omega) (by omega))
                                      exact ⟨rfl, rfl, rfl, trivial⟩
                                refine e_Ok.sub eAlk (e_sub_of rfl ?_) (hL71 (171 + 1 : Int).toNat y2 (by omega) (by omega))
                                exact ⟨rfl, rfl, rfl, trivial⟩
                          · replace h51 : (z50 : Int) ≠ 32 := (show ¬ ((z50 : Int) = 32) from h51)
                            have hlt : y2 + y4 ≠ e2 := fun e => by rw [e, hw1.2.2.2.2.2] at hz50; omega
                            refine e_Ok.ps1 (x := (1, 357)) (q := 93) 1 rfl ?_
                            refine e_Ok.ps2 (x := (0, y4)) (y := (0, y2)) (q := 96) 2 rfl ?_
                            refine e_Ok.add (z := y2 + y4) rfl rfl (by omega) ?_
                            refine e_Ok.sc (by omega) rfl rfl ?_
                            have z77b := kyc_in (y2 + y4)
                            generalize hz77 : kyc (y2 + y4) = z77
                            rw [hz77] at z77b
                            refine e_Ok.run (t' := (102, [(0, (1, 275)), (2, (0, y2)), (3, (0, y3)), (4, (0, y4))], [(1, 275), (1, 275), (0, z77)], v1)) 2 rfl ?_
                            refine e_Ok.getf (z := t) rfl (el_o rfl) rfl (ef_o rfl) j41 (by omega) ?_
                            refine e_Ok.ps1 (x := (0, y4)) (q := 107) 1 rfl ?_
                            refine e_Ok.add (z := t + y4) rfl rfl (by omega) ?_
                            refine e_Ok.callV rfl (e_dq hd rfl) rfl rfl rfl rfl (c_326 (mT_Tq j37 hT) (hT_Tq j37 hH) (((j37 275 9 no_9w_0).trans hN)) hNr (by omega)) (fun r78 w79 h80 => ?_)
                            obtain ⟨z81, rfl, rfl, q82⟩ := h80
                            refine e_Ok.nrm (q := 111) (st' := [(0, z81), (0, z77)]) rfl rfl ?_
                            refine e_Ok.if2 rfl (fun h83 => ?_) (fun h83 => ?_)
                            · replace h83 : (z77 : Int) ≠ z81 := h83
                              refine e_Ok.ps1 (x := (1, 357)) (q := 123) 1 rfl ?_
                              refine e_Ok.ps2 (x := (0, y4)) (y := (0, y2)) (q := 126) 2 rfl ?_
                              refine e_Ok.add (z := y2 + y4) rfl rfl (by omega) ?_
                              refine e_Ok.sc (by omega) rfl rfl ?_
                              have z84b := kyc_in (y2 + y4)
                              generalize hz84 : kyc (y2 + y4) = z84
                              rw [hz84] at z84b
                              refine e_Ok.run (t' := (132, [(0, (1, 275)), (2, (0, y2)), (3, (0, y3)), (4, (0, y4))], [(0, 32), (0, z84)], v1)) 1 rfl ?_
                              refine e_Ok.if2 rfl (fun h85 => ?_) (fun h85 => ?_)
                              · replace h85 : (z84 : Int) ≠ 32 := h85
                                have hL86 : ∀ (nn : Nat) (z2 : Int), y2 ≤ z2 ∧ z2 ≤ e2 → 171 - z2 < nn → e_Ok 20 elay ecode eI (d + 1) 328 (159, [(0, (1, 275)), (2, (0, z2)), (3, (0, y3))], [], v1) (fun r w' => r = [] ∧ e_fr mTq w w' ∧ tkS w' N ∧ t ≤ w' 275 86) := by
                                  intro nn
                                  induction nn with
                                  | zero => intro z2 hj hm; obtain j88 := hj; exfalso; omega
                                  | succ nn ih87 =>
                                    intro z2 hj hm
                                    obtain j88 := hj
                                    refine e_Ok.run (t' := (162, [(0, (1, 275)), (2, (0, z2)), (3, (0, y3))], [(1, 357)], v1)) 1 rfl ?_
                                    refine e_Ok.ps1 (x := (0, z2)) (q := 163) 1 rfl ?_
                                    refine e_Ok.sc (by omega) rfl rfl ?_
                                    have z89b := kyc_in (z2)
                                    generalize hz89 : kyc (z2) = z89
                                    rw [hz89] at z89b
                                    refine e_Ok.run (t' := (168, [(0, (1, 275)), (2, (0, z2)), (3, (0, y3))], [(0, 32), (0, z89)], v1)) 1 rfl ?_
                                    refine e_Ok.if2 rfl (fun h90 => ?_) (fun h90 => ?_)
                                    · replace h90 : (z89 : Int) = 32 := h90
                                      have hz2 : z2 = e2 := Decidable.byCases (p := z2 < e2) (fun e => absurd (show kyc z2 = 32 by rw [hz89]; omega) (hw3 _ (by omega) e)) (fun e => by omega)
                                      refine e_Ok.inc (z := z2 + 1) rfl rfl (by first | with_reducible rfl | omega) (by omega) ?_
                                      show e_Ok 20 elay ecode eI (d + 1) 328 (180, [(2, (0, z2 + 1)), (0, (1, 275)), (3, (0, y3))], [], v1) _
                                      refine e_Ok.inc (z := y3 + 1) rfl rfl (by first | with_reducible rfl | omega) (by omega) ?_
                                      show e_Ok 20 elay ecode eI (d + 1) 328 (183, [(3, (0, y3 + 1)), (2, (0, z2 + 1)), (0, (1, 275))], [], v1) _
                                      refine e_Ok.ps0 (q := 62) 1 rfl ?_
                                      refine e_Ok.sub eAlk (e_sub_of rfl ?_) (ih36 (z2 + 1) (y3 + 1) v1 ⟨j37, (by rcases hw2 with g | ⟨g1, g2⟩; exact Or.inl (by omega); exact Or.inr (by rw [show z2 + 1 = e2 + 1 by omega]; exact g2)), by omega, j41, j42, (by have u91 : v1 275 84 = v1 275 84 := rfl; omega), (by have u1 : v1 275 84 = v1 275 84 := rfl; have u2 : v1 275 85 = v1 275 85 := rfl; omega), (by have u1 : v1 275 84 = v1 275 84 := rfl; have u2 : v1 275 85 = v1 275 85 := rfl; omega)⟩ (by omega))
                                      exact ⟨rfl, rfl, rfl, trivial⟩
                                    · replace h90 : (z89 : Int) ≠ 32 := (show ¬ ((z89 : Int) = 32) from h90)
                                      have hlz : z2 ≠ e2 := fun e => by rw [e, hw1.2.2.2.2.2] at hz89; omega
                                      refine e_Ok.inc (z := z2 + 1) rfl rfl (by first | with_reducible rfl | omega) (by omega) ?_
                                      show e_Ok 20 elay ecode eI (d + 1) 328 (174, [(2, (0, z2 + 1)), (0, (1, 275)), (3, (0, y3))], [], v1) _
                                      refine e_Ok.ps0 (q := 159) 1 rfl ?_
                                      refine e_Ok.sub eAlk (e_sub_of rfl ?_) (ih87 (z2 + 1) (by omega) (by omega))
                                      exact ⟨rfl, rfl, rfl, trivial⟩
                                refine e_Ok.sub eAlk (e_sub_of rfl ?_) (hL86 (171 + 1 : Int).toNat y2 (by omega) (by omega))
                                exact ⟨rfl, rfl, rfl, trivial⟩
                              · replace h85 : (z84 : Int) = 32 := Classical.not_not.mp (show ¬ ((z84 : Int) ≠ 32) from h85)
                                have hk2 : 2 ≤ y4 := Decidable.byCases (p := y2 + y4 < e2) (fun e => absurd (show kyc (y2 + y4) = 32 by rw [hz84]; omega) (hw3 _ (by omega) e)) (fun e => by omega)
                                refine e_Ok.ps2 (x := (1, 275)) (y := (0, y4)) (q := 138) 2 rfl ?_
                                refine e_Ok.getf (z := y1) rfl (el_o rfl) rfl (ef_o rfl) j42 (by omega) ?_
                                refine e_Ok.ps1 (x := (1, 275)) (q := 142) 1 rfl ?_
                                refine e_Ok.getf (z := t) rfl (el_o rfl) rfl (ef_o rfl) j41 (by omega) ?_
                                refine e_Ok.sub' (z := y1 - t) rfl rfl (by omega) ?_
                                refine e_Ok.if2 rfl (fun h92 => ?_) (fun h92 => ?_)
                                · replace h92 : (y4 : Int) ≠ y1 - t := h92
                                  have hL93 : ∀ (nn : Nat) (z2 : Int), y2 ≤ z2 ∧ z2 ≤ e2 → 171 - z2 < nn → e_Ok 20 elay ecode eI (d + 1) 328 (159, [(0, (1, 275)), (2, (0, z2)), (3, (0, y3))], [], v1) (fun r w' => r = [] ∧ e_fr mTq w w' ∧ tkS w' N ∧ t ≤ w' 275 86) := by
                                    intro nn
                                    induction nn with
                                    | zero => intro z2 hj hm; obtain j95 := hj; exfalso; omega
                                    | succ nn ih94 =>
                                      intro z2 hj hm
                                      obtain j95 := hj
                                      refine e_Ok.run (t' := (162, [(0, (1, 275)), (2, (0, z2)), (3, (0, y3))], [(1, 357)], v1)) 1 rfl ?_
                                      refine e_Ok.ps1 (x := (0, z2)) (q := 163) 1 rfl ?_
                                      refine e_Ok.sc (by omega) rfl rfl ?_
                                      have z101b := kyc_in (z2)
                                      generalize hz101 : kyc (z2) = z101
                                      rw [hz101] at z101b
                                      refine e_Ok.run (t' := (168, [(0, (1, 275)), (2, (0, z2)), (3, (0, y3))], [(0, 32), (0, z101)], v1)) 1 rfl ?_
                                      refine e_Ok.if2 rfl (fun h103 => ?_) (fun h103 => ?_)
                                      · replace h103 : (z101 : Int) = 32 := h103
                                        have hz2 : z2 = e2 := Decidable.byCases (p := z2 < e2) (fun e => absurd (show kyc z2 = 32 by rw [hz101]; omega) (hw3 _ (by omega) e)) (fun e => by omega)
                                        refine e_Ok.inc (z := z2 + 1) rfl rfl (by first | with_reducible rfl | omega) (by omega) ?_
                                        show e_Ok 20 elay ecode eI (d + 1) 328 (180, [(2, (0, z2 + 1)), (0, (1, 275)), (3, (0, y3))], [], v1) _
                                        refine e_Ok.inc (z := y3 + 1) rfl rfl (by first | with_reducible rfl | omega) (by omega) ?_
                                        show e_Ok 20 elay ecode eI (d + 1) 328 (183, [(3, (0, y3 + 1)), (2, (0, z2 + 1)), (0, (1, 275))], [], v1) _
                                        refine e_Ok.ps0 (q := 62) 1 rfl ?_
                                        refine e_Ok.sub eAlk (e_sub_of rfl ?_) (ih36 (z2 + 1) (y3 + 1) v1 ⟨j37, (by rcases hw2 with g | ⟨g1, g2⟩; exact Or.inl (by omega); exact Or.inr (by rw [show z2 + 1 = e2 + 1 by omega]; exact g2)), by omega, j41, j42, (by have u104 : v1 275 84 = v1 275 84 := rfl; omega), (by have u1 : v1 275 84 = v1 275 84 := rfl; have u2 : v1 275 85 = v1 275 85 := rfl; omega), (by have u1 : v1 275 84 = v1 275 84 := rfl; have u2 : v1 275 85 = v1 275 85 := rfl; omega)⟩ (by omega))
                                        exact ⟨rfl, rfl, rfl, trivial⟩
                                      · replace h103 : (z101 : Int) ≠ 32 := (show ¬ ((z101 : Int) = 32) from h103)
                                        have hlz : z2 ≠ e2 := fun e => by rw [e, hw1.2.2.2.2.2] at hz101; omega
                                        refine e_Ok.inc (z := z2 + 1) rfl rfl (by first | with_reducible rfl | omega) (by omega) ?_
                                        show e_Ok 20 elay ecode eI (d + 1) 328 (174, [(2, (0, z2 + 1)), (0, (1, 275)), (3, (0, y3))], [], v1) _
                                        refine e_Ok.ps0 (q := 159) 1 rfl ?_
                                        refine e_Ok.sub eAlk (e_sub_of rfl ?_) (ih94 (z2 + 1) (by omega) (by omega))
                                        exact ⟨rfl, rfl, rfl, trivial⟩
                                  refine e_Ok.sub eAlk (e_sub_of rfl ?_) (hL93 (171 + 1 : Int).toNat y2 (by omega) (by omega))
                                  exact ⟨rfl, rfl, rfl, trivial⟩
                                · replace h92 : (y4 : Int) = y1 - t := Classical.not_not.mp (show ¬ ((y4 : Int) ≠ y1 - t) from h92)
                                  refine e_Ok.ps2 (x := (0, 4)) (y := (1, 275)) (q := 151) 2 rfl ?_
                                  refine e_Ok.putf rfl (el_o rfl) rfl (ef_o rfl) ?_
                                  generalize hw105 : e_up v1 275 84 4 = w105
                                  refine e_Ok.ps2 (x := (0, y3)) (y := (1, 275)) (q := 156) 2 rfl ?_
                                  refine e_Ok.putf rfl (el_o rfl) rfl (ef_o rfl) ?_
                                  generalize hw107 : e_up w105 275 85 y3 = w107
                                  have hL109 : ∀ (nn : Nat) (z2 : Int), y2 ≤ z2 ∧ z2 ≤ e2 → 171 - z2 < nn → e_Ok 20 elay ecode eI (d + 1) 328 (159, [(0, (1, 275)), (2, (0, z2)), (3, (0, y3))], [], w107) (fun r w' => r = [] ∧ e_fr mTq w w' ∧ tkS w' N ∧ t ≤ w' 275 86) := by
                                    intro nn
                                    induction nn with
                                    | zero => intro z2 hj hm; obtain j111 := hj; exfalso; omega
                                    | succ nn ih110 =>
                                      intro z2 hj hm
                                      obtain j111 := hj
                                      refine e_Ok.run (t' := (162, [(0, (1, 275)), (2, (0, z2)), (3, (0, y3))], [(1, 357)], w107)) 1 rfl ?_
                                      refine e_Ok.ps1 (x := (0, z2)) (q := 163) 1 rfl ?_
                                      refine e_Ok.sc (by omega) rfl rfl ?_
                                      have z112b := kyc_in (z2)
                                      generalize hz112 : kyc (z2) = z112
                                      rw [hz112] at z112b
                                      refine e_Ok.run (t' := (168, [(0, (1, 275)), (2, (0, z2)), (3, (0, y3))], [(0, 32), (0, z112)], w107)) 1 rfl ?_
                                      refine e_Ok.if2 rfl (fun h113 => ?_) (fun h113 => ?_)
                                      · replace h113 : (z112 : Int) = 32 := h113
                                        have hz2 : z2 = e2 := Decidable.byCases (p := z2 < e2) (fun e => absurd (show kyc z2 = 32 by rw [hz112]; omega) (hw3 _ (by omega) e)) (fun e => by omega)
                                        refine e_Ok.inc (z := z2 + 1) rfl rfl (by first | with_reducible rfl | omega) (by omega) ?_
                                        show e_Ok 20 elay ecode eI (d + 1) 328 (180, [(2, (0, z2 + 1)), (0, (1, 275)), (3, (0, y3))], [], w107) _
                                        refine e_Ok.inc (z := y3 + 1) rfl rfl (by first | with_reducible rfl | omega) (by omega) ?_
                                        show e_Ok 20 elay ecode eI (d + 1) 328 (183, [(3, (0, y3 + 1)), (2, (0, z2 + 1)), (0, (1, 275))], [], w107) _
                                        refine e_Ok.ps0 (q := 62) 1 rfl ?_
                                        refine e_Ok.sub eAlk (e_sub_of rfl ?_) (ih36 (z2 + 1) (y3 + 1) w107 ⟨(show e_fr mTq w w107 from e_fr.up (show e_fr mTq w w105 from e_fr.up j37 hw105 (by first | exact ⟨rfl, ⟨(by decide), (by decide)⟩⟩ | (unfold mTq; omega))) hw107 (by first | exact ⟨rfl, ⟨(by decide), (by decide)⟩⟩ | (unfold mTq; omega))), (by rcases hw2 with g | ⟨g1, g2⟩; exact Or.inl (by omega); exact Or.inr (by rw [show z2 + 1 = e2 + 1 by omega]; exact g2)), by omega, (e_uq hw107 (Or.inr (by first | decide | omega)) (e_uq hw105 (Or.inr (by first | decide | omega)) j41)), (e_uq hw107 (Or.inr (by first | decide | omega)) (e_uq hw105 (Or.inr (by first | decide | omega)) j42)), (by have u114 : w107 275 84 = 4 := (e_uq hw107 (Or.inr (by first | decide | omega)) (e_ue hw105)); omega), (by have u1 : w107 275 84 = 4 := (e_uq hw107 (Or.inr (by first | decide | omega)) (e_ue hw105)); have u2 : w107 275 85 = y3 := (e_ue hw107); omega), (by have u1 : w107 275 84 = 4 := (e_uq hw107 (Or.inr (by first | decide | omega)) (e_ue hw105)); have u2 : w107 275 85 = y3 := (e_ue hw107); omega)⟩ (by omega))
                                        exact ⟨rfl, rfl, rfl, trivial⟩
                                      · replace h113 : (z112 : Int) ≠ 32 := (show ¬ ((z112 : Int) = 32) from h113)
                                        have hlz : z2 ≠ e2 := fun e => by rw [e, hw1.2.2.2.2.2] at hz112; omega
                                        refine e_Ok.inc (z := z2 + 1) rfl rfl (by first | with_reducible rfl | omega) (by omega) ?_
                                        show e_Ok 20 elay ecode eI (d + 1) 328 (174, [(2, (0, z2 + 1)), (0, (1, 275)), (3, (0, y3))], [], w107) _
                                        refine e_Ok.ps0 (q := 159) 1 rfl ?_
                                        refine e_Ok.sub eAlk (e_sub_of rfl ?_) (ih110 (z2 + 1) (by omega) (by omega))
                                        exact ⟨rfl, rfl, rfl, trivial⟩
                                  refine e_Ok.sub eAlk (e_sub_of rfl ?_) (hL109 (171 + 1 : Int).toNat y2 (by omega) (by omega))
                                  exact ⟨rfl, rfl, rfl, trivial⟩
                            · replace h83 : (z77 : Int) = z81 := Classical.not_not.mp (show ¬ ((z77 : Int) ≠ z81) from h83)
                              refine e_Ok.inc (z := y4 + 1) rfl rfl (by first | with_reducible rfl | omega) (by omega) ?_
                              show e_Ok 20 elay ecode eI (d + 1) 328 (117, [(4, (0, y4 + 1)), (0, (1, 275)), (2, (0, y2)), (3, (0, y3))], [], v1) _
                              refine e_Ok.ps0 (q := 75) 1 rfl ?_
                              refine e_Ok.sub eAlk (e_sub_of rfl ?_) (ih48 (y4 + 1) (by omega) (by omega))
                              exact ⟨rfl, rfl, rfl, rfl, trivial⟩
                      refine e_Ok.sub eAlk (e_sub_of rfl ?_) (hL47 (171 + 1 : Int).toNat 0 (by omega) (by omega))
                      exact ⟨rfl, rfl, rfl, rfl, trivial⟩
                refine e_Ok.sub eAlk (e_sub_of rfl ?_) (hL35 (172 + 1 : Int).toNat 0 0 w32 ⟨(show e_fr mTq w w32 from e_fr.up f30 hw32 (by first | exact ⟨rfl, ⟨(by decide), (by decide)⟩⟩ | (unfold mTq; omega))), (Or.inr ⟨3, by decide⟩), by omega, (e_uq hw32 (Or.inr (by first | decide | omega)) (e_uq hw29 (Or.inr (by first | decide | omega)) ht)), (e_uq hw32 (Or.inr (by first | decide | omega)) (e_ue hw29)), (by have u34 : w32 275 84 = 1 := (e_ue hw32); omega), (by have u1 : w32 275 84 = 1 := (e_ue hw32); have u2 : w32 275 85 = w 275 85 := (e_uq hw32 (Or.inr (by first | decide | omega)) (e_uq hw29 (Or.inr (by first | decide | omega)) rfl)); omega), (by have u1 : w32 275 84 = 1 := (e_ue hw32); have u2 : w32 275 85 = w 275 85 := (e_uq hw32 (Or.inr (by first | decide | omega)) (e_uq hw29 (Or.inr (by first | decide | omega)) rfl)); omega)⟩ (by omega))
                exact ⟨rfl, rfl, rfl, trivial⟩
              · replace h31 : (y1 - t : Int) > 24 := Int.not_le.mp (show ¬ ((y1 - t : Int) ≤ 24) from h31)
                refine e_Ok.ps1 (x := (0, 5)) (q := 55) 2 rfl ?_
                refine e_Ok.putf rfl (el_o rfl) rfl (ef_o rfl) ?_
                generalize hw115 : e_up w29 275 84 5 = w115
                refine e_Ok.run (t' := (62, [(3, (0, 0)), (2, (0, 0)), (0, (1, 275)), (1, (0, y1))], [], w115)) 4 rfl ?_
                have hL118 : ∀ (nn : Nat) (y2 : Int) (y3 : Int) (v1 : eW), e_fr mTq w v1 ∧ (y2 = 171 ∨ ∃ e, (y2, e, y3) ∈ e_wst) ∧ ((0 ≤ y2 ∧ y2 ≤ 171 ∧ 0 ≤ y3 ∧ y3 ≤ 33)) ∧ v1 275 86 = t ∧ v1 275 87 = y1 ∧ ((1 ≤ v1 275 84 ∧ v1 275 84 ≤ 5)) ∧ ((v1 275 84 = 4 → t + 2 ≤ y1 ∧ 0 ≤ v1 275 85 ∧ v1 275 85 ≤ 32)) ∧ ((-2147483648 ≤ v1 275 85 ∧ v1 275 85 ≤ 2147483647)) → 172 - y2 < nn → e_Ok 20 elay ecode eI (d + 1) 328 (62, [(0, (1, 275)), (2, (0, y2)), (3, (0, y3))], [], v1) (fun r w' => r = [] ∧ e_fr mTq w w' ∧ tkS w' N ∧ t ≤ w' 275 86) := by
                  intro nn
                  induction nn with
                  | zero => intro y2 y3 v1 hj hm; obtain ⟨j120, j121, j122, j123, j124, j125, j126, j127⟩ := hj; exfalso; omega
                  | succ nn ih119 =>
                    intro y2 y3 v1 hj hm
                    obtain ⟨j120, j121, j122, j123, j124, j125, j126, j127⟩ := hj
                    refine e_Ok.run (t' := (63, [(0, (1, 275)), (2, (0, y2)), (3, (0, y3))], [(0, y2)], v1)) 1 rfl ?_
                    refine e_Ok.ps1 (x := (1, 357)) (q := 66) 1 rfl ?_
                    refine e_Ok.run (t' := (69, [(0, (1, 275)), (2, (0, y2)), (3, (0, y3))], [(0, 171), (0, y2)], v1)) 1 rfl ?_
                    refine e_Ok.if2 rfl (fun h128 => ?_) (fun h128 => ?_)
                    · replace h128 : (y2 : Int) ≥ 171 := h128
                      refine e_Ok.rets rfl rfl ?_
                      have et86 : v1 275 86 = t := j123
                      have et87 : v1 275 87 = y1 := j124
                      have et84 : v1 275 84 = v1 275 84 := rfl
                      have et85 : v1 275 85 = v1 275 85 := rfl
                      exact ⟨rfl, j120, by unfold tkS tkV; rw [et86, et87, et84, et85]; omega, by omega⟩
                    · replace h128 : (y2 : Int) < 171 := Int.not_le.mp (show ¬ ((y2 : Int) ≥ 171) from h128)
                      obtain ⟨e2, he2⟩ : ∃ e, (y2, e, y3) ∈ e_wst := by rcases j121 with g | g; exact absurd g (by omega); exact g
                      obtain ⟨hw1, hw2, hw3⟩ := ws_f he2
                      refine e_Ok.run (t' := (75, [(4, (0, 0)), (0, (1, 275)), (2, (0, y2)), (3, (0, y3))], [], v1)) 2 rfl ?_
                      have hL129 : ∀ (nn : Nat) (y4 : Int), 0 ≤ y4 ∧ y2 + y4 ≤ e2 → 171 - y4 < nn → e_Ok 20 elay ecode eI (d + 1) 328 (75, [(0, (1, 275)), (2, (0, y2)), (3, (0, y3)), (4, (0, y4))], [], v1) (fun r w' => r = [] ∧ e_fr mTq w w' ∧ tkS w' N ∧ t ≤ w' 275 86) := by
                        intro nn
                        induction nn with
                        | zero => intro y4 hj hm; obtain j131 := hj; exfalso; omega
                        | succ nn ih130 =>
                          intro y4 hj hm
                          obtain j131 := hj
                          refine e_Ok.run (t' := (78, [(0, (1, 275)), (2, (0, y2)), (3, (0, y3)), (4, (0, y4))], [(1, 357)], v1)) 1 rfl ?_
                          refine e_Ok.ps2 (x := (0, y4)) (y := (0, y2)) (q := 81) 2 rfl ?_
                          refine e_Ok.add (z := y2 + y4) rfl rfl (by omega) ?_
                          refine e_Ok.sc (by omega) rfl rfl ?_
                          have z132b := kyc_in (y2 + y4)
                          generalize hz132 : kyc (y2 + y4) = z132
                          rw [hz132] at z132b
                          refine e_Ok.run (t' := (87, [(0, (1, 275)), (2, (0, y2)), (3, (0, y3)), (4, (0, y4))], [(0, 32), (0, z132)], v1)) 1 rfl ?_
                          refine e_Ok.if2 rfl (fun h133 => ?_) (fun h133 => ?_)
                          · replace h133 : (z132 : Int) = 32 := h133
                            refine e_Ok.ps1 (x := (1, 357)) (q := 123) 1 rfl ?_
                            refine e_Ok.ps2 (x := (0, y4)) (y := (0, y2)) (q := 126) 2 rfl ?_
                            refine e_Ok.add (z := y2 + y4) rfl rfl (by omega) ?_
                            refine e_Ok.sc (by omega) rfl rfl ?_
                            have z134b := kyc_in (y2 + y4)
                            generalize hz134 : kyc (y2 + y4) = z134
                            rw [hz134] at z134b
                            refine e_Ok.run (t' := (132, [(0, (1, 275)), (2, (0, y2)), (3, (0, y3)), (4, (0, y4))], [(0, 32), (0, z134)], v1)) 1 rfl ?_
                            refine e_Ok.if2 rfl (fun h135 => ?_) (fun h135 => ?_)
                            · replace h135 : (z134 : Int) ≠ 32 := h135
                              have hL136 : ∀ (nn : Nat) (z2 : Int), y2 ≤ z2 ∧ z2 ≤ e2 → 171 - z2 < nn → e_Ok 20 elay ecode eI (d + 1) 328 (159, [(0, (1, 275)), (2, (0, z2)), (3, (0, y3))], [], v1) (fun r w' => r = [] ∧ e_fr mTq w w' ∧ tkS w' N ∧ t ≤ w' 275 86) := by
                                intro nn
                                induction nn with
                                | zero => intro z2 hj hm; obtain j138 := hj; exfalso; omega
                                | succ nn ih137 =>
                                  intro z2 hj hm
                                  obtain j138 := hj
                                  refine e_Ok.run (t' := (162, [(0, (1, 275)), (2, (0, z2)), (3, (0, y3))], [(1, 357)], v1)) 1 rfl ?_
                                  refine e_Ok.ps1 (x := (0, z2)) (q := 163) 1 rfl ?_
                                  refine e_Ok.sc (by omega) rfl rfl ?_
                                  have z139b := kyc_in (z2)
                                  generalize hz139 : kyc (z2) = z139
                                  rw [hz139] at z139b
                                  refine e_Ok.run (t' := (168, [(0, (1, 275)), (2, (0, z2)), (3, (0, y3))], [(0, 32), (0, z139)], v1)) 1 rfl ?_
                                  refine e_Ok.if2 rfl (fun h140 => ?_) (fun h140 => ?_)
                                  · replace h140 : (z139 : Int) = 32 := h140
                                    have hz2 : z2 = e2 := Decidable.byCases (p := z2 < e2) (fun e => absurd (show kyc z2 = 32 by rw [hz139]; omega) (hw3 _ (by omega) e)) (fun e => by omega)
                                    refine e_Ok.inc (z := z2 + 1) rfl rfl (by first | with_reducible rfl | omega) (by omega) ?_
                                    show e_Ok 20 elay ecode eI (d + 1) 328 (180, [(2, (0, z2 + 1)), (0, (1, 275)), (3, (0, y3))], [], v1) _
                                    refine e_Ok.inc (z := y3 + 1) rfl rfl (by first | with_reducible rfl | omega) (by omega) ?_
                                    show e_Ok 20 elay ecode eI (d + 1) 328 (183, [(3, (0, y3 + 1)), (2, (0, z2 + 1)), (0, (1, 275))], [], v1) _
                                    refine e_Ok.ps0 (q := 62) 1 rfl ?_
                                    refine e_Ok.sub eAlk (e_sub_of rfl ?_) (ih119 (z2 + 1) (y3 + 1) v1 ⟨j120, (by rcases hw2 with g | ⟨g1, g2⟩; exact Or.inl (by omega); exact Or.inr (by rw [show z2 + 1 = e2 + 1 by omega]; exact g2)), by omega, j123, j124, (by have u141 : v1 275 84 = v1 275 84 := rfl; omega), (by have u1 : v1 275 84 = v1 275 84 := rfl; have u2 : v1 275 85 = v1 275 85 := rfl; omega), (by have u1 : v1 275 84 = v1 275 84 := rfl; have u2 : v1 275 85 = v1 275 85 := rfl; omega)⟩ (by omega))
                                    exact ⟨rfl, rfl, rfl, trivial⟩
                                  · replace h140 : (z139 : Int) ≠ 32 := (show ¬ ((z139 : Int) = 32) from h140)
                                    have hlz : z2 ≠ e2 := fun e => by rw [e, hw1.2.2.2.2.2] at hz139; omega
                                    refine e_Ok.inc (z := z2 + 1) rfl rfl (by first | with_reducible rfl | omega) (by omega) ?_
                                    show e_Ok 20 elay ecode eI (d + 1) 328 (174, [(2, (0, z2 + 1)), (0, (1, 275)), (3, (0, y3))], [], v1) _
                                    refine e_Ok.ps0 (q := 159) 1 rfl ?_
                                    refine e_Ok.sub eAlk (e_sub_of rfl ?_) (ih137 (z2 + 1) (by omega) (by omega))
                                    exact ⟨rfl, rfl, rfl, trivial⟩
                              refine e_Ok.sub eAlk (e_sub_of rfl ?_) (hL136 (171 + 1 : Int).toNat y2 (by omega) (by omega))
                              exact ⟨rfl, rfl, rfl, trivial⟩
                            · replace h135 : (z134 : Int) = 32 := Classical.not_not.mp (show ¬ ((z134 : Int) ≠ 32) from h135)
                              have hk2 : 2 ≤ y4 := Decidable.byCases (p := y2 + y4 < e2) (fun e => absurd (show kyc (y2 + y4) = 32 by rw [hz134]; omega) (hw3 _ (by omega) e)) (fun e => by omega)
                              refine e_Ok.ps2 (x := (1, 275)) (y := (0, y4)) (q := 138) 2 rfl ?_
                              refine e_Ok.getf (z := y1) rfl (el_o rfl) rfl (ef_o rfl) j124 (by omega) ?_
                              refine e_Ok.ps1 (x := (1, 275)) (q := 142) 1 rfl ?_
                              refine e_Ok.getf (z := t) rfl (el_o rfl) rfl (ef_o rfl) j123 (by omega) ?_
                              refine e_Ok.sub' (z := y1 - t) rfl rfl (by omega) ?_
                              refine e_Ok.if2 rfl (fun h142 => ?_) (fun h142 => ?_)
                              · replace h142 : (y4 : Int) ≠ y1 - t := h142
                                have hL143 : ∀ (nn : Nat) (z2 : Int), y2 ≤ z2 ∧ z2 ≤ e2 → 171 - z2 < nn → e_Ok 20 elay ecode eI (d + 1) 328 (159, [(0, (1, 275)), (2, (0, z2)), (3, (0, y3))], [], v1) (fun r w' => r = [] ∧ e_fr mTq w w' ∧ tkS w' N ∧ t ≤ w' 275 86) := by
                                  intro nn
                                  induction nn with
                                  | zero => intro z2 hj hm; obtain j145 := hj; exfalso; omega
                                  | succ nn ih144 =>
                                    intro z2 hj hm
                                    obtain j145 := hj
                                    refine e_Ok.run (t' := (162, [(0, (1, 275)), (2, (0, z2)), (3, (0, y3))], [(1, 357)], v1)) 1 rfl ?_
                                    refine e_Ok.ps1 (x := (0, z2)) (q := 163) 1 rfl ?_
                                    refine e_Ok.sc (by omega) rfl rfl ?_
                                    have z146b := kyc_in (z2)
                                    generalize hz146 : kyc (z2) = z146
                                    rw [hz146] at z146b
                                    refine e_Ok.run (t' := (168, [(0, (1, 275)), (2, (0, z2)), (3, (0, y3))], [(0, 32), (0, z146)], v1)) 1 rfl ?_
                                    refine e_Ok.if2 rfl (fun h147 => ?_) (fun h147 => ?_)
                                    · replace h147 : (z146 : Int) = 32 := h147
                                      have hz2 : z2 = e2 := Decidable.byCases (p := z2 < e2) (fun e => absurd (show kyc z2 = 32 by rw [hz146]; omega) (hw3 _ (by omega) e)) (fun e => by omega)
                                      refine e_Ok.inc (z := z2 + 1) rfl rfl (by first | with_reducible rfl | omega) (by omega) ?_
                                      show e_Ok 20 elay ecode eI (d + 1) 328 (180, [(2, (0, z2 + 1)), (0, (1, 275)), (3, (0, y3))], [], v1) _
                                      refine e_Ok.inc (z := y3 + 1) rfl rfl (by first | with_reducible rfl | omega) (by omega) ?_
                                      show e_Ok 20 elay ecode eI (d + 1) 328 (183, [(3, (0, y3 + 1)), (2, (0, z2 + 1)), (0, (1, 275))], [], v1) _
                                      refine e_Ok.ps0 (q := 62) 1 rfl ?_
                                      refine e_Ok.sub eAlk (e_sub_of rfl ?_) (ih119 (z2 + 1) (y3 + 1) v1 ⟨j120, (by rcases hw2 with g | ⟨g1, g2⟩; exact Or.inl (by omega); exact Or.inr (by rw [show z2 + 1 = e2 + 1 by omega]; exact g2)), by omega, j123, j124, (by have u148 : v1 275 84 = v1 275 84 := rfl; omega), (by have u1 : v1 275 84 = v1 275 84 := rfl; have u2 : v1 275 85 = v1 275 85 := rfl; omega), (by have u1 : v1 275 84 = v1 275 84 := rfl; have u2 : v1 275 85 = v1 275 85 := rfl; omega)⟩ (by omega))
                                      exact ⟨rfl, rfl, rfl, trivial⟩
                                    · replace h147 : (z146 : Int) ≠ 32 := (show ¬ ((z146 : Int) = 32) from h147)
                                      have hlz : z2 ≠ e2 := fun e => by rw [e, hw1.2.2.2.2.2] at hz146; omega
                                      refine e_Ok.inc (z := z2 + 1) rfl rfl (by first | with_reducible rfl | omega) (by omega) ?_
                                      show e_Ok 20 elay ecode eI (d + 1) 328 (174, [(2, (0, z2 + 1)), (0, (1, 275)), (3, (0, y3))], [], v1) _
                                      refine e_Ok.ps0 (q := 159) 1 rfl ?_
                                      refine e_Ok.sub eAlk (e_sub_of rfl ?_) (ih144 (z2 + 1) (by omega) (by omega))
                                      exact ⟨rfl, rfl, rfl, trivial⟩
                                refine e_Ok.sub eAlk (e_sub_of rfl ?_) (hL143 (171 + 1 : Int).toNat y2 (by omega) (by omega))
                                exact ⟨rfl, rfl, rfl, trivial⟩
                              · replace h142 : (y4 : Int) = y1 - t := Classical.not_not.mp (show ¬ ((y4 : Int) ≠ y1 - t) from h142)
                                refine e_Ok.ps2 (x := (0, 4)) (y := (1, 275)) (q := 151) 2 rfl ?_
                                refine e_Ok.putf rfl (el_o rfl) rfl (ef_o rfl) ?_
                                generalize hw149 : e_up v1 275 84 4 = w149
                                refine e_Ok.ps2 (x := (0, y3)) (y := (1, 275)) (q := 156) 2 rfl ?_
                                refine e_Ok.putf rfl (el_o rfl) rfl (ef_o rfl) ?_
                                generalize hw151 : e_up w149 275 85 y3 = w151
                                have hL153 : ∀ (nn : Nat) (z2 : Int), y2 ≤ z2 ∧ z2 ≤ e2 → 171 - z2 < nn → e_Ok 20 elay ecode eI (d + 1) 328 (159, [(0, (1, 275)), (2, (0, z2)), (3, (0, y3))], [], w151) (fun r w' => r = [] ∧ e_fr mTq w w' ∧ tkS w' N ∧ t ≤ w' 275 86) := by
                                  intro nn
                                  induction nn with
                                  | zero => intro z2 hj hm; obtain j155 := hj; exfalso; omega
                                  | succ nn ih154 =>
                                    intro z2 hj hm
                                    obtain j155 := hj
                                    refine e_Ok.run (t' := (162, [(0, (1, 275)), (2, (0, z2)), (3, (0, y3))], [(1, 357)], w151)) 1 rfl ?_
                                    refine e_Ok.ps1 (x := (0, z2)) (q := 163) 1 rfl ?_
                                    refine e_Ok.sc (by omega) rfl rfl ?_
                                    have z156b := kyc_in (z2)
                                    generalize hz156 : kyc (z2) = z156
                                    rw [hz156] at z156b
                                    refine e_Ok.run (t' := (168, [(0, (1, 275)), (2, (0, z2)), (3, (0, y3))], [(0, 32), (0, z156)], w151)) 1 rfl ?_
                                    refine e_Ok.if2 rfl (fun h157 => ?_) (fun h157 => ?_)
                                    · replace h157 : (z156 : Int) = 32 := h157
                                      have hz2 : z2 = e2 := Decidable.byCases (p := z2 < e2) (fun e => absurd (show kyc z2 = 32 by rw [hz156]; omega) (hw3 _ (by omega) e)) (fun e => by omega)
                                      refine e_Ok.inc (z := z2 + 1) rfl rfl (by first | with_reducible rfl | omega) (by omega) ?_
                                      show e_Ok 20 elay ecode eI (d + 1) 328 (180, [(2, (0, z2 + 1)), (0, (1, 275)), (3, (0, y3))], [], w151) _
                                      refine e_Ok.inc (z := y3 + 1) rfl rfl (by first | with_reducible rfl | omega) (by omega) ?_
                                      show e_Ok 20 elay ecode eI (d + 1) 328 (183, [(3, (0, y3 + 1)), (2, (0, z2 + 1)), (0, (1, 275))], [], w151) _
                                      refine e_Ok.ps0 (q := 62) 1 rfl ?_
                                      refine e_Ok.sub eAlk (e_sub_of rfl ?_) (ih119 (z2 + 1) (y3 + 1) w151 ⟨(show e_fr mTq w w151 from e_fr.up (show e_fr mTq w w149 from e_fr.up j120 hw149 (by first | exact ⟨rfl, ⟨(by decide), (by decide)⟩⟩ | (unfold mTq; omega))) hw151 (by first | exact ⟨rfl, ⟨(by decide), (by decide)⟩⟩ | (unfold mTq; omega))), (by rcases hw2 with g | ⟨g1, g2⟩; exact Or.inl (by omega); exact Or.inr (by rw [show z2 + 1 = e2 + 1 by omega]; exact g2)), by omega, (e_uq hw151 (Or.inr (by first | decide | omega)) (e_uq hw149 (Or.inr (by first | decide | omega)) j123)), (e_uq hw151 (Or.inr (by first | decide | omega)) (e_uq hw149 (Or.inr (by first | decide | omega)) j124)), (by have u158 : w151 275 84 = 4 := (e_uq hw151 (Or.inr (by first | decide | omega)) (e_ue hw149)); omega), (by have u1 : w151 275 84 = 4 := (e_uq hw151 (Or.inr (by first | decide | omega)) (e_ue hw149)); have u2 : w151 275 85 = y3 := (e_ue hw151); omega), (by have u1 : w151 275 84 = 4 := (e_uq hw151 (Or.inr (by first | decide | omega)) (e_ue hw149)); have u2 : w151 275 85 = y3 := (e_ue hw151); omega)⟩ (by omega))
                                      exact ⟨rfl, rfl, rfl, trivial⟩
                                    · replace h157 : (z156 : Int) ≠ 32 := (show ¬ ((z156 : Int) = 32) from h157)
                                      have hlz : z2 ≠ e2 := fun e => by rw [e, hw1.2.2.2.2.2] at hz156; omega
                                      refine e_Ok.inc (z := z2 + 1) rfl rfl (by first | with_reducible rfl | omega) (by omega) ?_
                                      show e_Ok 20 elay ecode eI (d + 1) 328 (174, [(2, (0, z2 + 1)), (0, (1, 275)), (3, (0, y3))], [], w151) _
                                      refine e_Ok.ps0 (q := 159) 1 rfl ?_
                                      refine e_Ok.sub eAlk (e_sub_of rfl ?_) (ih154 (z2 + 1) (by omega) (by omega))
                                      exact ⟨rfl, rfl, rfl, trivial⟩
                                refine e_Ok.sub eAlk (e_sub_of rfl ?_) (hL153 (171 + 1 : Int).toNat y2 (by omega) (by omega))
                                exact ⟨rfl, rfl, rfl, trivial⟩
                          · replace h133 : (z132 : Int) ≠ 32 := (show ¬ ((z132 : Int) = 32) from h133)
                            have hlt : y2 + y4 ≠ e2 := fun e => by rw [e, hw1.2.2.2.2.2] at hz132; omega
                            refine e_Ok.ps1 (x := (1, 357)) (q := 93) 1 rfl ?_
                            refine e_Ok.ps2 (x := (0, y4)) (y := (0, y2)) (q := 96) 2 rfl ?_
                            refine e_Ok.add (z := y2 + y4) rfl rfl (by omega) ?_
                            refine e_Ok.sc (by omega) rfl rfl ?_
                            have z159b := kyc_in (y2 + y4)
                            generalize hz159 : kyc (y2 + y4) = z159
                            rw [hz159] at z159b
                            refine e_Ok.run (t' := (102, [(0, (1, 275)), (2, (0, y2)), (3, (0, y3)), (4, (0, y4))], [(1, 275), (1, 275), (0, z159)], v1)) 2 rfl ?_
                            refine e_Ok.getf (z := t) rfl (el_o rfl) rfl (ef_o rfl) j123 (by omega) ?_
                            refine e_Ok.ps1 (x := (0, y4)) (q := 107) 1 rfl ?_
                            refine e_Ok.add (z := t + y4) rfl rfl (by omega) ?_
                            refine e_Ok.callV rfl (e_dq hd rfl) rfl rfl rfl rfl (c_326 (mT_Tq j120 hT) (hT_Tq j120 hH) (((j120 275 9 no_9w_0).trans hN)) hNr (by omega)) (fun r160 w161 h162 => ?_)
                            obtain ⟨z163, rfl, rfl, q164⟩ := h162
                            refine e_Ok.nrm (q := 111) (st' := [(0, z163), (0, z159)]) rfl rfl ?_
                            refine e_Ok.if2 rfl (fun h165 => ?_) (fun h165 => ?_)
                            · replace h165 : (z159 : Int) ≠ z163 := h165
                              refine e_Ok.ps1 (x := (1, 357)) (q := 123) 1 rfl ?_
                              refine e_Ok.ps2 (x := (0, y4)) (y := (0, y2)) (q := 126) 2 rfl ?_
                              refine e_Ok.add (z := y2 + y4) rfl rfl (by omega) ?_
                              refine e_Ok.sc (by omega) rfl rfl ?_
                              have z166b := kyc_in (y2 + y4)
                              generalize hz166 : kyc (y2 + y4) = z166
                              rw [hz166] at z166b
                              refine e_Ok.run (t' := (132, [(0, (1, 275)), (2, (0, y2)), (3, (0, y3)), (4, (0, y4))], [(0, 32), (0, z166)], v1)) 1 rfl ?_
                              refine e_Ok.if2 rfl (fun h167 => ?_) (fun h167 => ?_)
                              · replace h167 : (z166 : Int) ≠ 32 := h167
                                have hL168 : ∀ (nn : Nat) (z2 : Int), y2 ≤ z2 ∧ z2 ≤ e2 → 171 - z2 < nn → e_Ok 20 elay ecode eI (d + 1) 328 (159, [(0, (1, 275)), (2, (0, z2)), (3, (0, y3))], [], v1) (fun r w' => r = [] ∧ e_fr mTq w w' ∧ tkS w' N ∧ t ≤ w' 275 86) := by
                                  intro nn
                                  induction nn with
                                  | zero => intro z2 hj hm; obtain j170 := hj; exfalso; omega
                                  | succ nn ih169 =>
                                    intro z2 hj hm
                                    obtain j170 := hj
                                    refine e_Ok.run (t' := (162, [(0, (1, 275)), (2, (0, z2)), (3, (0, y3))], [(1, 357)], v1)) 1 rfl ?_
                                    refine e_Ok.ps1 (x := (0, z2)) (q := 163) 1 rfl ?_
                                    refine e_Ok.sc (by omega) rfl rfl ?_
                                    have z171b := kyc_in (z2)
                                    generalize hz171 : kyc (z2) = z171
                                    rw [hz171] at z171b
                                    refine e_Ok.run (t' := (168, [(0, (1, 275)), (2, (0, z2)), (3, (0, y3))], [(0, 32), (0, z171)], v1)) 1 rfl ?_
                                    refine e_Ok.if2 rfl (fun h172 => ?_) (fun h172 => ?_)
                                    · replace h172 : (z171 : Int) = 32 := h172
                                      have hz2 : z2 = e2 := Decidable.byCases (p := z2 < e2) (fun e => absurd (show kyc z2 = 32 by rw [hz171]; omega) (hw3 _ (by omega) e)) (fun e => by omega)
                                      refine e_Ok.inc (z := z2 + 1) rfl rfl (by first | with_reducible rfl | omega) (by omega) ?_
                                      show e_Ok 20 elay ecode eI (d + 1) 328 (180, [(2, (0, z2 + 1)), (0, (1, 275)), (3, (0, y3))], [], v1) _
                                      refine e_Ok.inc (z := y3 + 1) rfl rfl (by first | with_reducible rfl | omega) (by omega) ?_
                                      show e_Ok 20 elay ecode eI (d + 1) 328 (183, [(3, (0, y3 + 1)), (2, (0, z2 + 1)), (0, (1, 275))], [], v1) _
                                      refine e_Ok.ps0 (q := 62) 1 rfl ?_
                                      refine e_Ok.sub eAlk (e_sub_of rfl ?_) (ih119 (z2 + 1) (y3 + 1) v1 ⟨j120, (by rcases hw2 with g | ⟨g1, g2⟩; exact Or.inl (by omega); exact Or.inr (by rw [show z2 + 1 = e2 + 1 by omega]; exact g2)), by omega, j123, j124, (by have u173 : v1 275 84 = v1 275 84 := rfl; omega), (by have u1 : v1 275 84 = v1 275 84 := rfl; have u2 : v1 275 85 = v1 275 85 := rfl; omega), (by have u1 : v1 275 84 = v1 275 84 := rfl; have u2 : v1 275 85 = v1 275 85 := rfl; omega)⟩ (by omega))
                                      exact ⟨rfl, rfl, rfl, trivial⟩
                                    · replace h172 : (z171 : Int) ≠ 32 := (show ¬ ((z171 : Int) = 32) from h172)
                                      have hlz : z2 ≠ e2 := fun e => by rw [e, hw1.2.2.2.2.2] at hz171; omega
                                      refine e_Ok.inc (z := z2 + 1) rfl rfl (by first | with_reducible rfl | omega) (by omega) ?_
                                      show e_Ok 20 elay ecode eI (d + 1) 328 (174, [(2, (0, z2 + 1)), (0, (1, 275)), (3, (0, y3))], [], v1) _
                                      refine e_Ok.ps0 (q := 159) 1 rfl ?_
                                      refine e_Ok.sub eAlk (e_sub_of rfl ?_) (ih169 (z2 + 1) (by omega) (by omega))
                                      exact ⟨rfl, rfl, rfl, trivial⟩
                                refine e_Ok.sub eAlk (e_sub_of rfl ?_) (hL168 (171 + 1 : Int).toNat y2 (by omega) (by omega))
                                exact ⟨rfl, rfl, rfl, trivial⟩
                              · replace h167 : (z166 : Int) = 32 := Classical.not_not.mp (show ¬ ((z166 : Int) ≠ 32) from h167)
                                have hk2 : 2 ≤ y4 := Decidable.byCases (p := y2 + y4 < e2) (fun e => absurd (show kyc (y2 + y4) = 32 by rw [hz166]; omega) (hw3 _ (by omega) e)) (fun e => by omega)
                                refine e_Ok.ps2 (x := (1, 275)) (y := (0, y4)) (q := 138) 2 rfl ?_
                                refine e_Ok.getf (z := y1) rfl (el_o rfl) rfl (ef_o rfl) j124 (by omega) ?_
                                refine e_Ok.ps1 (x := (1, 275)) (q := 142) 1 rfl ?_
                                refine e_Ok.getf (z := t) rfl (el_o rfl) rfl (ef_o rfl) j123 (by omega) ?_
                                refine e_Ok.sub' (z := y1 - t) rfl rfl (by omega) ?_
                                refine e_Ok.if2 rfl (fun h174 => ?_) (fun h174 => ?_)
                                · replace h174 : (y4 : Int) ≠ y1 - t := h174
                                  have hL175 : ∀ (nn : Nat) (z2 : Int), y2 ≤ z2 ∧ z2 ≤ e2 → 171 - z2 < nn → e_Ok 20 elay ecode eI (d + 1) 328 (159, [(0, (1, 275)), (2, (0, z2)), (3, (0, y3))], [], v1) (fun r w' => r = [] ∧ e_fr mTq w w' ∧ tkS w' N ∧ t ≤ w' 275 86) := by
                                    intro nn
                                    induction nn with
                                    | zero => intro z2 hj hm; obtain j177 := hj; exfalso; omega
                                    | succ nn ih176 =>
                                      intro z2 hj hm
                                      obtain j177 := hj
                                      refine e_Ok.run (t' := (162, [(0, (1, 275)), (2, (0, z2)), (3, (0, y3))], [(1, 357)], v1)) 1 rfl ?_
                                      refine e_Ok.ps1 (x := (0, z2)) (q := 163) 1 rfl ?_
                                      refine e_Ok.sc (by omega) rfl rfl ?_
                                      have z178b := kyc_in (z2)
                                      generalize hz178 : kyc (z2) = z178
                                      rw [hz178] at z178b
                                      refine e_Ok.run (t' := (168, [(0, (1, 275)), (2, (0, z2)), (3, (0, y3))], [(0, 32), (0, z178)], v1)) 1 rfl ?_
                                      refine e_Ok.if2 rfl (fun h179 => ?_) (fun h179 => ?_)
                                      · replace h179 : (z178 : Int) = 32 := h179
                                        have hz2 : z2 = e2 := Decidable.byCases (p := z2 < e2) (fun e => absurd (show kyc z2 = 32 by rw [hz178]; omega) (hw3 _ (by omega) e)) (fun e => by omega)
                                        refine e_Ok.inc (z := z2 + 1) rfl rfl (by first | with_reducible rfl | omega) (by omega) ?_
                                        show e_Ok 20 elay ecode eI (d + 1) 328 (180, [(2, (0, z2 + 1)), (0, (1, 275)), (3, (0, y3))], [], v1) _
                                        refine e_Ok.inc (z := y3 + 1) rfl rfl (by first | with_reducible rfl | omega) (by omega) ?_
                                        show e_Ok 20 elay ecode eI (d + 1) 328 (183, [(3, (0, y3 + 1)), (2, (0, z2 + 1)), (0, (1, 275))], [], v1) _
                                        refine e_Ok.ps0 (q := 62) 1 rfl ?_
                                        refine e_Ok.sub eAlk (e_sub_of rfl ?_) (ih119 (z2 + 1) (y3 + 1) v1 ⟨j120, (by rcases hw2 with g | ⟨g1, g2⟩; exact Or.inl (by omega); exact Or.inr (by rw [show z2 + 1 = e2 + 1 by omega]; exact g2)), by omega, j123, j124, (by have u180 : v1 275 84 = v1 275 84 := rfl; omega), (by have u1 : v1 275 84 = v1 275 84 := rfl; have u2 : v1 275 85 = v1 275 85 := rfl; omega), (by have u1 : v1 275 84 = v1 275 84 := rfl; have u2 : v1 275 85 = v1 275 85 := rfl; omega)⟩ (by omega))
                                        exact ⟨rfl, rfl, rfl, trivial⟩
                                      · replace h179 : (z178 : Int) ≠ 32 := (show ¬ ((z178 : Int) = 32) from h179)
                                        have hlz : z2 ≠ e2 := fun e => by rw [e, hw1.2.2.2.2.2] at hz178; omega
                                        refine e_Ok.inc (z := z2 + 1) rfl rfl (by first | with_reducible rfl | omega) (by omega) ?_
                                        show e_Ok 20 elay ecode eI (d + 1) 328 (174, [(2, (0, z2 + 1)), (0, (1, 275)), (3, (0, y3))], [], v1) _
                                        refine e_Ok.ps0 (q := 159) 1 rfl ?_
                                        refine e_Ok.sub eAlk (e_sub_of rfl ?_) (ih176 (z2 + 1) (by omega) (by omega))
                                        exact ⟨rfl, rfl, rfl, trivial⟩
                                  refine e_Ok.sub eAlk (e_sub_of rfl ?_) (hL175 (171 + 1 : Int).toNat y2 (by omega) (by omega))
                                  exact ⟨rfl, rfl, rfl, trivial⟩
                                · replace h174 : (y4 : Int) = y1 - t := Classical.not_not.mp (show ¬ ((y4 : Int) ≠ y1 - t) from h174)
                                  refine e_Ok.ps2 (x := (0, 4)) (y := (1, 275)) (q := 151) 2 rfl ?_
                                  refine e_Ok.putf rfl (el_o rfl) rfl (ef_o rfl) ?_
                                  generalize hw181 : e_up v1 275 84 4 = w181
                                  refine e_Ok.ps2 (x := (0, y3)) (y := (1, 275)) (q := 156) 2 rfl ?_
                                  refine e_Ok.putf rfl (el_o rfl) rfl (ef_o rfl) ?_
                                  generalize hw183 : e_up w181 275 85 y3 = w183
                                  have hL185 : ∀ (nn : Nat) (z2 : Int), y2 ≤ z2 ∧ z2 ≤ e2 → 171 - z2 < nn → e_Ok 20 elay ecode eI (d + 1) 328 (159, [(0, (1, 275)), (2, (0, z2)), (3, (0, y3))], [], w183) (fun r w' => r = [] ∧ e_fr mTq w w' ∧ tkS w' N ∧ t ≤ w' 275 86) := by
                                    intro nn
                                    induction nn with
                                    | zero => intro z2 hj hm; obtain j187 := hj; exfalso; omega
                                    | succ nn ih186 =>
                                      intro z2 hj hm
                                      obtain j187 := hj
                                      refine e_Ok.run (t' := (162, [(0, (1, 275)), (2, (0, z2)), (3, (0, y3))], [(1, 357)], w183)) 1 rfl ?_
                                      refine e_Ok.ps1 (x := (0, z2)) (q := 163) 1 rfl ?_
                                      refine e_Ok.sc (by omega) rfl rfl ?_
                                      have z188b := kyc_in (z2)
                                      generalize hz188 : kyc (z2) = z188
                                      rw [hz188] at z188b
                                      refine e_Ok.run (t' := (168, [(0, (1, 275)), (2, (0, z2)), (3, (0, y3))], [(0, 32), (0, z188)], w183)) 1 rfl ?_
                                      refine e_Ok.if2 rfl (fun h189 => ?_) (fun h189 => ?_)
                                      · replace h189 : (z188 : Int) = 32 := h189
                                        have hz2 : z2 = e2 := Decidable.byCases (p := z2 < e2) (fun e => absurd (show kyc z2 = 32 by rw [hz188]; omega) (hw3 _ (by omega) e)) (fun e => by omega)
                                        refine e_Ok.inc (z := z2 + 1) rfl rfl (by first | with_reducible rfl | omega) (by omega) ?_
                                        show e_Ok 20 elay ecode eI (d + 1) 328 (180, [(2, (0, z2 + 1)), (0, (1, 275)), (3, (0, y3))], [], w183) _
                                        refine e_Ok.inc (z := y3 + 1) rfl rfl (by first | with_reducible rfl | omega) (by omega) ?_
                                        show e_Ok 20 elay ecode eI (d + 1) 328 (183, [(3, (0, y3 + 1)), (2, (0, z2 + 1)), (0, (1, 275))], [], w183) _
                                        refine e_Ok.ps0 (q := 62) 1 rfl ?_
                                        refine e_Ok.sub eAlk (e_sub_of rfl ?_) (ih119 (z2 + 1) (y3 + 1) w183 ⟨(show e_fr mTq w w183 from e_fr.up (show e_fr mTq w w181 from e_fr.up j120 hw181 (by first | exact ⟨rfl, ⟨(by decide), (by decide)⟩⟩ | (unfold mTq; omega))) hw183 (by first | exact ⟨rfl, ⟨(by decide), (by decide)⟩⟩ | (unfold mTq; omega))), (by rcases hw2 with g | ⟨g1, g2⟩; exact Or.inl (by omega); exact Or.inr (by rw [show z2 + 1 = e2 + 1 by omega]; exact g2)), by omega, (e_uq hw183 (Or.inr (by first | decide | omega)) (e_uq hw181 (Or.inr (by first | decide | omega)) j123)), (e_uq hw183 (Or.inr (by first | decide | omega)) (e_uq hw181 (Or.inr (by first | decide | omega)) j124)), (by have u190 : w183 275 84 = 4 := (e_uq hw183 (Or.inr (by first | decide | omega)) (e_ue hw181)); omega), (by have u1 : w183 275 84 = 4 := (e_uq hw183 (Or.inr (by first | decide | omega)) (e_ue hw181)); have u2 : w183 275 85 = y3 := (e_ue hw183); omega), (by have u1 : w183 275 84 = 4 := (e_uq hw183 (Or.inr (by first | decide | omega)) (e_ue hw181)); have u2 : w183 275 85 = y3 := (e_ue hw183); omega)⟩ (by omega))
                                        exact ⟨rfl, rfl, rfl, trivial⟩
                                      · replace h189 : (z188 : Int) ≠ 32 := (show ¬ ((z188 : Int) = 32) from h189)
                                        have hlz : z2 ≠ e2 := fun e => by rw [e, hw1.2.2.2.2.2] at hz188; omega
                                        refine e_Ok.inc (z := z2 + 1) rfl rfl (by first | with_reducible rfl | omega) (by omega) ?_
                                        show e_Ok 20 elay ecode eI (d + 1) 328 (174, [(2, (0, z2 + 1)), (0, (1, 275)), (3, (0, y3))], [], w183) _
                                        refine e_Ok.ps0 (q := 159) 1 rfl ?_
                                        refine e_Ok.sub eAlk (e_sub_of rfl ?_) (ih186 (z2 + 1) (by omega) (by omega))
                                        exact ⟨rfl, rfl, rfl, trivial⟩
                                  refine e_Ok.sub eAlk (e_sub_of rfl ?_) (hL185 (171 + 1 : Int).toNat y2 (by omega) (by omega))
                                  exact ⟨rfl, rfl, rfl, trivial⟩
                            · replace h165 : (z159 : Int) = z163 := Classical.not_not.mp (show ¬ ((z159 : Int) ≠ z163) from h165)
                              refine e_Ok.inc (z := y4 + 1) rfl rfl (by first | with_reducible rfl | omega) (by omega) ?_
                              show e_Ok 20 elay ecode eI (d + 1) 328 (117, [(4, (0, y4 + 1)), (0, (1, 275)), (2, (0, y2)), (3, (0, y3))], [], v1) _
                              refine e_Ok.ps0 (q := 75) 1 rfl ?_
                              refine e_Ok.sub eAlk (e_sub_of rfl ?_) (ih130 (y4 + 1) (by omega) (by omega))
                              exact ⟨rfl, rfl, rfl, rfl, trivial⟩
                      refine e_Ok.sub eAlk (e_sub_of rfl ?_) (hL129 (171 + 1 : Int).toNat 0 (by omega) (by omega))
                      exact ⟨rfl, rfl, rfl, rfl, trivial⟩
                refine e_Ok.sub eAlk (e_sub_of rfl ?_) (hL118 (172 + 1 : Int).toNat 0 0 w115 ⟨(show e_fr mTq w w115 from e_fr.up f30 hw115 (by first | exact ⟨rfl, ⟨(by decide), (by decide)⟩⟩ | (unfold mTq; omega))), (Or.inr ⟨3, by decide⟩), by omega, (e_uq hw115 (Or.inr (by first | decide | omega)) (e_uq hw29 (Or.inr (by first | decide | omega)) ht)), (e_uq hw115 (Or.inr (by first | decide | omega)) (e_ue hw29)), (by have u117 : w115 275 84 = 5 := (e_ue hw115); omega), (by have u1 : w115 275 84 = 5 := (e_ue hw115); have u2 : w115 275 85 = w 275 85 := (e_uq hw115 (Or.inr (by first | decide | omega)) (e_uq hw29 (Or.inr (by first | decide | omega)) rfl)); omega), (by have u1 : w115 275 84 = 5 := (e_ue hw115); have u2 : w115 275 85 = w 275 85 := (e_uq hw115 (Or.inr (by first | decide | omega)) (e_uq hw29 (Or.inr (by first | decide | omega)) rfl)); omega)⟩ (by omega))
                exact ⟨rfl, rfl, rfl, trivial⟩
            · replace h28 : (0 : Int) ≠ 0 := (show ¬ ((0 : Int) = 0) from h28)
              exfalso; omega
  refine e_Ok.sub eAlk (e_sub_of rfl ?_) (hL1 (4001 + 1 : Int).toNat t ⟨by omega, (Or.inr ⟨rfl, rfl⟩)⟩ (by omega))
  exact ⟨rfl, rfl, trivial⟩
set_option maxHeartbeats 4000000 in
theorem c_327 {d : Nat} (hd : 25 ≤ d) {w : eW} (hT : e_Has mTy w) (hH : e_Has hTy w) {N : Int} (hN : w 275 9 = N) (hNr : 0 ≤ N ∧ N ≤ 4000) {t : Int} (he : w 275 87 = t) (her : 0 ≤ t ∧ t ≤ N) : e_Ok 20 elay ecode eI d 327 (0, [(0, (1, 275))], [], w) (fun r w' => r = [] ∧ e_fr mTq w w' ∧ tkS w' N ∧ t ≤ w' 275 86) := by
  obtain ⟨d, rfl⟩ : ∃ e, d = e + 1 := ⟨d - 1, by omega⟩
  refine e_Ok.ps1 (x := (1, 275)) (q := 1) 1 rfl ?_
  refine e_Ok.getf (z := t) rfl (el_o rfl) rfl (ef_o rfl) he (by omega) ?_
  refine e_Ok.run (t' := (7, [(2, (0, 1)), (1, (0, t)), (0, (1, 275))], [], w)) 3 rfl ?_
  have hL1 : ∀ (nn : Nat) (y1 : Int) (y2 : Int), (t ≤ y1 ∧ y1 ≤ N) ∧ (0 ≤ y2 ∧ y2 ≤ 1) → 2 * (4001 - y1) + y2 < nn → e_Ok 20 elay ecode eI (d + 1) 327 (7, [(0, (1, 275)), (1, (0, y1)), (2, (0, y2))], [], w) (fun r w' => r = [] ∧ e_fr mTq w w' ∧ tkS w' N ∧ t ≤ w' 275 86) := by
    intro nn
    induction nn with
    | zero => intro y1 y2 hj hm; obtain ⟨j3, j4⟩ := hj; exfalso; omega
    | succ nn ih2 =>
      intro y1 y2 hj hm
      obtain ⟨j3, j4⟩ := hj
      refine e_Ok.run (t' := (8, [(0, (1, 275)), (1, (0, y1)), (2, (0, y2))], [(0, y2)], w)) 1 rfl ?_
      refine e_Ok.if1 rfl (fun h5 => ?_) (fun h5 => ?_)
      · replace h5 : (y2 : Int) = 0 := h5
        refine e_Ok.ps2 (x := (0, y1)) (y := (1, 275)) (q := 87) 2 rfl ?_
        refine e_Ok.putf rfl (el_o rfl) rfl (ef_o rfl) ?_
        generalize hw6 : e_up w 275 86 y1 = w6
        refine e_Ok.ps3 (x := (0, 1)) (y := (0, y1)) (z := (1, 275)) (q := 93) 3 rfl ?_
        refine e_Ok.add (z := y1 + 1) rfl rfl (by omega) ?_
        refine e_Ok.putf rfl (el_o rfl) rfl (ef_o rfl) ?_
        generalize hw8 : e_up w6 275 87 (y1 + 1) = w8
        refine e_Ok.ps2 (x := (0, 0)) (y := (1, 275)) (q := 99) 2 rfl ?_
        refine e_Ok.putf rfl (el_o rfl) rfl (ef_o rfl) ?_
        generalize hw10 : e_up w8 275 85 0 = w10
        have f11 : e_fr mTq w w10 := e_fr.up (show e_fr mTq w w8 from e_fr.up (show e_fr mTq w w6 from e_fr.up (e_fr.refl w) hw6 (by first | exact ⟨rfl, ⟨(by decide), (by decide)⟩⟩ | (unfold mTq; omega))) hw8 (by first | exact ⟨rfl, ⟨(by decide), (by decide)⟩⟩ | (unfold mTq; omega))) hw10 (by first | exact ⟨rfl, ⟨(by decide), (by decide)⟩⟩ | (unfold mTq; omega))
        refine e_Ok.ps2 (x := (0, y1)) (y := (1, 275)) (q := 104) 2 rfl ?_
        refine e_Ok.callV rfl (e_dq hd rfl) rfl rfl rfl rfl (c_326 (mT_Tq f11 hT) (hT_Tq f11 hH) ((e_uq hw10 (Or.inr (by first | decide | omega)) (e_uq hw8 (Or.inr (by first | decide | omega)) (e_uq hw6 (Or.inr (by first | decide | omega)) hN)))) hNr (by omega)) (fun r12 w13 h14 => ?_)
        obtain ⟨z15, rfl, rfl, q16⟩ := h14
        refine e_Ok.nrm (q := 107) (st' := [(0, z15)]) rfl rfl ?_
        refine e_Ok.run (t' := (108, [(3, (0, z15)), (0, (1, 275)), (1, (0, y1)), (2, (0, y2))], [], w10)) 1 rfl ?_
        refine e_Ok.ps2 (x := (1, 275)) (y := (0, y1)) (q := 110) 2 rfl ?_
        refine e_Ok.getf (z := N) rfl (el_o rfl) rfl (ef_o rfl) (e_uq hw10 (Or.inr (by decide)) (e_uq hw8 (Or.inr (by decide)) (e_uq hw6 (Or.inr (by decide)) hN))) (by omega) ?_
        refine e_Ok.if2 rfl (fun h17 => ?_) (fun h17 => ?_)
        · replace h17 : (y1 : Int) ≠ N := h17
          refine e_Ok.ps1 (x := (0, z15)) (q := 130) 1 rfl ?_
          refine e_Ok.callS rfl (e_dq hd rfl) rfl rfl (c_324_x (e_dq hd rfl)) (fun r18 w19 h20 => ?_)
          obtain ⟨z21, rfl, rfl, q22⟩ := h20
          obtain ⟨rfl, q22⟩ | ⟨rfl, q22⟩ := q22
          · refine e_Ok.nrm (q := 133) (st' := [(0, 1)]) rfl rfl ?_
            refine e_Ok.if1 rfl (fun h23 => ?_) (fun h23 => ?_)
            · replace h23 : (1 : Int) = 0 := h23
              exfalso; omega
            · replace h23 : (1 : Int) ≠ 0 := (show ¬ ((1 : Int) = 0) from h23)
              refine e_Ok.ps1 (x := (1, 275)) (q := 137) 1 rfl ?_
              refine e_Ok.callV rfl (e_dq hd rfl) rfl rfl rfl rfl (c_328 (e_dq hd rfl) (mT_Tq f11 hT) (hT_Tq f11 hH) ((e_uq hw10 (Or.inr (by first | decide | omega)) (e_uq hw8 (Or.inr (by first | decide | omega)) (e_uq hw6 (Or.inr (by first | decide | omega)) hN)))) hNr (t := y1) (e_uq hw10 (Or.inr (by first | decide | omega)) (e_uq hw8 (Or.inr (by first | decide | omega)) (e_ue hw6))) (by omega) (by omega) (by rw [show w10 275 85 = 0 from (e_ue hw10)]; decide)) (fun r24 w25 h26 => ?_)
              obtain ⟨rfl, q27, q27s, q27t⟩ := h26
              refine e_Ok.nrm (q := 140) (st' := []) rfl rfl ?_
              refine e_Ok.ps0 (q := 162) 1 rfl ?_
              refine e_Ok.rets rfl rfl ?_
              exact ⟨rfl, (show e_fr mTq w w25 from e_fr.trans f11 (e_fr.mono q27 (fun c k q => by exact q))), q27s, by omega⟩
          · refine e_Ok.nrm (q := 133) (st' := [(0, 0)]) rfl rfl ?_
            refine e_Ok.if1 rfl (fun h29 => ?_) (fun h29 => ?_)
            · replace h29 : (0 : Int) = 0 := h29
              refine e_Ok.ps1 (x := (0, z15)) (q := 144) 1 rfl ?_
              refine e_Ok.callS rfl (e_dq hd rfl) rfl rfl (c_325_x (e_dq hd rfl)) (fun r30 w31 h32 => ?_)
              obtain ⟨z33, rfl, rfl, q34⟩ := h32
              obtain ⟨rfl, q34⟩ | ⟨rfl, q34⟩ := q34
              · refine e_Ok.nrm (q := 147) (st' := [(0, 1)]) rfl rfl ?_
                refine e_Ok.if1 rfl (fun h35 => ?_) (fun h35 => ?_)
                · replace h35 : (1 : Int) = 0 := h35
                  exfalso; omega
                · replace h35 : (1 : Int) ≠ 0 := (show ¬ ((1 : Int) = 0) from h35)
                  refine e_Ok.ps1 (x := (1, 275)) (q := 151) 1 rfl ?_
                  refine e_Ok.callV rfl (e_dq hd rfl) rfl rfl rfl rfl (c_329 (e_dq hd rfl) (mT_Tq f11 hT) (hT_Tq f11 hH) ((e_uq hw10 (Or.inr (by first | decide | omega)) (e_uq hw8 (Or.inr (by first | decide | omega)) (e_uq hw6 (Or.inr (by first | decide | omega)) hN)))) hNr (t := y1) (e_uq hw10 (Or.inr (by first | decide | omega)) (e_uq hw8 (Or.inr (by first | decide | omega)) (e_ue hw6))) (by omega) (by omega)) (fun r36 w37 h38 => ?_)
                  obtain ⟨rfl, q40, q40s, q40t⟩ := h38
                  refine e_Ok.nrm (q := 154) (st' := []) rfl rfl ?_
                  refine e_Ok.ps0 (q := 162) 1 rfl ?_
                  refine e_Ok.rets rfl rfl ?_
                  exact ⟨rfl, (show e_fr mTq w w37 from e_fr.trans f11 (e_fr.mono q40 (fun c k q => by exact q))), q40s, by omega⟩
              · refine e_Ok.nrm (q := 147) (st' := [(0, 0)]) rfl rfl ?_
                refine e_Ok.if1 rfl (fun h42 => ?_) (fun h42 => ?_)
                · replace h42 : (0 : Int) = 0 := h42
                  refine e_Ok.ps2 (x := (0, z15)) (y := (1, 275)) (q := 159) 2 rfl ?_
                  refine e_Ok.callV rfl (e_dq hd rfl) rfl rfl rfl rfl (c_330 (e_dq hd rfl) (mT_Tq f11 hT) (hT_Tq f11 hH) ((e_uq hw10 (Or.inr (by first | decide | omega)) (e_uq hw8 (Or.inr (by first | decide | omega)) (e_uq hw6 (Or.inr (by first | decide | omega)) hN)))) hNr (t := y1) (e_uq hw10 (Or.inr (by first | decide | omega)) (e_uq hw8 (Or.inr (by first | decide | omega)) (e_ue hw6))) (e_uq hw10 (Or.inr (by first | decide | omega)) (e_ue hw8)) (by omega) (by omega)) (fun r43 w44 h45 => ?_)
                  obtain ⟨rfl, q46, q46s, q46t⟩ := h45
                  refine e_Ok.nrm (q := 162) (st' := []) rfl rfl ?_
                  refine e_Ok.rets rfl rfl ?_
                  exact ⟨rfl, (show e_fr mTq w w44 from e_fr.trans f11 (e_fr.mono q46 (fun c k q => by exact q))), q46s, by omega⟩
                · replace h42 : (0 : Int) ≠ 0 := (show ¬ ((0 : Int) = 0) from h42)
                  exfalso; omega
            · replace h29 : (0 : Int) ≠ 0 := (show ¬ ((0 : Int) = 0) from h29)
              exfalso; omega
        · replace h17 : (y1 : Int) = N := Classical.not_not.mp (show ¬ ((y1 : Int) ≠ N) from h17)
          refine e_Ok.ps2 (x := (0, 0)) (y := (1, 275)) (q := 118) 2 rfl ?_
          refine e_Ok.putf rfl (el_o rfl) rfl (ef_o rfl) ?_
          generalize hw48 : e_up w10 275 84 0 = w48
          refine e_Ok.ps2 (x := (0, y1)) (y := (1, 275)) (q := 123) 2 rfl ?_
          refine e_Ok.putf rfl (el_o rfl) rfl (ef_o rfl) ?_
          generalize hw50 : e_up w48 275 87 y1 = w50
          refine e_Ok.ps0 (q := 162) 1 rfl ?_
          refine e_Ok.rets rfl rfl ?_
          have et86 : w50 275 86 = y1 := (e_uq hw50 (Or.inr (by decide)) (e_uq hw48 (Or.inr (by decide)) (e_uq hw10 (Or.inr (by decide)) (e_uq hw8 (Or.inr (by decide)) (e_ue hw6)))))
          have et87 : w50 275 87 = y1 := (e_ue hw50)
          have et84 : w50 275 84 = 0 := (e_uq hw50 (Or.inr (by decide)) (e_ue hw48))
          have et85 : w50 275 85 = 0 := (e_uq hw50 (Or.inr (by decide)) (e_uq hw48 (Or.inr (by decide)) (e_ue hw10)))
          exact ⟨rfl, (show e_fr mTq w w50 from e_fr.up (show e_fr mTq w w48 from e_fr.up f11 hw48 (by first | exact ⟨rfl, ⟨(by decide), (by decide)⟩⟩ | (unfold mTq; omega))) hw50 (by first | exact ⟨rfl, ⟨(by decide), (by decide)⟩⟩ | (unfold mTq; omega))), by unfold tkS tkV; rw [et86, et87, et84, et85]; omega, by omega⟩
      · replace h5 : (y2 : Int) ≠ 0 := (show ¬ ((y2 : Int) = 0) from h5)
        refine e_Ok.ps2 (x := (1, 275)) (y := (0, y1)) (q := 13) 2 rfl ?_
        refine e_Ok.getf (z := N) rfl (el_o rfl) rfl (ef_o rfl) hN (by omega) ?_
        refine e_Ok.if2 rfl (fun h52 => ?_) (fun h52 => ?_)
        · replace h52 : (y1 : Int) ≥ N := h52
          refine e_Ok.ps2 (x := (0, y1)) (y := (1, 275)) (q := 47) 2 rfl ?_
          refine e_Ok.callV rfl (e_dq hd rfl) rfl rfl rfl rfl (c_326 hT hH hN hNr (by omega)) (fun r53 w54 h55 => ?_)
          obtain ⟨z56, rfl, rfl, q57⟩ := h55
          refine e_Ok.nrm (q := 50) (st' := [(0, z56)]) rfl rfl ?_
          refine e_Ok.ps1 (x := (0, 35)) (q := 52) 1 rfl ?_
          refine e_Ok.if2 rfl (fun h58 => ?_) (fun h58 => ?_)
          · replace h58 : (z56 : Int) ≠ 35 := h58
            refine e_Ok.run (t' := (7, [(2, (0, 0)), (0, (1, 275)), (1, (0, y1))], [], w)) 3 rfl ?_
            refine e_Ok.sub eAlk (e_sub_of rfl ?_) (ih2 y1 0 ⟨by omega, by omega⟩ (by omega))
            exact ⟨rfl, rfl, rfl, trivial⟩
          · replace h58 : (z56 : Int) = 35 := Classical.not_not.mp (show ¬ ((z56 : Int) ≠ 35) from h58)
            have hL59 : ∀ (nn : Nat) (z1 : Int), (y1 ≤ z1 ∧ z1 ≤ N) ∧ ((y1 < z1 ∨ (z1 = y1 ∧ w 281 z1 = 35))) → 4001 - z1 < nn → e_Ok 20 elay ecode eI (d + 1) 327 (55, [(0, (1, 275)), (1, (0, z1)), (2, (0, y2))], [], w) (fun r w' => r = [] ∧ e_fr mTq w w' ∧ tkS w' N ∧ t ≤ w' 275 86) := by
              intro nn
              induction nn with
              | zero => intro z1 hj hm; obtain ⟨j61, j62⟩ := hj; exfalso; omega
              | succ nn ih60 =>
                intro z1 hj hm
                obtain ⟨j61, j62⟩ := hj
                refine e_Ok.run (t' := (57, [(0, (1, 275)), (1, (0, z1)), (2, (0, y2))], [(1, 275), (0, z1)], w)) 2 rfl ?_
                refine e_Ok.getf (z := N) rfl (el_o rfl) rfl (ef_o rfl) hN (by omega) ?_
                refine e_Ok.if2 rfl (fun h63 => ?_) (fun h63 => ?_)
                · replace h63 : (z1 : Int) ≥ N := h63
                  refine e_Ok.sub eAlk (e_sub_of rfl ?_) (ih2 z1 y2 ⟨by omega, by omega⟩ (by omega))
                  exact ⟨rfl, rfl, rfl, trivial⟩
                · replace h63 : (z1 : Int) < N := Int.not_le.mp (show ¬ ((z1 : Int) ≥ N) from h63)
                  refine e_Ok.ps1 (x := (1, 275)) (q := 64) 1 rfl ?_
                  refine e_Ok.getr (z := 281) rfl (el_o rfl) rfl (ef_o rfl) (e_Has.eq hT (mt_o rfl)) ⟨by decide, by decide⟩ ?_
                  refine e_Ok.ps1 (x := (0, z1)) (q := 68) 1 rfl ?_
                  have h64 := (e_Has.get hH (c := 281) (k := z1) (lo := (-128)) (hi := 127) rfl (by decide))
                  refine e_Ok.ald (z := w 281 z1) rfl (el_o rfl) rfl (by omega) rfl (e_bq h64 (by decide) (by decide)) ?_
                  refine e_Ok.ps1 (x := (0, 10)) (q := 71) 1 rfl ?_
                  refine e_Ok.if2 rfl (fun h65 => ?_) (fun h65 => ?_)
                  · replace h65 : (w 281 z1 : Int) = 10 := h65
                    refine e_Ok.sub eAlk (e_sub_of rfl ?_) (ih2 z1 y2 ⟨by omega, by omega⟩ (by omega))
                    exact ⟨rfl, rfl, rfl, trivial⟩
                  · replace h65 : (w 281 z1 : Int) ≠ 10 := (show ¬ ((w 281 z1 : Int) = 10) from h65)
                    refine e_Ok.inc (z := z1 + 1) rfl rfl (by first | with_reducible rfl | omega) (by omega) ?_
                    show e_Ok 20 elay ecode eI (d + 1) 327 (77, [(1, (0, z1 + 1)), (0, (1, 275)), (2, (0, y2))], [], w) _
                    refine e_Ok.ps0 (q := 55) 1 rfl ?_
                    refine e_Ok.sub eAlk (e_sub_of rfl ?_) (ih60 (z1 + 1) ⟨by omega, (Or.inl (by omega))⟩ (by omega))
                    exact ⟨rfl, rfl, rfl, trivial⟩
            refine e_Ok.sub eAlk (e_sub_of rfl ?_) (hL59 (4001 + 1 : Int).toNat y1 ⟨by omega, (Or.inr ⟨rfl, by omega⟩)⟩ (by omega))
            exact ⟨rfl, rfl, rfl, trivial⟩
        · replace h52 : (y1 : Int) < N := Int.not_le.mp (show ¬ ((y1 : Int) ≥ N) from h52)
          refine e_Ok.ps1 (x := (1, 275)) (q := 20) 1 rfl ?_
          refine e_Ok.getr (z := 281) rfl (el_o rfl) rfl (ef_o rfl) (e_Has.eq hT (mt_o rfl)) ⟨by decide, by decide⟩ ?_
          refine e_Ok.ps1 (x := (0, y1)) (q := 24) 1 rfl ?_
          have h66 := (e_Has.get hH (c := 281) (k := y1) (lo := (-128)) (hi := 127) rfl (by decide))
          refine e_Ok.ald (z := w 281 y1) rfl (el_o rfl) rfl (by omega) rfl (e_bq h66 (by decide) (by decide)) ?_
          refine e_Ok.if1 rfl (fun h67 => ?_) (fun h67 => ?_)
          · replace h67 : (w 281 y1 : Int) < 0 := h67
            refine e_Ok.ps2 (x := (0, y1)) (y := (1, 275)) (q := 47) 2 rfl ?_
            refine e_Ok.callV rfl (e_dq hd rfl) rfl rfl rfl rfl (c_326 hT hH hN hNr (by omega)) (fun r68 w69 h70 => ?_)
            obtain ⟨z71, rfl, rfl, q72⟩ := h70
            refine e_Ok.nrm (q := 50) (st' := [(0, z71)]) rfl rfl ?_
            refine e_Ok.ps1 (x := (0, 35)) (q := 52) 1 rfl ?_
            refine e_Ok.if2 rfl (fun h73 => ?_) (fun h73 => ?_)
            · replace h73 : (z71 : Int) ≠ 35 := h73
              refine e_Ok.run (t' := (7, [(2, (0, 0)), (0, (1, 275)), (1, (0, y1))], [], w)) 3 rfl ?_
              refine e_Ok.sub eAlk (e_sub_of rfl ?_) (ih2 y1 0 ⟨by omega, by omega⟩ (by omega))
              exact ⟨rfl, rfl, rfl, trivial⟩
            · replace h73 : (z71 : Int) = 35 := Classical.not_not.mp (show ¬ ((z71 : Int) ≠ 35) from h73)
              have hL74 : ∀ (nn : Nat) (z1 : Int), (y1 ≤ z1 ∧ z1 ≤ N) ∧ ((y1 < z1 ∨ (z1 = y1 ∧ w 281 z1 = 35))) → 4001 - z1 < nn → e_Ok 20 elay ecode eI (d + 1) 327 (55, [(0, (1, 275)), (1, (0, z1)), (2, (0, y2))], [], w) (fun r w' => r = [] ∧ e_fr mTq w w' ∧ tkS w' N ∧ t ≤ w' 275 86) := by
                intro nn
                induction nn with
                | zero => intro z1 hj hm; obtain ⟨j76, j77⟩ := hj; exfalso; omega
                | succ nn ih75 =>
                  intro z1 hj hm
                  obtain ⟨j76, j77⟩ := hj
                  refine e_Ok.run (t' := (57, [(0, (1, 275)), (1, (0, z1)), (2, (0, y2))], [(1, 275), (0, z1)], w)) 2 rfl ?_
                  refine e_Ok.getf (z := N) rfl (el_o rfl) rfl (ef_o rfl) hN (by omega) ?_
                  refine e_Ok.if2 rfl (fun h78 => ?_) (fun h78 => ?_)
                  · replace h78 : (z1 : Int) ≥ N := h78
                    refine e_Ok.sub eAlk (e_sub_of rfl ?_) (ih2 z1 y2 ⟨by omega, by omega⟩ (by omega))
                    exact ⟨rfl, rfl, rfl, trivial⟩
                  · replace h78 : (z1 : Int) < N := Int.not_le.mp (show ¬ ((z1 : Int) ≥ N) from h78)
                    refine e_Ok.ps1 (x := (1, 275)) (q := 64) 1 rfl ?_
                    refine e_Ok.getr (z := 281) rfl (el_o rfl) rfl (ef_o rfl) (e_Has.eq hT (mt_o rfl)) ⟨by decide, by decide⟩ ?_
                    refine e_Ok.ps1 (x := (0, z1)) (q := 68) 1 rfl ?_
                    have h79 := (e_Has.get hH (c := 281) (k := z1) (lo := (-128)) (hi := 127) rfl (by decide))
                    refine e_Ok.ald (z := w 281 z1) rfl (el_o rfl) rfl (by omega) rfl (e_bq h79 (by decide) (by decide)) ?_
                    refine e_Ok.ps1 (x := (0, 10)) (q := 71) 1 rfl ?_
                    refine e_Ok.if2 rfl (fun h80 => ?_) (fun h80 => ?_)
                    · replace h80 : (w 281 z1 : Int) = 10 := h80
                      refine e_Ok.sub eAlk (e_sub_of rfl ?_) (ih2 z1 y2 ⟨by omega, by omega⟩ (by omega))
                      exact ⟨rfl, rfl, rfl, trivial⟩
                    · replace h80 : (w 281 z1 : Int) ≠ 10 := (show ¬ ((w 281 z1 : Int) = 10) from h80)
                      refine e_Ok.inc (z := z1 + 1) rfl rfl (by first | with_reducible rfl | omega) (by omega) ?_
                      show e_Ok 20 elay ecode eI (d + 1) 327 (77, [(1, (0, z1 + 1)), (0, (1, 275)), (2, (0, y2))], [], w) _
                      refine e_Ok.ps0 (q := 55) 1 rfl ?_
                      refine e_Ok.sub eAlk (e_sub_of rfl ?_) (ih75 (z1 + 1) ⟨by omega, (Or.inl (by omega))⟩ (by omega))
                      exact ⟨rfl, rfl, rfl, trivial⟩
              refine e_Ok.sub eAlk (e_sub_of rfl ?_) (hL74 (4001 + 1 : Int).toNat y1 ⟨by omega, (Or.inr ⟨rfl, by omega⟩)⟩ (by omega))
              exact ⟨rfl, rfl, rfl, trivial⟩
          · replace h67 : (w 281 y1 : Int) ≥ 0 := Int.not_lt.mp (show ¬ ((w 281 y1 : Int) < 0) from h67)
            refine e_Ok.ps1 (x := (1, 275)) (q := 29) 1 rfl ?_
            refine e_Ok.getr (z := 281) rfl (el_o rfl) rfl (ef_o rfl) (e_Has.eq hT (mt_o rfl)) ⟨by decide, by decide⟩ ?_
            refine e_Ok.ps1 (x := (0, y1)) (q := 33) 1 rfl ?_
            refine e_Ok.ald (z := w 281 y1) rfl (el_o rfl) rfl (by omega) rfl (by omega) ?_
            refine e_Ok.ps1 (x := (0, 32)) (q := 36) 1 rfl ?_
            refine e_Ok.if2 rfl (fun h81 => ?_) (fun h81 => ?_)
            · replace h81 : (w 281 y1 : Int) > 32 := h81
              refine e_Ok.ps2 (x := (0, y1)) (y := (1, 275)) (q := 47) 2 rfl ?_
              refine e_Ok.callV rfl (e_dq hd rfl) rfl rfl rfl rfl (c_326 hT hH hN hNr (by omega)) (fun r82 w83 h84 => ?_)
              obtain ⟨z85, rfl, rfl, q86⟩ := h84
              refine e_Ok.nrm (q := 50) (st' := [(0, z85)]) rfl rfl ?_
              refine e_Ok.ps1 (x := (0, 35)) (q := 52) 1 rfl ?_
              refine e_Ok.if2 rfl (fun h87 => ?_) (fun h87 => ?_)
              · replace h87 : (z85 : Int) ≠ 35 := h87
                refine e_Ok.run (t' := (7, [(2, (0, 0)), (0, (1, 275)), (1, (0, y1))], [], w)) 3 rfl ?_
                refine e_Ok.sub eAlk (e_sub_of rfl ?_) (ih2 y1 0 ⟨by omega, by omega⟩ (by omega))
                exact ⟨rfl, rfl, rfl, trivial⟩
              · replace h87 : (z85 : Int) = 35 := Classical.not_not.mp (show ¬ ((z85 : Int) ≠ 35) from h87)
                have hL88 : ∀ (nn : Nat) (z1 : Int), (y1 ≤ z1 ∧ z1 ≤ N) ∧ ((y1 < z1 ∨ (z1 = y1 ∧ w 281 z1 = 35))) → 4001 - z1 < nn → e_Ok 20 elay ecode eI (d + 1) 327 (55, [(0, (1, 275)), (1, (0, z1)), (2, (0, y2))], [], w) (fun r w' => r = [] ∧ e_fr mTq w w' ∧ tkS w' N ∧ t ≤ w' 275 86) := by
                  intro nn
                  induction nn with
                  | zero => intro z1 hj hm; obtain ⟨j90, j91⟩ := hj; exfalso; omega
                  | succ nn ih89 =>
                    intro z1 hj hm
                    obtain ⟨j90, j91⟩ := hj
                    refine e_Ok.run (t' := (57, [(0, (1, 275)), (1, (0, z1)), (2, (0, y2))], [(1, 275), (0, z1)], w)) 2 rfl ?_
                    refine e_Ok.getf (z := N) rfl (el_o rfl) rfl (ef_o rfl) hN (by omega) ?_
                    refine e_Ok.if2 rfl (fun h92 => ?_) (fun h92 => ?_)
                    · replace h92 : (z1 : Int) ≥ N := h92
                      refine e_Ok.sub eAlk (e_sub_of rfl ?_) (ih2 z1 y2 ⟨by omega, by omega⟩ (by omega))
                      exact ⟨rfl, rfl, rfl, trivial⟩
                    · replace h92 : (z1 : Int) < N := Int.not_le.mp (show ¬ ((z1 : Int) ≥ N) from h92)
                      refine e_Ok.ps1 (x := (1, 275)) (q := 64) 1 rfl ?_
                      refine e_Ok.getr (z := 281) rfl (el_o rfl) rfl (ef_o rfl) (e_Has.eq hT (mt_o rfl)) ⟨by decide, by decide⟩ ?_
                      refine e_Ok.ps1 (x := (0, z1)) (q := 68) 1 rfl ?_
                      have h93 := (e_Has.get hH (c := 281) (k := z1) (lo := (-128)) (hi := 127) rfl (by decide))
                      refine e_Ok.ald (z := w 281 z1) rfl (el_o rfl) rfl (by omega) rfl (e_bq h93 (by decide) (by decide)) ?_
                      refine e_Ok.ps1 (x := (0, 10)) (q := 71) 1 rfl ?_
                      refine e_Ok.if2 rfl (fun h94 => ?_) (fun h94 => ?_)
                      · replace h94 : (w 281 z1 : Int) = 10 := h94
                        refine e_Ok.sub eAlk (e_sub_of rfl ?_) (ih2 z1 y2 ⟨by omega, by omega⟩ (by omega))
                        exact ⟨rfl, rfl, rfl, trivial⟩
                      · replace h94 : (w 281 z1 : Int) ≠ 10 := (show ¬ ((w 281 z1 : Int) = 10) from h94)
                        refine e_Ok.inc (z := z1 + 1) rfl rfl (by first | with_reducible rfl | omega) (by omega) ?_
                        show e_Ok 20 elay ecode eI (d + 1) 327 (77, [(1, (0, z1 + 1)), (0, (1, 275)), (2, (0, y2))], [], w) _
                        refine e_Ok.ps0 (q := 55) 1 rfl ?_
                        refine e_Ok.sub eAlk (e_sub_of rfl ?_) (ih89 (z1 + 1) ⟨by omega, (Or.inl (by omega))⟩ (by omega))
                        exact ⟨rfl, rfl, rfl, trivial⟩
                refine e_Ok.sub eAlk (e_sub_of rfl ?_) (hL88 (4001 + 1 : Int).toNat y1 ⟨by omega, (Or.inr ⟨rfl, by omega⟩)⟩ (by omega))
                exact ⟨rfl, rfl, rfl, trivial⟩
            · replace h81 : (w 281 y1 : Int) ≤ 32 := Int.not_lt.mp (show ¬ ((w 281 y1 : Int) > 32) from h81)
              refine e_Ok.inc (z := y1 + 1) rfl rfl (by first | with_reducible rfl | omega) (by omega) ?_
              show e_Ok 20 elay ecode eI (d + 1) 327 (42, [(1, (0, y1 + 1)), (0, (1, 275)), (2, (0, y2))], [], w) _
              refine e_Ok.ps0 (q := 7) 1 rfl ?_
              refine e_Ok.sub eAlk (e_sub_of rfl ?_) (ih2 (y1 + 1) y2 ⟨by omega, by omega⟩ (by omega))
              exact ⟨rfl, rfl, rfl, trivial⟩
  refine e_Ok.sub eAlk (e_sub_of rfl ?_) (hL1 (8003 + 1 : Int).toNat t 1 ⟨by omega, by omega⟩ (by omega))
  exact ⟨rfl, rfl, rfl, trivial⟩
end
end
-- part 9x
section
noncomputable section
/-! the text that is read becomes a program: what is emitted so far -/
/-- how many numbers lie on the stack behind an instruction -/
def nxD (o d : Int) : Int := if o = 1 ∨ o = 2 ∨ o = 5 ∨ o = 6 ∨ o = 7 ∨ o = 8 then d + 1 else if 30 ≤ o then 0 else if (10 ≤ o ∧ o ≤ 20) ∨ o = 22 ∨ o = 23 then d - 1 else d
def dpN (w : eW) : Nat → Int
  | 0 => 0
  | p + 1 => nxD (w 328 ((p : Int) + 40000)) (dpN w p)
def dp (w : eW) (p : Int) : Int := dpN w p.toNat
def sgO (o : Int) : Int := if o < 30 ∨ (31 ≤ o ∧ o ≤ 44) ∨ o = 47 then 1 else 0
theorem dpN_eq {w w' : eW} : ∀ {p : Nat}, (∀ k : Int, 0 ≤ k → k < p → w' 328 (k + 40000) = w 328 (k + 40000)) → dpN w' p = dpN w p
  | 0, _ => rfl
  | p + 1, h => by
    show nxD (w' 328 ((p : Int) + 40000)) (dpN w' p) = nxD (w 328 ((p : Int) + 40000)) (dpN w p)
    rw [h p (by omega) (by omega), dpN_eq (p := p) (fun k g1 g2 => h k g1 (by omega))]
theorem dp_eq {w w' : eW} {p : Int} (h : ∀ k : Int, 0 ≤ k → k < p → w' 328 (k + 40000) = w 328 (k + 40000)) : dp w' p = dp w p := dpN_eq (fun k g1 g2 => h k g1 (by omega))
theorem dp_next (w : eW) {p : Int} (hp : 0 ≤ p) : dp w (p + 1) = nxD (w 328 (p + 40000)) (dp w p) := by
  unfold dp
  rw [show (p + 1).toNat = p.toNat + 1 by omega]
  show nxD (w 328 ((p.toNat : Int) + 40000)) _ = _
  rw [show ((p.toNat : Nat) : Int) = p by omega]
theorem dp_zero (w : eW) : dp w 0 = 0 := rfl
/-- of a place itself: d numbers on the stack, the instruction o, its operand x -/
def iOw (d o x : Int) : Prop :=
  (1 ≤ o ∧ o ≤ 51 ∧ (o ≤ 24 ∨ 30 ≤ o)) ∧ (0 ≤ d ∧ d ≤ 4100) ∧
  (o = 3 ∨ o = 4 ∨ o = 9 ∨ o = 21 ∨ o = 24 ∨ o = 22 ∨ o = 23 → 1 ≤ d) ∧ (10 ≤ o ∧ o ≤ 20 → 2 ≤ d) ∧
  (o = 31 ∨ o = 33 ∨ o = 34 ∨ o = 36 ∨ o = 37 ∨ o = 40 ∨ o = 41 ∨ o = 44 ∨ o = 47 → d = 1) ∧ (o = 32 → d = x) ∧ (o = 35 → d = 2) ∧
  (o = 30 ∨ o = 38 ∨ o = 39 ∨ o = 42 ∨ o = 43 ∨ o = 45 ∨ o = 46 ∨ 48 ≤ o → d = 0)
/-- what the place p asks of the place behind it (its instruction is q, its region s) -/
def iNx (w : eW) (nt p q s : Int) : Prop :=
  (w 328 (p + 40000) < 30 → sgO q = 1 ∧ s = w 330 (p + 40000)) ∧
  ((31 ≤ w 328 (p + 40000) ∧ w 328 (p + 40000) ≤ 44) ∨ w 328 (p + 40000) = 47 → sgO q = 0 ∧ s = w 330 (p + 40000)) ∧
  (w 328 (p + 40000) = 30 → s = w 330 (p + 40000) ∨ ∃ t, 0 ≤ t ∧ t < nt ∧ s = 3 * t ∧ w 331 (t + 3600) = w 330 (p + 40000))
/-- .. and of the place that it goes to, if that is q -/
def iGo (w : eW) (p q o s : Int) : Prop := w 329 (p + 40000) = q →
  (w 328 (p + 40000) = 22 ∨ w 328 (p + 40000) = 23 → dp w q = dp w p ∧ sgO o = 1 ∧ s = w 330 (p + 40000)) ∧
  (w 328 (p + 40000) = 34 → dp w q = 0 ∧ s = w 330 (p + 40000)) ∧
  (w 328 (p + 40000) = 47 ∨ w 328 (p + 40000) = 48 → dp w q = 0 ∧ sgO o = 0 ∧ s = w 330 (p + 40000))
def iJp (o : Int) : Prop := o = 22 ∨ o = 23 ∨ o = 34 ∨ o = 47 ∨ o = 48
/-- where a jump may go -/
def iTo (w : eW) (n p : Int) : Prop :=
  (w 328 (p + 40000) = 22 ∨ w 328 (p + 40000) = 23 ∨ w 328 (p + 40000) = 47 → p < w 329 (p + 40000) ∧ w 329 (p + 40000) ≤ n) ∧
  (w 328 (p + 40000) = 34 → 0 ≤ w 329 (p + 40000) ∧ w 329 (p + 40000) ≤ p) ∧
  (w 328 (p + 40000) = 48 → (p < w 329 (p + 40000) ∧ w 329 (p + 40000) ≤ n) ∨ (0 ≤ w 329 (p + 40000) ∧ w 329 (p + 40000) < p ∧ w 328 (w 329 (p + 40000) + 40000) = 30))
/-- all that is emitted up to n; P: places whose operand is still to come -/
def PI (w : eW) (n nt : Int) (P : Int → Prop) : Prop := ∀ p, 0 ≤ p → p < n → iOw (dp w p) (w 328 (p + 40000)) (w 329 (p + 40000)) ∧ (p + 1 < n → iNx w nt p (w 328 (p + 1 + 40000)) (w 330 (p + 1 + 40000))) ∧ (¬ P p → iTo w n p ∧ ∀ q, 0 ≤ q → q < n → iGo w p q (w 328 (q + 40000)) (w 330 (q + 40000)))
/-- what is asked of the next place: an instruction o of the region s may stand there -/
def RQ (w : eW) (n nt : Int) (P : Int → Prop) (o s : Int) : Prop := ∀ p, 0 ≤ p → p < n → (p + 1 = n → iNx w nt p o s) ∧ (¬ P p → iGo w p n o s)
/-- an instruction was emitted -/
def EM (w w' : eW) (n o x s : Int) : Prop := (∀ c k, ¬ (((c = 328 ∨ c = 329 ∨ c = 330) ∧ k = n + 40000) ∨ (c = 275 ∧ k = 78)) → w' c k = w c k) ∧ w' 328 (n + 40000) = o ∧ w' 329 (n + 40000) = x ∧ w' 330 (n + 40000) = s ∧ w' 275 78 = n + 1
theorem EM.dq {w w' : eW} {n o x s p : Int} (h : EM w w' n o x s) (hp : p ≤ n) : dp w' p = dp w p := dp_eq (fun k g1 g2 => h.1 328 _ (by omega))
theorem EM.dq1 {w w' : eW} {n o x s : Int} (h : EM w w' n o x s) (hn : 0 ≤ n) : dp w' (n + 1) = nxD o (dp w n) := by
  rw [dp_next w' hn, h.2.1, h.dq (Int.le_refl n)]
theorem iNx.eq {w w' : eW} {nt nt' p q s : Int} (h : iNx w nt p q s) (hn : nt ≤ nt') (h8 : w' 328 (p + 40000) = w 328 (p + 40000)) (h0 : w' 330 (p + 40000) = w 330 (p + 40000)) (h1 : ∀ t, 0 ≤ t → t < nt → w' 331 (t + 3600) = w 331 (t + 3600)) : iNx w' nt' p q s := by
  obtain ⟨q1, q2, q3⟩ := h
  unfold iNx
  rw [h8, h0]
  refine ⟨q1, q2, fun e => (q3 e).imp id (fun ⟨t, t1, t2, t3, t4⟩ => ⟨t, t1, by omega, t3, by rw [h1 t t1 t2]; exact t4⟩)⟩
theorem iGo.eq {w w' : eW} {p q o s : Int} (h : iGo w p q o s) (h8 : w' 328 (p + 40000) = w 328 (p + 40000)) (h9 : w' 329 (p + 40000) = w 329 (p + 40000)) (h0 : w' 330 (p + 40000) = w 330 (p + 40000)) (hd : dp w' p = dp w p) (hq : dp w' q = dp w q) : iGo w' p q o s := by
  unfold iGo at h ⊢
  rw [h8, h9, h0, hd, hq]
  exact h
theorem iTo.eq {w w' : eW} {n n' p : Int} (h : iTo w n p) (hn : n ≤ n') (h8 : ∀ k, 0 ≤ k → k ≤ p → w' 328 (k + 40000) = w 328 (k + 40000)) (h9 : w' 329 (p + 40000) = w 329 (p + 40000)) (hp : 0 ≤ p) : iTo w' n' p := by
  obtain ⟨q1, q2, q3⟩ := h
  unfold iTo
  rw [h8 p hp (Int.le_refl p), h9]
  refine ⟨fun e => by have := q1 e; omega, q2, fun e => ?_⟩
  rcases q3 e with g | ⟨g1, g2, g3⟩
  · exact Or.inl (by omega)
  · exact Or.inr ⟨g1, g2, by rw [h8 _ g1 (by omega)]; exact g3⟩
/-- the emitted part, with one instruction more; J: its operand is still to come, if it is a jump -/
theorem PI.em {w w' : eW} {n nt o x s : Int} {P P' : Int → Prop} (h : PI w n nt P) (hq : RQ w n nt P o s) (he : EM w w' n o x s) (hn : 0 ≤ n) (ho : iOw (dp w n) o x) (hP : ∀ p, p < n → P p → P' p) (hP2 : ∀ p, p < n → P' p → P p) (hj : ¬ P' n → iTo w' (n + 1) n ∧ ∀ q, 0 ≤ q → q ≤ n → iGo w' n q (w' 328 (q + 40000)) (w' 330 (q + 40000))) : PI w' (n + 1) nt P' := fun p g1 g2 => by
  have e8 : ∀ k, k < n → w' 328 (k + 40000) = w 328 (k + 40000) := fun k q => he.1 _ _ (by omega)
  have e9 : ∀ k, k < n → w' 329 (k + 40000) = w 329 (k + 40000) := fun k q => he.1 _ _ (by omega)
  have e0 : ∀ k, k < n → w' 330 (k + 40000) = w 330 (k + 40000) := fun k q => he.1 _ _ (by omega)
  have e1 : ∀ t, 0 ≤ t → t < nt → w' 331 (t + 3600) = w 331 (t + 3600) := fun t _ _ => he.1 _ _ (by omega)
  by_cases e : p = n
  · subst e
    refine ⟨by rw [he.dq (Int.le_refl p), he.2.1, he.2.2.1]; exact ho, fun q => by omega, fun q => ⟨(hj q).1, fun k k1 k2 => (hj q).2 k k1 (by omega)⟩⟩
  · obtain ⟨i1, i2, i3⟩ := h p g1 (by omega)
    obtain ⟨r1, r2⟩ := hq p g1 (by omega)
    refine ⟨by rw [he.dq (by omega), e8 p (by omega), e9 p (by omega)]; exact i1, fun q => ?_, fun q => ?_⟩
    · by_cases e2 : p + 1 = n
      · rw [show p + 1 + 40000 = n + 40000 by omega, he.2.1, he.2.2.2.1]
        exact (r1 e2).eq (Int.le_refl nt) (e8 p (by omega)) (e0 p (by omega)) e1
      · rw [e8 (p + 1) (by omega), e0 (p + 1) (by omega)]
        exact (i2 (by omega)).eq (Int.le_refl nt) (e8 p (by omega)) (e0 p (by omega)) e1
    · have q' : ¬ P p := fun g => q (hP p (by omega) g)
      refine ⟨(i3 q').1.eq (by omega) (fun k _ k2 => e8 k (by omega)) (e9 p (by omega)) g1, fun k k1 k2 => ?_⟩
      by_cases e3 : k = n
      · subst e3
        rw [he.2.1, he.2.2.2.1]
        exact (r2 q').eq (e8 p (by omega)) (e9 p (by omega)) (e0 p (by omega)) (he.dq (by omega)) (he.dq (Int.le_refl k))
      · rw [e8 k (by omega), e0 k (by omega)]
        exact ((i3 q').2 k k1 (by omega)).eq (e8 p (by omega)) (e9 p (by omega)) (e0 p (by omega)) (he.dq (by omega)) (he.dq (by omega))
/-- behind an instruction: what it asks alone -/
theorem RQ.em {w w' : eW} {n nt o x s o' s' : Int} {P P' : Int → Prop} (h : PI w n nt P) (he : EM w w' n o x s) (hn : 0 ≤ n) (hP : ∀ p, p < n → P p → P' p) (hP2 : ∀ p, p < n → P' p → P p) (hx : iNx w' nt n o' s') (hg : ¬ P' n → iGo w' n (n + 1) o' s') : RQ w' (n + 1) nt P' o' s' := fun p g1 g2 => by
  by_cases e : p = n
  · subst e
    exact ⟨fun _ => hx, hg⟩
  · refine ⟨fun q => by omega, fun q g => ?_⟩
    obtain ⟨-, -, i3⟩ := h p g1 (by omega)
    have := (i3 (fun g => q (hP p (by omega) g))).1
    unfold iTo at this
    rw [he.1 329 (p + 40000) (by omega)] at g
    rw [he.1 328 (p + 40000) (by omega)]
    refine ⟨fun q1 => ?_, fun q1 => ?_, fun q1 => ?_⟩ <;> (exfalso; omega)
end
end
-- part 9y
section
noncomputable section
def mRf (c k : Int) : Prop := c = 275 ∧ 88 ≤ k ∧ k ≤ 89
def mNm (c k : Int) : Prop := (341 ≤ c ∧ c ≤ 344) ∨ (c = 275 ∧ k = 94)
theorem mT_Rf {w w' : eW} (f : e_fr mRf w w') (h : e_Has mTy w) : e_Has mTy w' := h.fr (fun c k q => by obtain ⟨rfl, q⟩ := q; obtain rfl | rfl : k = 88 ∨ k = 89 := (by omega) <;> rfl) f
theorem hT_Rf {w w' : eW} (f : e_fr mRf w w') (h : e_Has hTy w) (h8 : 0 ≤ w' 275 88 ∧ w' 275 88 ≤ 7) (h9 : -2147483648 ≤ w' 275 89 ∧ w' 275 89 ≤ 2147483647) : e_Has hTy w' := fun c k hl => by
  by_cases q : mRf c k
  · obtain ⟨rfl, q⟩ := q
    obtain rfl | rfl : k = 88 ∨ k = 89 := by omega
    · exact h8
    · exact h9
  · rw [f c k q]
    exact h c k hl
theorem c_336 {d : Nat} {w : eW} (hT : e_Has mTy w) {n s o x : Int} (hn : w 275 78 = n) (hnr : 0 ≤ n ∧ n ≤ 9999) (hs : w 275 81 = s) (hsr : -2147483648 ≤ s ∧ s ≤ 2147483647) : e_Ok 20 elay ecode eI d 336 (0, [(0, (1, 275)), (1, (0, o)), (2, (0, x))], [], w) (fun r w' => r = [(0, n)] ∧ EM w w' n o x s) := by
  refine e_Ok.ps2 (x := (1, 275)) (y := (0, 40000)) (q := 4) 2 rfl ?_
  refine e_Ok.getf (z := n) rfl (el_o rfl) rfl (ef_o rfl) hn (by omega) ?_
  refine e_Ok.add (z := n + 40000) rfl (Int.add_comm _ _) (by omega) ?_
  refine e_Ok.run (t' := (10, [(3, (0, n + 40000)), (0, (1, 275)), (1, (0, o)), (2, (0, x))], [(1, 275)], w)) 2 rfl ?_
  refine e_Ok.getr (z := 328) rfl (el_o rfl) rfl (ef_o rfl) (e_Has.eq hT (mt_o rfl)) ⟨by decide, by decide⟩ ?_
  refine e_Ok.ps2 (x := (0, o)) (y := (0, n + 40000)) (q := 15) 2 rfl ?_
  refine e_Ok.ast rfl (el_o rfl) rfl rfl (by omega) ?_
  generalize hw1 : e_up w 328 (n + 40000) o = w1
  refine e_Ok.ps1 (x := (1, 275)) (q := 17) 1 rfl ?_
  refine e_Ok.getr (z := 329) rfl (el_o rfl) rfl (ef_o rfl) (e_uq hw1 (Or.inl (by decide)) (e_Has.eq hT (mt_o rfl))) ⟨by decide, by decide⟩ ?_
  refine e_Ok.ps2 (x := (0, x)) (y := (0, n + 40000)) (q := 22) 2 rfl ?_
  refine e_Ok.ast rfl (el_o rfl) rfl rfl (by omega) ?_
  generalize hw2 : e_up w1 329 (n + 40000) x = w2
  refine e_Ok.ps1 (x := (1, 275)) (q := 24) 1 rfl ?_
  refine e_Ok.getr (z := 330) rfl (el_o rfl) rfl (ef_o rfl) (e_uq hw2 (Or.inl (by decide)) (e_uq hw1 (Or.inl (by decide)) (e_Has.eq hT (mt_o rfl)))) ⟨by decide, by decide⟩ ?_
  refine e_Ok.ps2 (x := (1, 275)) (y := (0, n + 40000)) (q := 29) 2 rfl ?_
  refine e_Ok.getf (z := s) rfl (el_o rfl) rfl (ef_o rfl) (e_uq hw2 (Or.inl (by decide)) (e_uq hw1 (Or.inl (by decide)) hs)) (by omega) ?_
  refine e_Ok.ast rfl (el_o rfl) rfl rfl (by omega) ?_
  generalize hw3 : e_up w2 330 (n + 40000) s = w3
  refine e_Ok.ps2 (x := (1, 275)) (y := (1, 275)) (q := 35) 2 rfl ?_
  refine e_Ok.getf (z := n) rfl (el_o rfl) rfl (ef_o rfl) (e_uq hw3 (Or.inl (by decide)) (e_uq hw2 (Or.inl (by decide)) (e_uq hw1 (Or.inl (by decide)) hn))) (by omega) ?_
  refine e_Ok.ps1 (x := (0, 1)) (q := 39) 1 rfl ?_
  refine e_Ok.add (z := n + 1) rfl rfl (by omega) ?_
  refine e_Ok.putf rfl (el_o rfl) rfl (ef_o rfl) ?_
  generalize hw4 : e_up w3 275 78 (n + 1) = w4
  refine e_Ok.ps1 (x := (1, 275)) (q := 44) 1 rfl ?_
  refine e_Ok.getf (z := n + 1) rfl (el_o rfl) rfl (ef_o rfl) (e_ue hw4) (by omega) ?_
  refine e_Ok.ps1 (x := (0, 1)) (q := 48) 1 rfl ?_
  refine e_Ok.sub' (z := n) rfl (by omega) (by omega) ?_
  refine e_Ok.rets rfl rfl ?_
  exact ⟨rfl, (fun c k q => by rw [← hw4, ← hw3, ← hw2, ← hw1]; exact (e_up_ne _ _ (by omega)).trans ((e_up_ne _ _ (by omega)).trans ((e_up_ne _ _ (by omega)).trans (e_up_ne _ _ (by omega))))), (e_uq hw4 (Or.inl (by omega)) (e_uq hw3 (Or.inl (by omega)) (e_uq hw2 (Or.inl (by omega)) (e_ue hw1)))), (e_uq hw4 (Or.inl (by omega)) (e_uq hw3 (Or.inl (by omega)) (e_ue hw2))), (e_uq hw4 (Or.inl (by omega)) (e_ue hw3)), (e_ue hw4)⟩
theorem c_337 {d : Nat} {w : eW} (hT : e_Has mTy w) {n a : Int} (hn : w 275 78 = n) (hnr : 0 ≤ n ∧ n ≤ 10000) (ha : 0 ≤ a ∧ a ≤ 9999) : e_Ok 20 elay ecode eI d 337 (0, [(0, (1, 275)), (1, (0, a))], [], w) (fun r w' => r = [] ∧ e_up w 329 (a + 40000) n = w') := by
  refine e_Ok.ps1 (x := (1, 275)) (q := 1) 1 rfl ?_
  refine e_Ok.getr (z := 329) rfl (el_o rfl) rfl (ef_o rfl) (e_Has.eq hT (mt_o rfl)) ⟨by decide, by decide⟩ ?_
  refine e_Ok.ps2 (x := (0, a)) (y := (0, 40000)) (q := 8) 2 rfl ?_
  refine e_Ok.add (z := a + 40000) rfl (Int.add_comm _ _) (by omega) ?_
  refine e_Ok.ps1 (x := (1, 275)) (q := 10) 1 rfl ?_
  refine e_Ok.getf (z := n) rfl (el_o rfl) rfl (ef_o rfl) hn (by omega) ?_
  refine e_Ok.ast rfl (el_o rfl) rfl rfl (by omega) ?_
  generalize hw1 : e_up w 329 (a + 40000) n = w1
  refine e_Ok.rets rfl rfl ?_
  exact ⟨rfl, rfl⟩
theorem c_331 {d : Nat} {w : eW} (hT : e_Has mTy w) {N b : Int} (ht : tkS w N) : e_Ok 20 elay ecode eI d 331 (0, [(0, (1, 275)), (1, (0, b))], [], w) (fun r w' => ∃ z : Int, r = [(0, z)] ∧ w = w' ∧ ((z = 1 ∧ w 275 84 = 3 ∧ w 275 85 = b) ∨ (z = 0 ∧ ¬ (w 275 84 = 3 ∧ w 275 85 = b)))) := by
  unfold tkS tkV at ht
  refine e_Ok.ps1 (x := (1, 275)) (q := 1) 1 rfl ?_
  refine e_Ok.getf (z := w 275 84) rfl (el_o rfl) rfl (ef_o rfl) rfl (by omega) ?_
  refine e_Ok.ps1 (x := (0, 3)) (q := 5) 1 rfl ?_
  refine e_Ok.if2 rfl (fun h1 => ?_) (fun h1 => ?_)
  · replace h1 : (w 275 84 : Int) ≠ 3 := h1
    refine e_Ok.ps1 (x := (0, 0)) (q := 21) 1 rfl ?_
    refine e_Ok.rets rfl rfl ?_
    exact ⟨_, rfl, rfl, Or.inr ⟨rfl, by omega⟩⟩
  · replace h1 : (w 275 84 : Int) = 3 := Classical.not_not.mp (show ¬ ((w 275 84 : Int) ≠ 3) from h1)
    refine e_Ok.ps1 (x := (1, 275)) (q := 9) 1 rfl ?_
    refine e_Ok.getf (z := w 275 85) rfl (el_o rfl) rfl (ef_o rfl) rfl (by omega) ?_
    refine e_Ok.ps1 (x := (0, b)) (q := 13) 1 rfl ?_
    refine e_Ok.if2 rfl (fun h2 => ?_) (fun h2 => ?_)
    · replace h2 : (w 275 85 : Int) ≠ b := h2
      refine e_Ok.ps1 (x := (0, 0)) (q := 21) 1 rfl ?_
      refine e_Ok.rets rfl rfl ?_
      exact ⟨_, rfl, rfl, Or.inr ⟨rfl, by omega⟩⟩
    · replace h2 : (w 275 85 : Int) = b := Classical.not_not.mp (show ¬ ((w 275 85 : Int) ≠ b) from h2)
      refine e_Ok.ps1 (x := (0, 1)) (q := 21) 2 rfl ?_
      refine e_Ok.rets rfl rfl ?_
      exact ⟨_, rfl, rfl, Or.inl ⟨rfl, by omega, by omega⟩⟩
theorem c_332 {d : Nat} {w : eW} (hT : e_Has mTy w) {N b : Int} (ht : tkS w N) : e_Ok 20 elay ecode eI d 332 (0, [(0, (1, 275)), (1, (0, b))], [], w) (fun r w' => ∃ z : Int, r = [(0, z)] ∧ w = w' ∧ ((z = 1 ∧ w 275 84 = 4 ∧ w 275 85 = b) ∨ (z = 0 ∧ ¬ (w 275 84 = 4 ∧ w 275 85 = b)))) := by
  unfold tkS tkV at ht
  refine e_Ok.ps1 (x := (1, 275)) (q := 1) 1 rfl ?_
  refine e_Ok.getf (z := w 275 84) rfl (el_o rfl) rfl (ef_o rfl) rfl (by omega) ?_
  refine e_Ok.ps1 (x := (0, 4)) (q := 5) 1 rfl ?_
  refine e_Ok.if2 rfl (fun h1 => ?_) (fun h1 => ?_)
  · replace h1 : (w 275 84 : Int) ≠ 4 := h1
    refine e_Ok.ps1 (x := (0, 0)) (q := 21) 1 rfl ?_
    refine e_Ok.rets rfl rfl ?_
    exact ⟨_, rfl, rfl, Or.inr ⟨rfl, by omega⟩⟩
  · replace h1 : (w 275 84 : Int) = 4 := Classical.not_not.mp (show ¬ ((w 275 84 : Int) ≠ 4) from h1)
    refine e_Ok.ps1 (x := (1, 275)) (q := 9) 1 rfl ?_
    refine e_Ok.getf (z := w 275 85) rfl (el_o rfl) rfl (ef_o rfl) rfl (by omega) ?_
    refine e_Ok.ps1 (x := (0, b)) (q := 13) 1 rfl ?_
    refine e_Ok.if2 rfl (fun h2 => ?_) (fun h2 => ?_)
    · replace h2 : (w 275 85 : Int) ≠ b := h2
      refine e_Ok.ps1 (x := (0, 0)) (q := 21) 1 rfl ?_
      refine e_Ok.rets rfl rfl ?_
      exact ⟨_, rfl, rfl, Or.inr ⟨rfl, by omega⟩⟩
    · replace h2 : (w 275 85 : Int) = b := Classical.not_not.mp (show ¬ ((w 275 85 : Int) ≠ b) from h2)
      refine e_Ok.ps1 (x := (0, 1)) (q := 21) 2 rfl ?_
      refine e_Ok.rets rfl rfl ?_
      exact ⟨_, rfl, rfl, Or.inl ⟨rfl, by omega, by omega⟩⟩
theorem c_333 {d : Nat} {w : eW} (hT : e_Has mTy w) (hH : e_Has hTy w) {N : Int} (hN : w 275 9 = N) (hNr : 0 ≤ N ∧ N ≤ 4000) (ht : tkS w N) {f : Int} (hf : 1 ≤ f ∧ f ≤ 3) : e_Ok 20 elay ecode eI d 333 (0, [(0, (1, 275)), (1, (0, f))], [], w) (fun r w' => r = [] ∧ ((w = w' ∧ w 275 88 ≠ 0) ∨ (w 275 88 = 0 ∧ e_fr mRf w w' ∧ e_Has mTy w' ∧ e_Has hTy w' ∧ 1 ≤ w' 275 88 ∧ w' 275 88 ≤ 3))) := by
  have ht0 := ht
  unfold tkS tkV at ht
  have hfk := e_Has.get hH (c := 275) (k := 88) (lo := 0) (hi := 7) rfl (by decide)
  refine e_Ok.ps1 (x := (1, 275)) (q := 1) 1 rfl ?_
  have h1 := (e_Has.get hH (c := 275) (k := 88) (lo := 0) (hi := 7) rfl (by decide))
  refine e_Ok.getf (z := w 275 88) rfl (el_o rfl) rfl (ef_o rfl) rfl (e_bq h1 (by decide) (by decide)) ?_
  refine e_Ok.if1 rfl (fun h2 => ?_) (fun h2 => ?_)
  · replace h2 : (w 275 88 : Int) ≠ 0 := h2
    refine e_Ok.rets rfl rfl ?_
    exact ⟨rfl, Or.inl ⟨rfl, by omega⟩⟩
  · replace h2 : (w 275 88 : Int) = 0 := Classical.not_not.mp (show ¬ ((w 275 88 : Int) ≠ 0) from h2)
    refine e_Ok.ps2 (x := (1, 275)) (y := (1, 275)) (q := 9) 2 rfl ?_
    refine e_Ok.getf (z := w 275 84) rfl (el_o rfl) rfl (ef_o rfl) rfl (by omega) ?_
    refine e_Ok.ps1 (x := (0, 5)) (q := 13) 1 rfl ?_
    refine e_Ok.if2 rfl (fun h3 => ?_) (fun h3 => ?_)
    · replace h3 : (w 275 84 : Int) ≠ 5 := h3
      refine e_Ok.ps1 (x := (0, f)) (q := 21) 1 rfl ?_
      refine e_Ok.putf rfl (el_o rfl) rfl (ef_o rfl) ?_
      generalize hw4 : e_up w 275 88 f = w4
      refine e_Ok.ps2 (x := (1, 275)) (y := (1, 275)) (q := 26) 2 rfl ?_
      refine e_Ok.getf (z := w 275 86) rfl (el_o rfl) rfl (ef_o rfl) (e_uq hw4 (Or.inr (by decide)) rfl) (by omega) ?_
      refine e_Ok.putf rfl (el_o rfl) rfl (ef_o rfl) ?_
      generalize hw6 : e_up w4 275 89 (w 275 86) = w6
      have f7 : e_fr mRf w w6 := e_fr.up (show e_fr mRf w w4 from e_fr.up (e_fr.refl w) hw4 (by first | exact ⟨rfl, ⟨(by decide), (by decide)⟩⟩ | (unfold mRf; omega))) hw6 (by first | exact ⟨rfl, ⟨(by decide), (by decide)⟩⟩ | (unfold mRf; omega))
      refine e_Ok.rets rfl rfl ?_
      have e8 : w6 275 88 = f := (e_uq hw6 (Or.inr (by decide)) (e_ue hw4))
      have e9 : w6 275 89 = w 275 86 := (e_ue hw6)
      exact ⟨rfl, Or.inr ⟨by omega, f7, mT_Rf f7 hT, hT_Rf f7 hH (by omega) (by omega), by omega⟩⟩
    · replace h3 : (w 275 84 : Int) = 5 := Classical.not_not.mp (show ¬ ((w 275 84 : Int) ≠ 5) from h3)
      refine e_Ok.ps1 (x := (0, 1)) (q := 21) 2 rfl ?_
      refine e_Ok.putf rfl (el_o rfl) rfl (ef_o rfl) ?_
      generalize hw8 : e_up w 275 88 1 = w8
      refine e_Ok.ps2 (x := (1, 275)) (y := (1, 275)) (q := 26) 2 rfl ?_
      refine e_Ok.getf (z := w 275 86) rfl (el_o rfl) rfl (ef_o rfl) (e_uq hw8 (Or.inr (by decide)) rfl) (by omega) ?_
      refine e_Ok.putf rfl (el_o rfl) rfl (ef_o rfl) ?_
      generalize hw10 : e_up w8 275 89 (w 275 86) = w10
      have f11 : e_fr mRf w w10 := e_fr.up (show e_fr mRf w w8 from e_fr.up (e_fr.refl w) hw8 (by first | exact ⟨rfl, ⟨(by decide), (by decide)⟩⟩ | (unfold mRf; omega))) hw10 (by first | exact ⟨rfl, ⟨(by decide), (by decide)⟩⟩ | (unfold mRf; omega))
      refine e_Ok.rets rfl rfl ?_
      have e8 : w10 275 88 = 1 := (e_uq hw10 (Or.inr (by decide)) (e_ue hw8))
      have e9 : w10 275 89 = w 275 86 := (e_ue hw10)
      exact ⟨rfl, Or.inr ⟨by omega, f11, mT_Rf f11 hT, hT_Rf f11 hH (by omega) (by omega), by omega⟩⟩
theorem c_334 {d : Nat} (hd : 27 ≤ d) {w : eW} (hT : e_Has mTy w) (hH : e_Has hTy w) {N : Int} (hN : w 275 9 = N) (hNr : 0 ≤ N ∧ N ≤ 4000) (ht : tkS w N) {b : Int} (hb : 0 ≤ b ∧ b ≤ 1) : e_Ok 20 elay ecode eI d 334 (0, [(0, (1, 275)), (1, (0, b))], [], w) (fun r w' => r = [] ∧ ((w = w' ∧ w 275 88 ≠ 0) ∨ (w 275 88 = 0 ∧ b = 1 ∧ e_fr mTq w w' ∧ tkS w' N ∧ w 275 87 ≤ w' 275 86) ∨ (w 275 88 = 0 ∧ b = 0 ∧ e_fr mRf w w' ∧ e_Has mTy w' ∧ e_Has hTy w' ∧ 1 ≤ w' 275 88 ∧ w' 275 88 ≤ 3))) := by
  obtain ⟨d, rfl⟩ : ∃ e, d = e + 1 := ⟨d - 1, by omega⟩
  have ht0 := ht
  unfold tkS tkV at ht
  have hfk := e_Has.get hH (c := 275) (k := 88) (lo := 0) (hi := 7) rfl (by decide)
  refine e_Ok.ps1 (x := (1, 275)) (q := 1) 1 rfl ?_
  have h1 := (e_Has.get hH (c := 275) (k := 88) (lo := 0) (hi := 7) rfl (by decide))
  refine e_Ok.getf (z := w 275 88) rfl (el_o rfl) rfl (ef_o rfl) rfl (e_bq h1 (by decide) (by decide)) ?_
  refine e_Ok.if1 rfl (fun h2 => ?_) (fun h2 => ?_)
  · replace h2 : (w 275 88 : Int) = 0 := h2
    refine e_Ok.ps1 (x := (0, b)) (q := 9) 1 rfl ?_
    refine e_Ok.if1 rfl (fun h3 => ?_) (fun h3 => ?_)
    · replace h3 : (b : Int) = 0 := h3
      refine e_Ok.ps2 (x := (0, 2)) (y := (1, 275)) (q := 21) 2 rfl ?_
      refine e_Ok.callV rfl (e_dq hd rfl) rfl rfl rfl rfl (c_333 hT hH hN hNr ht0 (by omega)) (fun r4 w5 h6 => ?_)
      obtain ⟨rfl, q7⟩ := h6
      obtain ⟨-, q7x⟩ | ⟨-, q7, q7T, q7H, q7b⟩ := q7
      · exact absurd (by omega) q7x
      refine e_Ok.nrm (q := 24) (st' := []) rfl rfl ?_
      refine e_Ok.rets rfl rfl ?_
      exact ⟨rfl, Or.inr (Or.inr ⟨by omega, by omega, q7, q7T, q7H, q7b⟩)⟩
    · replace h3 : (b : Int) ≠ 0 := (show ¬ ((b : Int) = 0) from h3)
      refine e_Ok.ps1 (x := (1, 275)) (q := 13) 1 rfl ?_
      refine e_Ok.callV rfl (e_dq hd rfl) rfl rfl rfl rfl (c_327 (e_dq hd rfl) hT hH hN hNr (t := w 275 87) rfl (by omega)) (fun r8 w9 h10 => ?_)
      obtain ⟨rfl, q11, q11s, q11t⟩ := h10
      refine e_Ok.nrm (q := 16) (st' := []) rfl rfl ?_
      refine e_Ok.ps0 (q := 24) 1 rfl ?_
      refine e_Ok.rets rfl rfl ?_
      exact ⟨rfl, Or.inr (Or.inl ⟨by omega, by omega, q11, q11s, q11t⟩)⟩
  · replace h2 : (w 275 88 : Int) ≠ 0 := (show ¬ ((w 275 88 : Int) = 0) from h2)
    refine e_Ok.rets rfl rfl ?_
    exact ⟨rfl, Or.inl ⟨rfl, by omega⟩⟩
theorem no_9y_0 : ¬ mRf 275 83 := by unfold mRf; omega
theorem c_335 {d : Nat} (hd : 22 ≤ d) {w : eW} (hT : e_Has mTy w) (hH : e_Has hTy w) {N : Int} (hN : w 275 9 = N) (hNr : 0 ≤ N ∧ N ≤ 4000) (ht : tkS w N) {o : Int} (ho : w 275 83 = o) (hor : -1000 ≤ o ∧ o ≤ 1000) : e_Ok 20 elay ecode eI d 335 (0, [(0, (1, 275))], [], w) (fun r w' => r = [] ∧ w' 275 83 = o + 1 ∧ ((e_up w 275 83 (o + 1) = w' ∧ ¬ (w 275 88 = 0 ∧ o = 30)) ∨ (w 275 88 = 0 ∧ o = 30 ∧ ∃ v : eW, e_up v 275 83 (o + 1) = w' ∧ e_fr mRf w v ∧ e_Has mTy v ∧ e_Has hTy v ∧ 1 ≤ v 275 88 ∧ v 275 88 ≤ 3))) := by
  obtain ⟨d, rfl⟩ : ∃ e, d = e + 1 := ⟨d - 1, by omega⟩
  have ht0 := ht
  unfold tkS tkV at ht
  have hfk := e_Has.get hH (c := 275) (k := 88) (lo := 0) (hi := 7) rfl (by decide)
  refine e_Ok.ps1 (x := (1, 275)) (q := 1) 1 rfl ?_
  have h1 := (e_Has.get hH (c := 275) (k := 88) (lo := 0) (hi := 7) rfl (by decide))
  refine e_Ok.getf (z := w 275 88) rfl (el_o rfl) rfl (ef_o rfl) rfl (e_bq h1 (by decide) (by decide)) ?_
  refine e_Ok.if1 rfl (fun h2 => ?_) (fun h2 => ?_)
  · replace h2 : (w 275 88 : Int) ≠ 0 := h2
    refine e_Ok.ps2 (x := (1, 275)) (y := (1, 275)) (q := 23) 2 rfl ?_
    refine e_Ok.getf (z := o) rfl (el_o rfl) rfl (ef_o rfl) ho (by omega) ?_
    refine e_Ok.ps1 (x := (0, 1)) (q := 27) 1 rfl ?_
    refine e_Ok.add (z := o + 1) rfl rfl (by omega) ?_
    refine e_Ok.putf rfl (el_o rfl) rfl (ef_o rfl) ?_
    generalize hw3 : e_up w 275 83 (o + 1) = w3
    refine e_Ok.rets rfl rfl ?_
    have e3 : w3 275 83 = o + 1 := (e_ue hw3)
    exact ⟨rfl, e3, Or.inl ⟨rfl, by omega⟩⟩
  · replace h2 : (w 275 88 : Int) = 0 := Classical.not_not.mp (show ¬ ((w 275 88 : Int) ≠ 0) from h2)
    refine e_Ok.ps1 (x := (1, 275)) (q := 8) 1 rfl ?_
    refine e_Ok.getf (z := o) rfl (el_o rfl) rfl (ef_o rfl) ho (by omega) ?_
    refine e_Ok.ps1 (x := (0, 30)) (q := 13) 1 rfl ?_
    refine e_Ok.if2 rfl (fun h4 => ?_) (fun h4 => ?_)
    · replace h4 : (o : Int) ≠ 30 := h4
      refine e_Ok.ps2 (x := (1, 275)) (y := (1, 275)) (q := 23) 2 rfl ?_
      refine e_Ok.getf (z := o) rfl (el_o rfl) rfl (ef_o rfl) ho (by omega) ?_
      refine e_Ok.ps1 (x := (0, 1)) (q := 27) 1 rfl ?_
      refine e_Ok.add (z := o + 1) rfl rfl (by omega) ?_
      refine e_Ok.putf rfl (el_o rfl) rfl (ef_o rfl) ?_
      generalize hw5 : e_up w 275 83 (o + 1) = w5
      refine e_Ok.rets rfl rfl ?_
      have e3 : w5 275 83 = o + 1 := (e_ue hw5)
      exact ⟨rfl, e3, Or.inl ⟨rfl, by omega⟩⟩
    · replace h4 : (o : Int) = 30 := Classical.not_not.mp (show ¬ ((o : Int) ≠ 30) from h4)
      refine e_Ok.ps2 (x := (0, 3)) (y := (1, 275)) (q := 18) 2 rfl ?_
      refine e_Ok.callV rfl (e_dq hd rfl) rfl rfl rfl rfl (c_333 hT hH hN hNr ht0 (by omega)) (fun r6 w7 h8 => ?_)
      obtain ⟨rfl, q9⟩ := h8
      obtain ⟨-, q9x⟩ | ⟨-, q9, q9T, q9H, q9b⟩ := q9
      · exact absurd (by omega) q9x
      refine e_Ok.nrm (q := 21) (st' := []) rfl rfl ?_
      refine e_Ok.ps2 (x := (1, 275)) (y := (1, 275)) (q := 23) 2 rfl ?_
      refine e_Ok.getf (z := o) rfl (el_o rfl) rfl (ef_o rfl) ((q9 275 83 no_9y_0).trans ho) (by omega) ?_
      refine e_Ok.ps1 (x := (0, 1)) (q := 27) 1 rfl ?_
      refine e_Ok.add (z := o + 1) rfl rfl (by omega) ?_
      refine e_Ok.putf rfl (el_o rfl) rfl (ef_o rfl) ?_
      generalize hw10 : e_up w7 275 83 (o + 1) = w10
      refine e_Ok.rets rfl rfl ?_
      have e3 : w10 275 83 = o + 1 := (e_ue hw10)
      exact ⟨rfl, e3, Or.inr ⟨by omega, by omega, _, hw10, q9, q9T, q9H, q9b⟩⟩
theorem su_9y_7 {c k : Int} (q : mNm c k) : mS c k := by
  unfold mNm at q
  rcases q with ⟨q, q⟩ | ⟨q, q⟩
  · exact Or.inr (Or.inl ⟨(by omega), (by omega)⟩)
  · exact Or.inr (Or.inr ⟨(by omega), Or.inr (Or.inr (Or.inl (by omega)))⟩)
theorem mT_Nm {w w' : eW} (f : e_fr mNm w w') (h : e_Has mTy w) : e_Has mTy w' := mT_S (f.mono (fun c k q => su_9y_7 q)) h
theorem nm_none {c k : Int} (q : mNm c k) : hTy c k = (1, 0) := by
  rcases q with q | ⟨rfl, rfl⟩
  · obtain rfl | rfl | rfl | rfl : c = 341 ∨ c = 342 ∨ c = 343 ∨ c = 344 := by omega
    all_goals rfl
  · rfl
theorem hT_Nm {w w' : eW} (f : e_fr mNm w w') (h : e_Has hTy w) : e_Has hTy w' := h.fr (fun c k q => nm_none q) f
theorem no_9y_1 : ¬ mNm 275 86 := by unfold mNm; omega
theorem no_9y_2 : ¬ mNm 275 87 := by unfold mNm; omega
theorem no_9y_3 : ¬ mNm 275 84 := by unfold mNm; omega
theorem no_9y_4 : ¬ mNm 275 85 := by unfold mNm; omega
theorem no_9y_5 : ¬ mNm 275 88 := by unfold mNm; omega
theorem no_9y_6 : ¬ mNm 275 9 := by unfold mNm; omega
set_option maxHeartbeats 4000000 in
theorem c_338 {d : Nat} (hd : 29 ≤ d) {w : eW} (hT : e_Has mTy w) (hH : e_Has hTy w) {N : Int} (hN : w 275 9 = N) (hNr : 0 ≤ N ∧ N ≤ 4000) (ht : tkS w N) {mm f x : Int} (hm : w 275 94 = mm) (hmr : 0 ≤ mm ∧ mm ≤ 4099) (hf : 0 ≤ f ∧ f ≤ 4) (hx : 0 ≤ x ∧ x ≤ 10000) : e_Ok 20 elay ecode eI d 338 (0, [(0, (1, 275)), (1, (0, f)), (2, (0, x))], [], w) (fun r w' => r = [] ∧ ((w = w' ∧ w 275 88 ≠ 0) ∨ (w 275 88 = 0 ∧ w 275 84 ≠ 1 ∧ e_fr mRf w w' ∧ e_Has mTy w' ∧ e_Has hTy w' ∧ 1 ≤ w' 275 88 ∧ w' 275 88 ≤ 3) ∨ (w 275 88 = 0 ∧ w 275 84 = 1 ∧ ∃ v : eW, e_fr mNm w v ∧ e_Has mTy v ∧ e_Has hTy v ∧ (v 341 mm = f ∧ v 342 mm = w 275 86 ∧ v 343 mm = w 275 87 - w 275 86 ∧ v 344 mm = x ∧ v 275 94 = mm + 1) ∧ (∀ c k, ¬ (((341 ≤ c ∧ c ≤ 344) ∧ k = mm) ∨ (c = 275 ∧ k = 94)) → v c k = w c k) ∧ e_fr mTq v w' ∧ tkS w' N ∧ w 275 87 ≤ w' 275 86))) := by
  obtain ⟨d, rfl⟩ : ∃ e, d = e + 1 := ⟨d - 1, by omega⟩
  have ht0 := ht
  unfold tkS tkV at ht
  have hfk := e_Has.get hH (c := 275) (k := 88) (lo := 0) (hi := 7) rfl (by decide)
  refine e_Ok.ps1 (x := (1, 275)) (q := 1) 1 rfl ?_
  have h1 := (e_Has.get hH (c := 275) (k := 88) (lo := 0) (hi := 7) rfl (by decide))
  refine e_Ok.getf (z := w 275 88) rfl (el_o rfl) rfl (ef_o rfl) rfl (e_bq h1 (by decide) (by decide)) ?_
  refine e_Ok.if1 rfl (fun h2 => ?_) (fun h2 => ?_)
  · replace h2 : (w 275 88 : Int) ≠ 0 := h2
    refine e_Ok.ps2 (x := (1, 275)) (y := (1, 275)) (q := 78) 2 rfl ?_
    refine e_Ok.getf (z := w 275 84) rfl (el_o rfl) rfl (ef_o rfl) rfl (by omega) ?_
    refine e_Ok.ps1 (x := (0, 1)) (q := 82) 1 rfl ?_
    refine e_Ok.if2 rfl (fun h3 => ?_) (fun h3 => ?_)
    · replace h3 : (w 275 84 : Int) ≠ 1 := h3
      refine e_Ok.ps1 (x := (0, 0)) (q := 90) 1 rfl ?_
      have hfr : e_fr mNm w w := e_fr.refl w
      have hwT : e_Has mTy w := mT_Nm hfr hT
      have hwH : e_Has hTy w := hT_Nm hfr hH
      have hwt : tkS w N := by unfold tkS; rw [hfr 275 86 no_9y_1, hfr 275 87 no_9y_2, hfr 275 84 no_9y_3, hfr 275 85 no_9y_4]; exact ht0
      have hw88 : w 275 88 = w 275 88 := hfr 275 88 no_9y_5
      have hw87 : w 275 87 = w 275 87 := hfr 275 87 no_9y_2
      refine e_Ok.callV rfl (e_dq hd rfl) rfl rfl rfl rfl (c_334 (e_dq hd rfl) hwT hwH (Eq.trans (hfr 275 9 no_9y_6) hN) hNr hwt (by omega)) (fun r4 w5 h6 => ?_)
      obtain ⟨rfl, q7⟩ := h6
      refine e_Ok.nrm (q := 93) (st' := []) rfl rfl ?_
      refine e_Ok.rets rfl rfl ?_
      obtain ⟨q7a, q7b⟩ | ⟨-, q7b, -⟩ | ⟨q7a, -, q7b⟩ := q7
      · exact ⟨rfl, Or.inl ⟨q7a, by omega⟩⟩
      · exact absurd q7b (by decide)
      · exact ⟨rfl, Or.inr (Or.inl ⟨q7a, by omega, q7b⟩)⟩
    · replace h3 : (w 275 84 : Int) = 1 := Classical.not_not.mp (show ¬ ((w 275 84 : Int) ≠ 1) from h3)
      refine e_Ok.ps1 (x := (0, 1)) (q := 90) 2 rfl ?_
      have hfr : e_fr mNm w w := e_fr.refl w
      have hwT : e_Has mTy w := mT_Nm hfr hT
      have hwH : e_Has hTy w := hT_Nm hfr hH
      have hwt : tkS w N := by unfold tkS; rw [hfr 275 86 no_9y_1, hfr 275 87 no_9y_2, hfr 275 84 no_9y_3, hfr 275 85 no_9y_4]; exact ht0
      have hw88 : w 275 88 = w 275 88 := hfr 275 88 no_9y_5
      have hw87 : w 275 87 = w 275 87 := hfr 275 87 no_9y_2
      refine e_Ok.callV rfl (e_dq hd rfl) rfl rfl rfl rfl (c_334 (e_dq hd rfl) hwT hwH (Eq.trans (hfr 275 9 no_9y_6) hN) hNr hwt (by omega)) (fun r8 w9 h10 => ?_)
      obtain ⟨rfl, q11⟩ := h10
      refine e_Ok.nrm (q := 93) (st' := []) rfl rfl ?_
      refine e_Ok.rets rfl rfl ?_
      obtain ⟨q11a, q11b⟩ | ⟨q11a, -⟩ | ⟨q11a, -⟩ := q11
      · exact ⟨rfl, Or.inl ⟨q11a, by omega⟩⟩
      · exact absurd q11a (by omega)
      · exact absurd q11a (by omega)
  · replace h2 : (w 275 88 : Int) = 0 := Classical.not_not.mp (show ¬ ((w 275 88 : Int) ≠ 0) from h2)
    refine e_Ok.ps1 (x := (1, 275)) (q := 8) 1 rfl ?_
    refine e_Ok.getf (z := w 275 84) rfl (el_o rfl) rfl (ef_o rfl) rfl (by omega) ?_
    refine e_Ok.ps1 (x := (0, 1)) (q := 12) 1 rfl ?_
    refine e_Ok.if2 rfl (fun h12 => ?_) (fun h12 => ?_)
    · replace h12 : (w 275 84 : Int) ≠ 1 := h12
      refine e_Ok.ps2 (x := (1, 275)) (y := (1, 275)) (q := 78) 2 rfl ?_
      refine e_Ok.getf (z := w 275 84) rfl (el_o rfl) rfl (ef_o rfl) rfl (by omega) ?_
      refine e_Ok.ps1 (x := (0, 1)) (q := 82) 1 rfl ?_
      refine e_Ok.if2 rfl (fun h13 => ?_) (fun h13 => ?_)
      · replace h13 : (w 275 84 : Int) ≠ 1 := h13
        refine e_Ok.ps1 (x := (0, 0)) (q := 90) 1 rfl ?_
        have hfr : e_fr mNm w w := e_fr.refl w
        have hwT : e_Has mTy w := mT_Nm hfr hT
        have hwH : e_Has hTy w := hT_Nm hfr hH
        have hwt : tkS w N := by unfold tkS; rw [hfr 275 86 no_9y_1, hfr 275 87 no_9y_2, hfr 275 84 no_9y_3, hfr 275 85 no_9y_4]; exact ht0
        have hw88 : w 275 88 = w 275 88 := hfr 275 88 no_9y_5
        have hw87 : w 275 87 = w 275 87 := hfr 275 87 no_9y_2
        refine e_Ok.callV rfl (e_dq hd rfl) rfl rfl rfl rfl (c_334 (e_dq hd rfl) hwT hwH (Eq.trans (hfr 275 9 no_9y_6) hN) hNr hwt (by omega)) (fun r14 w15 h16 => ?_)
        obtain ⟨rfl, q17⟩ := h16
        refine e_Ok.nrm (q := 93) (st' := []) rfl rfl ?_
        refine e_Ok.rets rfl rfl ?_
        obtain ⟨q17a, q17b⟩ | ⟨-, q17b, -⟩ | ⟨q17a, -, q17b⟩ := q17
        · exact ⟨rfl, Or.inl ⟨q17a, by omega⟩⟩
        · exact absurd q17b (by decide)
        · exact ⟨rfl, Or.inr (Or.inl ⟨q17a, by omega, q17b⟩)⟩
      · replace h13 : (w 275 84 : Int) = 1 := Classical.not_not.mp (show ¬ ((w 275 84 : Int) ≠ 1) from h13)
        refine e_Ok.ps1 (x := (0, 1)) (q := 90) 2 rfl ?_
        have hfr : e_fr mNm w w := e_fr.refl w
        have hwT : e_Has mTy w := mT_Nm hfr hT
        have hwH : e_Has hTy w := hT_Nm hfr hH
        have hwt : tkS w N := by unfold tkS; rw [hfr 275 86 no_9y_1, hfr 275 87 no_9y_2, hfr 275 84 no_9y_3, hfr 275 85 no_9y_4]; exact ht0
        have hw88 : w 275 88 = w 275 88 := hfr 275 88 no_9y_5
        have hw87 : w 275 87 = w 275 87 := hfr 275 87 no_9y_2
        refine e_Ok.callV rfl (e_dq hd rfl) rfl rfl rfl rfl (c_334 (e_dq hd rfl) hwT hwH (Eq.trans (hfr 275 9 no_9y_6) hN) hNr hwt (by omega)) (fun r18 w19 h20 => ?_)
        obtain ⟨rfl, q21⟩ := h20
        refine e_Ok.nrm (q := 93) (st' := []) rfl rfl ?_
        refine e_Ok.rets rfl rfl ?_
        obtain ⟨q21a, q21b⟩ | ⟨q21a, -⟩ | ⟨q21a, -⟩ := q21
        · exact ⟨rfl, Or.inl ⟨q21a, by omega⟩⟩
        · exact absurd q21a (by omega)
        · exact absurd q21a (by omega)
    · replace h12 : (w 275 84 : Int) = 1 := Classical.not_not.mp (show ¬ ((w 275 84 : Int) ≠ 1) from h12)
      refine e_Ok.ps1 (x := (1, 275)) (q := 16) 1 rfl ?_
      refine e_Ok.getr (z := 341) rfl (el_o rfl) rfl (ef_o rfl) (e_Has.eq hT (mt_o rfl)) ⟨by decide, by decide⟩ ?_
      refine e_Ok.ps1 (x := (1, 275)) (q := 20) 1 rfl ?_
      refine e_Ok.getf (z := mm) rfl (el_o rfl) rfl (ef_o rfl) hm (by omega) ?_
      refine e_Ok.ps1 (x := (0, f)) (q := 24) 1 rfl ?_
      refine e_Ok.ast rfl (el_o rfl) rfl rfl (by omega) ?_
      generalize hw22 : e_up w 341 mm f = w22
      refine e_Ok.ps1 (x := (1, 275)) (q := 26) 1 rfl ?_
      refine e_Ok.getr (z := 342) rfl (el_o rfl) rfl (ef_o rfl) (e_uq hw22 (Or.inl (by decide)) (e_Has.eq hT (mt_o rfl))) ⟨by decide, by decide⟩ ?_
      refine e_Ok.ps1 (x := (1, 275)) (q := 30) 1 rfl ?_
      refine e_Ok.getf (z := mm) rfl (el_o rfl) rfl (ef_o rfl) (e_uq hw22 (Or.inl (by decide)) hm) (by omega) ?_
      refine e_Ok.ps1 (x := (1, 275)) (q := 34) 1 rfl ?_
      refine e_Ok.getf (z := w 275 86) rfl (el_o rfl) rfl (ef_o rfl) (e_uq hw22 (Or.inl (by decide)) rfl) (by omega) ?_
      refine e_Ok.ast rfl (el_o rfl) rfl rfl (by omega) ?_
      generalize hw24 : e_up w22 342 mm (w 275 86) = w24
      refine e_Ok.ps1 (x := (1, 275)) (q := 39) 1 rfl ?_
      refine e_Ok.getr (z := 343) rfl (el_o rfl) rfl (ef_o rfl) (e_uq hw24 (Or.inl (by decide)) (e_uq hw22 (Or.inl (by decide)) (e_Has.eq hT (mt_o rfl)))) ⟨by decide, by decide⟩ ?_
      refine e_Ok.ps1 (x := (1, 275)) (q := 43) 1 rfl ?_
      refine e_Ok.getf (z := mm) rfl (el_o rfl) rfl (ef_o rfl) (e_uq hw24 (Or.inl (by decide)) (e_uq hw22 (Or.inl (by decide)) hm)) (by omega) ?_
      refine e_Ok.ps1 (x := (1, 275)) (q := 47) 1 rfl ?_
      refine e_Ok.getf (z := w 275 87) rfl (el_o rfl) rfl (ef_o rfl) (e_uq hw24 (Or.inl (by decide)) (e_uq hw22 (Or.inl (by decide)) rfl)) (by omega) ?_
      refine e_Ok.ps1 (x := (1, 275)) (q := 51) 1 rfl ?_
      refine e_Ok.getf (z := w 275 86) rfl (el_o rfl) rfl (ef_o rfl) (e_uq hw24 (Or.inl (by decide)) (e_uq hw22 (Or.inl (by decide)) rfl)) (by omega) ?_
      refine e_Ok.sub' (z := w 275 87 - w 275 86) rfl rfl (by omega) ?_
      refine e_Ok.ast rfl (el_o rfl) rfl rfl (by omega) ?_
      generalize hw26 : e_up w24 343 mm (w 275 87 - w 275 86) = w26
      refine e_Ok.ps1 (x := (1, 275)) (q := 57) 1 rfl ?_
      refine e_Ok.getr (z := 344) rfl (el_o rfl) rfl (ef_o rfl) (e_uq hw26 (Or.inl (by decide)) (e_uq hw24 (Or.inl (by decide)) (e_uq hw22 (Or.inl (by decide)) (e_Has.eq hT (mt_o rfl))))) ⟨by decide, by decide⟩ ?_
      refine e_Ok.ps1 (x := (1, 275)) (q := 61) 1 rfl ?_
      refine e_Ok.getf (z := mm) rfl (el_o rfl) rfl (ef_o rfl) (e_uq hw26 (Or.inl (by decide)) (e_uq hw24 (Or.inl (by decide)) (e_uq hw22 (Or.inl (by decide)) hm))) (by omega) ?_
      refine e_Ok.ps1 (x := (0, x)) (q := 65) 1 rfl ?_
      refine e_Ok.ast rfl (el_o rfl) rfl rfl (by omega) ?_
      generalize hw28 : e_up w26 344 mm x = w28
      refine e_Ok.ps2 (x := (1, 275)) (y := (1, 275)) (q := 68) 2 rfl ?_
      refine e_Ok.getf (z := mm) rfl (el_o rfl) rfl (ef_o rfl) (e_uq hw28 (Or.inl (by decide)) (e_uq hw26 (Or.inl (by decide)) (e_uq hw24 (Or.inl (by decide)) (e_uq hw22 (Or.inl (by decide)) hm)))) (by omega) ?_
      refine e_Ok.ps1 (x := (0, 1)) (q := 72) 1 rfl ?_
      refine e_Ok.add (z := mm + 1) rfl rfl (by omega) ?_
      refine e_Ok.putf rfl (el_o rfl) rfl (ef_o rfl) ?_
      generalize hw30 : e_up w28 275 94 (mm + 1) = w30
      refine e_Ok.ps2 (x := (1, 275)) (y := (1, 275)) (q := 78) 2 rfl ?_
      refine e_Ok.getf (z := w 275 84) rfl (el_o rfl) rfl (ef_o rfl) (e_uq hw30 (Or.inr (by decide)) (e_uq hw28 (Or.inl (by decide)) (e_uq hw26 (Or.inl (by decide)) (e_uq hw24 (Or.inl (by decide)) (e_uq hw22 (Or.inl (by decide)) rfl))))) (by omega) ?_
      refine e_Ok.ps1 (x := (0, 1)) (q := 82) 1 rfl ?_
      refine e_Ok.if2 rfl (fun h32 => ?_) (fun h32 => ?_)
      · replace h32 : (w 275 84 : Int) ≠ 1 := h32
        exfalso; omega
      · replace h32 : (w 275 84 : Int) = 1 := Classical.not_not.mp (show ¬ ((w 275 84 : Int) ≠ 1) from h32)
        refine e_Ok.ps1 (x := (0, 1)) (q := 90) 2 rfl ?_
        have hfr : e_fr mNm w w30 := (show e_fr mNm w w30 from e_fr.up (show e_fr mNm w w28 from e_fr.up (show e_fr mNm w w26 from e_fr.up (show e_fr mNm w w24 from e_fr.up (show e_fr mNm w w22 from e_fr.up (e_fr.refl w) hw22 (by first | exact Or.inl ⟨(by decide), (by decide)⟩ | (unfold mNm; omega))) hw24 (by first | exact Or.inl ⟨(by decide), (by decide)⟩ | (unfold mNm; omega))) hw26 (by first | exact Or.inl ⟨(by decide), (by decide)⟩ | (unfold mNm; omega))) hw28 (by first | exact Or.inl ⟨(by decide), (by decide)⟩ | (unfold mNm; omega))) hw30 (by first | exact Or.inr ⟨rfl, rfl⟩ | (unfold mNm; omega)))
        have hwT : e_Has mTy w30 := mT_Nm hfr hT
        have hwH : e_Has hTy w30 := hT_Nm hfr hH
        have hwt : tkS w30 N := by unfold tkS; rw [hfr 275 86 no_9y_1, hfr 275 87 no_9y_2, hfr 275 84 no_9y_3, hfr 275 85 no_9y_4]; exact ht0
        have hw88 : w30 275 88 = w 275 88 := hfr 275 88 no_9y_5
        have hw87 : w30 275 87 = w 275 87 := hfr 275 87 no_9y_2
        refine e_Ok.callV rfl (e_dq hd rfl) rfl rfl rfl rfl (c_334 (e_dq hd rfl) hwT hwH (Eq.trans (hfr 275 9 no_9y_6) hN) hNr hwt (by omega)) (fun r33 w34 h35 => ?_)
        obtain ⟨rfl, q36⟩ := h35
        refine e_Ok.nrm (q := 93) (st' := []) rfl rfl ?_
        refine e_Ok.rets rfl rfl ?_
        obtain ⟨-, q36b⟩ | ⟨q36a, q36b, q36c, q36d, q36e⟩ | ⟨q36a, q36b, -⟩ := q36
        · exact absurd q36b (by omega)
        · exact ⟨rfl, Or.inr (Or.inr ⟨by omega, by omega, w30, hfr, hwT, hwH, ⟨(e_uq hw30 (Or.inl (by omega)) (e_uq hw28 (Or.inl (by omega)) (e_uq hw26 (Or.inl (by omega)) (e_uq hw24 (Or.inl (by omega)) (e_ue hw22))))), (e_uq hw30 (Or.inl (by omega)) (e_uq hw28 (Or.inl (by omega)) (e_uq hw26 (Or.inl (by omega)) (e_ue hw24)))), (e_uq hw30 (Or.inl (by omega)) (e_uq hw28 (Or.inl (by omega)) (e_ue hw26))), (e_uq hw30 (Or.inl (by omega)) (e_ue hw28)), (e_ue hw30)⟩, (fun c k q => (by rw [← hw30, ← hw28, ← hw26, ← hw24, ← hw22]; exact (e_up_ne _ _ (by omega)).trans ((e_up_ne _ _ (by omega)).trans ((e_up_ne _ _ (by omega)).trans ((e_up_ne _ _ (by omega)).trans ((e_up_ne _ _ (by omega)))))))), q36c, q36d, by omega⟩)⟩
        · exact absurd q36b (by decide)
end
end
-- part 9z
section
noncomputable section
/-! expressions: what is emitted is in order -/
def nmO (w : eW) (N n m : Int) : Prop := (0 ≤ w 341 m ∧ w 341 m ≤ 4) ∧ (-2147483648 ≤ w 342 m ∧ w 342 m ≤ 2147483647) ∧ (w 341 m ≠ 4 → 0 ≤ w 342 m ∧ 0 ≤ w 343 m ∧ w 342 m + w 343 m ≤ N ∧ 0 ≤ w 344 m ∧ w 344 m ≤ n)
def NMp (w : eW) (mm p : Int) : Prop := (w 328 (p + 40000) = 2 ∨ w 328 (p + 40000) = 31 → ∃ m, 0 ≤ m ∧ m < mm ∧ w 341 m = 2 ∧ w 344 m = p) ∧ (w 328 (p + 40000) = 38 ∨ w 328 (p + 40000) = 39 ∨ w 328 (p + 40000) = 44 → ∃ m, 0 ≤ m ∧ m < mm ∧ w 341 m = 3 ∧ w 344 m = p) ∧ (w 328 (p + 40000) = 46 → 0 ≤ w 329 (p + 40000) ∨ ∃ m, 0 ≤ m ∧ m < mm ∧ w 341 m = 4)
def NM (w : eW) (N n mm : Int) : Prop := (∀ m, 0 ≤ m → m < mm → nmO w N n m) ∧ (∀ p, 0 ≤ p → p < n → NMp w mm p)
theorem NM.em {w w' : eW} {N n mm o x s : Int} (h : NM w N n mm) (he : EM w w' n o x s) (hn : 0 ≤ n) (h1 : o ≠ 2) (h2 : o ≠ 31) (h3 : o ≠ 38) (h4 : o ≠ 39) (h5 : o ≠ 44) (h6 : o = 46 → 0 ≤ x ∨ ∃ m, 0 ≤ m ∧ m < mm ∧ w 341 m = 4) : NM w' N (n + 1) mm := by
  have e : ∀ c k, 341 ≤ c → c ≤ 344 → w' c k = w c k := fun c k q1 q2 => he.1 c k (by omega)
  refine ⟨fun m g1 g2 => ?_, fun p g1 g2 => ?_⟩
  · obtain ⟨q1, q2, q3⟩ := h.1 m g1 g2
    unfold nmO
    rw [e 341 m (by decide) (by decide), e 342 m (by decide) (by decide), e 343 m (by decide) (by decide), e 344 m (by decide) (by decide)]
    exact ⟨q1, q2, fun g => by have := q3 g; omega⟩
  · unfold NMp
    by_cases c : p = n
    · subst c
      rw [he.2.1, he.2.2.1]
      refine ⟨fun g => by clear h6; omega, fun g => by clear h6; omega, fun g => (h6 g).imp id (fun ⟨m, m1, m2, m3⟩ => ⟨m, m1, m2, by rw [e 341 m (by decide) (by decide)]; exact m3⟩)⟩
    · have a8 := he.1 328 (p + 40000) (by clear h6; omega)
      have a9 := he.1 329 (p + 40000) (by clear h6; omega)
      have hpn : p < n := by clear h6; omega
      obtain ⟨q1, q2, q3⟩ := h.2 p g1 hpn
      rw [a8, a9]
      refine ⟨fun g => ?_, fun g => ?_, fun g => (q3 g).imp id (fun ⟨m, m1, m2, m3⟩ => ⟨m, m1, m2, by rw [e 341 m (by decide) (by decide)]; exact m3⟩)⟩
      · obtain ⟨m, m1, m2, m3, m4⟩ := q1 g
        exact ⟨m, m1, m2, by rw [e 341 m (by decide) (by decide)]; exact m3, by rw [e 344 m (by decide) (by decide)]; exact m4⟩
      · obtain ⟨m, m1, m2, m3, m4⟩ := q2 g
        exact ⟨m, m1, m2, by rw [e 341 m (by decide) (by decide)]; exact m3, by rw [e 344 m (by decide) (by decide)]; exact m4⟩
/-- the same, but for cells that are not the program's -/
def prE (w w' : eW) : Prop := ∀ c k, (328 ≤ c ∧ c ≤ 336) ∨ (341 ≤ c ∧ c ≤ 344) → w' c k = w c k
theorem prE.dq {w w' : eW} (h : prE w w') (p : Int) : dp w' p = dp w p := dp_eq (fun k _ _ => h 328 _ (by omega))
theorem NM.pr {w w' : eW} {N n mm : Int} (h : NM w N n mm) (e : prE w w') : NM w' N n mm := by
  refine ⟨fun m g1 g2 => ?_, fun p g1 g2 => ?_⟩
  · unfold nmO
    rw [e 341 m (by omega), e 342 m (by omega), e 343 m (by omega), e 344 m (by omega)]
    exact h.1 m g1 g2
  · obtain ⟨q1, q2, q3⟩ := h.2 p g1 g2
    unfold NMp
    rw [e 328 _ (by omega), e 329 _ (by omega)]
    refine ⟨fun g => ?_, fun g => ?_, fun g => (q3 g).imp id (fun ⟨m, m1, m2, m3⟩ => ⟨m, m1, m2, by rw [e 341 m (by omega)]; exact m3⟩)⟩
    · obtain ⟨m, m1, m2, m3, m4⟩ := q1 g
      exact ⟨m, m1, m2, by rw [e 341 m (by omega)]; exact m3, by rw [e 344 m (by omega)]; exact m4⟩
    · obtain ⟨m, m1, m2, m3, m4⟩ := q2 g
      exact ⟨m, m1, m2, by rw [e 341 m (by omega)]; exact m3, by rw [e 344 m (by omega)]; exact m4⟩
/-- a name was noted -/
theorem NM.name {w w1 w' : eW} {N n mm f ta te s o y : Int} (h : NM w N n mm) (he : EM w w1 n o y s) (hn : 0 ≤ n) (hm : 0 ≤ mm) (hv : (w' 341 mm = f ∧ w' 342 mm = ta ∧ w' 343 mm = te - ta ∧ w' 344 mm = n)) (ho : ∀ c k, ¬ (((341 ≤ c ∧ c ≤ 344) ∧ k = mm) ∨ (c = 275 ∧ k = 94)) → w' c k = w1 c k) (ht : 0 ≤ ta ∧ ta ≤ te ∧ te ≤ N) (hN : N ≤ 4000) (hf : (f = 2 ∧ o = 2) ∨ (f = 3 ∧ (o = 38 ∨ o = 39 ∨ o = 44))) : NM w' N (n + 1) (mm + 1) := by
  obtain ⟨v1, v2, v3, v4⟩ := hv
  have e : ∀ c m, 341 ≤ c → c ≤ 344 → m ≠ mm → w' c m = w c m := fun c m q1 q2 q3 => (ho c m (by omega)).trans (he.1 c m (by omega))
  have e8 : w' 328 (n + 40000) = o := (ho 328 _ (by omega)).trans he.2.1
  have ep : ∀ c p, c = 328 ∨ c = 329 → p ≠ n → w' c (p + 40000) = w c (p + 40000) := fun c p q1 q2 => (ho c _ (by omega)).trans (he.1 c _ (by omega))
  refine ⟨fun m g1 g2 => ?_, fun p g1 g2 => ?_⟩
  · unfold nmO
    by_cases c : m = mm
    · subst c
      rw [v1, v2, v3, v4]
      exact ⟨by omega, by omega, fun _ => by omega⟩
    · rw [e 341 m (by decide) (by decide) c, e 342 m (by decide) (by decide) c, e 343 m (by decide) (by decide) c, e 344 m (by decide) (by decide) c]
      obtain ⟨q1, q2, q3⟩ := h.1 m g1 (by omega)
      exact ⟨q1, q2, fun g => by have := q3 g; omega⟩
  · unfold NMp
    by_cases c : p = n
    · subst c
      rw [e8]
      refine ⟨fun g => ⟨mm, hm, by omega, by omega, v4⟩, fun g => ⟨mm, hm, by omega, by omega, v4⟩, fun g => by omega⟩
    · obtain ⟨q1, q2, q3⟩ := h.2 p g1 (by omega)
      rw [ep 328 p (by omega) c, ep 329 p (by omega) c]
      refine ⟨fun g => ?_, fun g => ?_, fun g => (q3 g).imp id (fun ⟨m, m1, m2, m3⟩ => ⟨m, m1, by omega, by rw [e 341 m (by decide) (by decide) (by omega)]; exact m3⟩)⟩
      · obtain ⟨m, m1, m2, m3, m4⟩ := q1 g
        exact ⟨m, m1, by omega, by rw [e 341 m (by decide) (by decide) (by omega)]; exact m3, by rw [e 344 m (by decide) (by decide) (by omega)]; exact m4⟩
      · obtain ⟨m, m1, m2, m3, m4⟩ := q2 g
        exact ⟨m, m1, by omega, by rw [e 341 m (by decide) (by decide) (by omega)]; exact m3, by rw [e 344 m (by decide) (by decide) (by omega)]; exact m4⟩
/-- what an expression adds: instructions of the region s under 30, names that are read; P at places below 0: what was there before (place p at -1 - 2 p, name m at -2 - 2 m) -/
def xO (w : eW) (n mm : Int) (P : Int → Prop) (s : Int) : Prop := (∀ p, 0 ≤ p → p < n → P (-1 - 2 * p) ∨ (w 328 (p + 40000) < 30 ∧ w 330 (p + 40000) = s)) ∧ (∀ m, 0 ≤ m → m < mm → P (-2 - 2 * m) ∨ (w 341 m = 2 ∧ (0 ≤ w 344 m ∧ w 344 m < n) ∧ w 328 (w 344 m + 40000) = 2))
theorem xO.em {w w' : eW} {n mm o x s : Int} {P P' : Int → Prop} (h : xO w n mm P s) (he : EM w w' n o x s) (ho : o < 30) (hP : ∀ p, P p → P' p) : xO w' (n + 1) mm P' s := by
  refine ⟨fun p g1 g2 => ?_, fun m g1 g2 => ?_⟩
  · by_cases c : p = n
    · subst c
      rw [he.2.1, he.2.2.2.1]
      exact Or.inr ⟨ho, rfl⟩
    · rw [he.1 328 (p + 40000) (by omega), he.1 330 (p + 40000) (by omega)]
      exact (h.1 p g1 (by omega)).imp (hP _) id
  · rw [he.1 341 m (by omega), he.1 344 m (by omega)]
    exact (h.2 m g1 g2).imp (hP _) (fun z => ⟨z.1, by have := z.2.1; omega, by rw [he.1 328 _ (by have := z.2.1; omega)]; exact z.2.2⟩)
theorem xO.pr {w w' : eW} {n mm s : Int} {P : Int → Prop} (h : xO w n mm P s) (e : prE w w') : xO w' n mm P s :=
  ⟨fun p g1 g2 => by rw [e 328 _ (by omega), e 330 _ (by omega)]; exact h.1 p g1 g2, fun m g1 g2 => by rw [e 341 _ (by omega), e 344 _ (by omega), e 328 _ (by omega)]; exact h.2 m g1 g2⟩
theorem xO.cg {w : eW} {n mm s : Int} {P P' : Int → Prop} (h : xO w n mm P s) (g : ∀ p, p < 0 → P p → P' p) : xO w n mm P' s :=
  ⟨fun p g1 g2 => (h.1 p g1 g2).imp (g _ (by omega)) id, fun m g1 g2 => (h.2 m g1 g2).imp (g _ (by omega)) id⟩
/-- inside an expression: d numbers on the stack -/
def wfE (w : eW) (N n mm nt : Int) (P : Int → Prop) (s d : Int) : Prop := PI w n nt P ∧ (∀ o, sgO o = 1 → RQ w n nt P o s) ∧ NM w N n mm ∧ dp w n = d ∧ 0 ≤ n ∧ 0 ≤ d ∧ xO w n mm P s
theorem PI.pr {w w' : eW} {n nt : Int} {P : Int → Prop} (h : PI w n nt P) (e : prE w w') : PI w' n nt P := fun p g1 g2 => by
  obtain ⟨i1, i2, i3⟩ := h p g1 g2
  refine ⟨by rw [e.dq, e 328 _ (by omega), e 329 _ (by omega)]; exact i1, fun q => by rw [e 328 _ (by omega), e 330 _ (by omega)]; exact (i2 q).eq (Int.le_refl nt) (e 328 _ (by omega)) (e 330 _ (by omega)) (fun t _ _ => e 331 _ (by omega)), fun q => ⟨(i3 q).1.eq (Int.le_refl n) (fun k _ _ => e 328 _ (by omega)) (e 329 _ (by omega)) g1, fun k k1 k2 => by rw [e 328 _ (by omega), e 330 _ (by omega)]; exact ((i3 q).2 k k1 k2).eq (e 328 _ (by omega)) (e 329 _ (by omega)) (e 330 _ (by omega)) (e.dq p) (e.dq k)⟩⟩
theorem RQ.pr {w w' : eW} {n nt o s : Int} {P : Int → Prop} (h : RQ w n nt P o s) (e : prE w w') : RQ w' n nt P o s := fun p g1 g2 =>
  ⟨fun q => ((h p g1 g2).1 q).eq (Int.le_refl nt) (e 328 _ (by omega)) (e 330 _ (by omega)) (fun t _ _ => e 331 _ (by omega)), fun q => ((h p g1 g2).2 q).eq (e 328 _ (by omega)) (e 329 _ (by omega)) (e 330 _ (by omega)) (e.dq p) (e.dq n)⟩
theorem wfE.pr {w w' : eW} {N n mm nt s d : Int} {P : Int → Prop} (h : wfE w N n mm nt P s d) (e : prE w w') : wfE w' N n mm nt P s d :=
  ⟨h.1.pr e, fun o q => (h.2.1 o q).pr e, h.2.2.1.pr e, by rw [e.dq]; exact h.2.2.2.1, h.2.2.2.2.1, h.2.2.2.2.2.1, h.2.2.2.2.2.2.pr e⟩
theorem nx_exp {w' : eW} {nt n o s o' : Int} (h8 : w' 328 (n + 40000) = o) (h0 : w' 330 (n + 40000) = s) (ho : o < 30) (hq : sgO o' = 1) : iNx w' nt n o' s := by
  unfold iNx
  rw [h8, h0]
  exact ⟨fun _ => ⟨hq, rfl⟩, fun g => by omega, fun g => by omega⟩
theorem go_not {w' : eW} {n q o' s' o : Int} (h8 : w' 328 (n + 40000) = o) (ho : ¬ iJp o) : iGo w' n q o' s' := fun _ => by
  unfold iJp at ho
  rw [h8]
  exact ⟨fun g => by omega, fun g => by omega, fun g => by omega⟩
theorem to_not {w' : eW} {n m o : Int} (h8 : w' 328 (n + 40000) = o) (ho : ¬ iJp o) : iTo w' m n := by
  unfold iJp at ho
  unfold iTo
  rw [h8]
  exact ⟨fun g => by omega, fun g => by omega, fun g => by omega⟩
/-- an instruction of an expression, but a name's or a jump -/
theorem wfE.em {w w' : eW} {N n mm nt s d o x : Int} {P : Int → Prop} (h : wfE w N n mm nt P s d) (he : EM w w' n o x s) (ho : o < 30) (h2 : o ≠ 2) (hj : o ≠ 22) (hj2 : o ≠ 23) (hw : iOw d o x) (hd : 0 ≤ nxD o d) : wfE w' N (n + 1) mm nt P s (nxD o d) := by
  obtain ⟨q1, q2, q3, q4, q5, q6, q7⟩ := h
  have hs : sgO o = 1 := by unfold sgO; rw [if_pos (Or.inl ho)]
  have nj : ¬ iJp o := by unfold iJp; omega
  refine ⟨q1.em (q2 o hs) he q5 (by rw [q4]; exact hw) (fun p _ g => g) (fun p _ g => g) (fun _ => ⟨to_not he.2.1 nj, fun k _ _ => go_not he.2.1 nj⟩), fun o' g => RQ.em q1 he q5 (fun p _ g => g) (fun p _ g => g) (nx_exp he.2.1 he.2.2.2.1 ho g) (fun _ => go_not he.2.1 nj), q3.em he q5 h2 (by omega) (by omega) (by omega) (by omega) (fun g => by omega), by rw [he.dq1 q5, q4], by omega, hd, q7.em he ho (fun _ g => g)⟩
/-- a name that is read -/
theorem wfE.read {w w1 w' : eW} {N n mm nt s d ta te : Int} {P : Int → Prop} (h : wfE w N n mm nt P s d) (he : EM w w1 n 2 0 s) (hm : 0 ≤ mm) (hv : (w' 341 mm = 2 ∧ w' 342 mm = ta ∧ w' 343 mm = te - ta ∧ w' 344 mm = n)) (hoth : ∀ c k, ¬ (((341 ≤ c ∧ c ≤ 344) ∧ k = mm) ∨ (c = 275 ∧ k = 94)) → w' c k = w1 c k) (ht : 0 ≤ ta ∧ ta ≤ te ∧ te ≤ N) (hN : N ≤ 4000) (hd : d ≤ 4100) : wfE w' N (n + 1) (mm + 1) nt P s (d + 1) := by
  obtain ⟨q1, q2, q3, q4, q5, q6, q7⟩ := h
  have nj : ¬ iJp 2 := by unfold iJp; omega
  have hP := q1.em (q2 2 (by decide)) he q5 (by rw [q4]; unfold iOw; omega) (fun p _ g => g) (fun p _ g => g) (fun _ => ⟨to_not he.2.1 nj, fun k _ _ => go_not he.2.1 nj⟩)
  have hd1 : dp w1 (n + 1) = d + 1 := by rw [he.dq1 q5, q4]; unfold nxD; rw [if_pos (by omega)]
  -- from w1 to w' the program stays
  have e8 : ∀ c k, 328 ≤ c → c ≤ 336 → w' c k = w1 c k := fun c k g1 g2 => hoth c k (by omega)
  have ed : ∀ p, dp w' p = dp w1 p := fun p => dp_eq (fun k _ _ => e8 328 _ (by decide) (by decide))
  refine ⟨fun p g1 g2 => ?_, fun o' g => fun p g1 g2 => ?_, q3.name he q5 hm hv hoth ht hN (Or.inl ⟨rfl, rfl⟩), by rw [ed]; exact hd1, by omega, by omega, fun p g1 g2 => ?_, fun m g1 g2 => ?_⟩
  · obtain ⟨i1, i2, i3⟩ := hP p g1 g2
    refine ⟨by rw [ed, e8 328 _ (by decide) (by decide), e8 329 _ (by decide) (by decide)]; exact i1, fun q => by rw [e8 328 _ (by decide) (by decide), e8 330 _ (by decide) (by decide)]; exact (i2 q).eq (Int.le_refl nt) (e8 328 _ (by decide) (by decide)) (e8 330 _ (by decide) (by decide)) (fun t _ _ => e8 331 _ (by decide) (by decide)), fun q => ⟨(i3 q).1.eq (Int.le_refl _) (fun k _ _ => e8 328 _ (by decide) (by decide)) (e8 329 _ (by decide) (by decide)) g1, fun k k1 k2 => by rw [e8 328 _ (by decide) (by decide), e8 330 _ (by decide) (by decide)]; exact ((i3 q).2 k k1 k2).eq (e8 328 _ (by decide) (by decide)) (e8 329 _ (by decide) (by decide)) (e8 330 _ (by decide) (by decide)) (ed p) (ed k)⟩⟩
  · have hr := RQ.em (o' := o') (s' := s) q1 he q5 (fun p _ g => g) (fun p _ g => g) (nx_exp he.2.1 he.2.2.2.1 (by decide) g) (fun _ => go_not he.2.1 nj)
    exact ⟨fun q => ((hr p g1 g2).1 q).eq (Int.le_refl nt) (e8 328 _ (by decide) (by decide)) (e8 330 _ (by decide) (by decide)) (fun t _ _ => e8 331 _ (by decide) (by decide)), fun q => ((hr p g1 g2).2 q).eq (e8 328 _ (by decide) (by decide)) (e8 329 _ (by decide) (by decide)) (e8 330 _ (by decide) (by decide)) (ed p) (ed _)⟩
  · rw [e8 328 _ (by decide) (by decide), e8 330 _ (by decide) (by decide)]
    exact (q7.em he (by decide) (fun _ g => g)).1 p g1 g2
  · by_cases c : m = mm
    · subst c
      rw [hv.2.2.2]
      exact Or.inr ⟨hv.1, by omega, by rw [e8 328 _ (by decide) (by decide)]; exact he.2.1⟩
    · rw [hoth 341 m (by omega), hoth 344 m (by omega), e8 328 _ (by decide) (by decide)]
      exact (q7.em he (by decide) (fun _ g => g)).2 m g1 (by omega)
/-- a jump whose goal is still to come -/
theorem wfE.jump {w w' : eW} {N n mm nt s d o x : Int} {P : Int → Prop} (h : wfE w N n mm nt P s d) (he : EM w w' n o x s) (ho : o = 22 ∨ o = 23) (hd : 1 ≤ d ∧ d ≤ 4100) : wfE w' N (n + 1) mm nt (fun p => P p ∨ p = n) s (d - 1) := by
  obtain ⟨q1, q2, q3, q4, q5, q6, q7⟩ := h
  have hs : sgO o = 1 := by unfold sgO; rw [if_pos (Or.inl (by omega))]
  refine ⟨q1.em (q2 o hs) he q5 (by rw [q4]; unfold iOw; omega) (fun p _ g => Or.inl g) (fun p hp g => by rcases g with g | g; exact g; omega) (fun g => absurd (Or.inr rfl) g), fun o' g => RQ.em q1 he q5 (fun p _ g => Or.inl g) (fun p hp g => by rcases g with g | g; exact g; omega) (nx_exp he.2.1 he.2.2.2.1 (by omega) g) (fun g => absurd (Or.inr rfl) g), q3.em he q5 (by omega) (by omega) (by omega) (by omega) (by omega) (fun g => by omega), ?_, by omega, by omega, q7.em he (by omega) (fun _ g => Or.inl g)⟩
  rw [he.dq1 q5, q4]
  unfold nxD
  rw [if_neg (by omega), if_neg (by omega), if_pos (by omega)]
/-- the chain of jumps from c -/
def CHN (w : eW) (n c : Int) (Q : Int → Prop) : Prop := -1 ≤ c ∧ (0 ≤ c → Q c) ∧ (∀ p, Q p → 0 ≤ p ∧ p < n ∧ p ≤ c) ∧ (∀ p, Q p → (w 329 (p + 40000) = -1 ∧ ∀ q, Q q → p ≤ q) ∨ (Q (w 329 (p + 40000)) ∧ w 329 (p + 40000) < p ∧ ∀ q, Q q → q < p → q ≤ w 329 (p + 40000)))
theorem CHN.zero (w : eW) (n : Int) : CHN w n (-1) (fun _ => False) := ⟨by decide, fun g => by omega, fun p g => g.elim, fun p g => g.elim⟩
theorem CHN.keep {w w' : eW} {n n' c : Int} {Q : Int → Prop} (h : CHN w n c Q) (hn : n ≤ n') (h9 : ∀ p, 0 ≤ p → p < n → w' 329 (p + 40000) = w 329 (p + 40000)) : CHN w' n' c Q := by
  obtain ⟨q1, q2, q3, q4⟩ := h
  refine ⟨q1, q2, fun p g => by have := q3 p g; omega, fun p g => ?_⟩
  rw [h9 p (q3 p g).1 (q3 p g).2.1]
  exact q4 p g
theorem CHN.add {w w' : eW} {n c o s : Int} {Q : Int → Prop} (h : CHN w n c Q) (he : EM w w' n o c s) (hn : 0 ≤ n) : CHN w' (n + 1) n (fun p => Q p ∨ p = n) := by
  obtain ⟨q1, q2, q3, q4⟩ := h
  refine ⟨by omega, fun _ => Or.inr rfl, fun p g => ?_, fun p g => ?_⟩
  · rcases g with g | g
    · have := q3 p g; omega
    · omega
  · by_cases e : p = n
    · subst e
      rw [he.2.2.1]
      by_cases c0 : 0 ≤ c
      · refine Or.inr ⟨Or.inl (q2 c0), (q3 c (q2 c0)).2.1, fun q g1 g2 => ?_⟩
        rcases g1 with g1 | g1
        · exact (q3 q g1).2.2
        · omega
      · refine Or.inl ⟨by omega, fun q g1 => ?_⟩
        rcases g1 with g1 | g1
        · have := q3 q g1; omega
        · omega
    · have gp : Q p := g.resolve_right e
      rw [he.1 329 (p + 40000) (by omega)]
      rcases q4 p gp with ⟨r1, r2⟩ | ⟨r1, r2, r3⟩
      · refine Or.inl ⟨r1, fun q g1 => ?_⟩
        rcases g1 with g1 | g1
        · exact r2 q g1
        · have := q3 p gp; omega
      · refine Or.inr ⟨Or.inl r1, r2, fun q g1 g2 => ?_⟩
        rcases g1 with g1 | g1
        · exact r3 q g1 g2
        · have := q3 p gp; omega
/-- the chain is closed: all its jumps go behind the instruction that is emitted there -/
theorem wfE.close {w w1 w' : eW} {N n mm nt s d : Int} {P Q : Int → Prop} (h : wfE w N n mm nt (fun p => P p ∨ Q p) s d) (he : EM w w1 n 24 0 s) (hd : 1 ≤ d ∧ d ≤ 4100) (hQ : ∀ p, Q p → (0 ≤ p ∧ p < n) ∧ (w 328 (p + 40000) = 22 ∨ w 328 (p + 40000) = 23) ∧ dp w p = d ∧ w 330 (p + 40000) = s) (h9 : ∀ p, Q p → w' 329 (p + 40000) = n + 1) (ho : ∀ c k, ¬ (c = 329 ∧ ∃ p, Q p ∧ k = p + 40000) → w' c k = w1 c k) : wfE w' N (n + 1) mm nt P s d := by
  have h1 := h.em he (by decide) (by decide) (by decide) (by decide) (by unfold iOw; omega) (by unfold nxD; rw [if_neg (by omega), if_neg (by omega), if_neg (by omega)]; omega)
  rw [show nxD 24 d = d from by unfold nxD; rw [if_neg (by omega), if_neg (by omega), if_neg (by omega)]] at h1
  obtain ⟨q1, q2, q3, q4, q5, q6, q7⟩ := h1
  have hn := h.2.2.2.2.1
  have x8 : ∀ c k, c ≠ 329 → w' c k = w1 c k := fun c k g => ho c k (fun q => g q.1)
  have ed : ∀ p, dp w' p = dp w1 p := fun p => dp_eq (fun k _ _ => x8 328 _ (by decide))
  have x9 : ∀ p, ¬ Q p → w' 329 (p + 40000) = w1 329 (p + 40000) := fun p g => ho 329 _ (fun ⟨_, p', g1, g2⟩ => g (by rw [show p = p' by omega]; exact g1))
  have w8 : ∀ p, Q p → w1 328 (p + 40000) = w 328 (p + 40000) ∧ w1 330 (p + 40000) = w 330 (p + 40000) ∧ dp w1 p = dp w p := fun p g => ⟨he.1 _ _ (by have := hQ p g; omega), he.1 _ _ (by have := hQ p g; omega), he.dq (by have := hQ p g; omega)⟩
  refine ⟨fun p g1 g2 => ?_, fun o' g => fun p g1 g2 => ?_, ?_, by rw [ed]; exact q4, q5, q6, fun p g1 g2 => ?_, fun m g1 g2 => ?_⟩
  · obtain ⟨i1, i2, i3⟩ := q1 p g1 g2
    refine ⟨?_, fun q => by rw [x8 328 _ (by decide), x8 330 _ (by decide)]; exact (i2 q).eq (Int.le_refl nt) (x8 328 _ (by decide)) (x8 330 _ (by decide)) (fun t _ _ => x8 331 _ (by decide)), fun q => ?_⟩
    · rw [ed, x8 328 _ (by decide)]
      by_cases c : Q p
      · have := hQ p c
        have e := w8 p c
        rw [e.1, e.2.2] at i1 ⊢
        unfold iOw at i1 ⊢
        omega
      · rw [x9 p c]; exact i1
    · by_cases c : Q p
      · have hp := hQ p c
        have e := w8 p c
        refine ⟨?_, fun k k1 k2 g => ?_⟩
        · unfold iTo
          rw [x8 328 _ (by decide), e.1, h9 p c]
          exact ⟨fun _ => by omega, fun g => by omega, fun g => by omega⟩
        · rw [h9 p c] at g; omega
      · have := i3 (fun g => g.elim q c)
        refine ⟨this.1.eq (Int.le_refl _) (fun k _ _ => x8 328 _ (by decide)) (x9 p c) g1, fun k k1 k2 => by rw [x8 328 _ (by decide), x8 330 _ (by decide)]; exact (this.2 k k1 k2).eq (x8 328 _ (by decide)) (x9 p c) (x8 330 _ (by decide)) (ed p) (ed k)⟩
  · have hr := q2 o' g p g1 g2
    refine ⟨fun q => (hr.1 q).eq (Int.le_refl nt) (x8 328 _ (by decide)) (x8 330 _ (by decide)) (fun t _ _ => x8 331 _ (by decide)), fun q => ?_⟩
    by_cases c : Q p
    · have hp := hQ p c
      have e := w8 p c
      intro _
      rw [x8 328 _ (by decide), x8 330 _ (by decide), e.1, e.2.1, ed, ed, e.2.2, q4]
      exact ⟨fun _ => ⟨hp.2.2.1.symm, g, hp.2.2.2.symm⟩, fun z => by omega, fun z => by omega⟩
    · exact (hr.2 (fun z => z.elim q c)).eq (x8 328 _ (by decide)) (x9 p c) (x8 330 _ (by decide)) (ed p) (ed _)
  · refine ⟨fun m m1 m2 => ?_, fun p p1 p2 => ?_⟩
    · unfold nmO
      rw [x8 341 m (by decide), x8 342 m (by decide), x8 343 m (by decide), x8 344 m (by decide)]
      exact q3.1 m m1 m2
    · obtain ⟨r1, r2, r3⟩ := q3.2 p p1 p2
      unfold NMp
      rw [x8 328 _ (by decide)]
      refine ⟨fun z => ?_, fun z => ?_, fun z => ?_⟩
      · obtain ⟨m, m1, m2, m3, m4⟩ := r1 z
        exact ⟨m, m1, m2, by rw [x8 341 m (by decide)]; exact m3, by rw [x8 344 m (by decide)]; exact m4⟩
      · obtain ⟨m, m1, m2, m3, m4⟩ := r2 z
        exact ⟨m, m1, m2, by rw [x8 341 m (by decide)]; exact m3, by rw [x8 344 m (by decide)]; exact m4⟩
      · have c : ¬ Q p := fun c => by have := hQ p c; have e := w8 p c; omega
        rw [x9 p c]
        exact (r3 z).imp id (fun ⟨m, m1, m2, m3⟩ => ⟨m, m1, m2, by rw [x8 341 m (by decide)]; exact m3⟩)
  · rw [x8 328 _ (by decide), x8 330 _ (by decide)]
    exact (q7.1 p g1 g2).imp (fun g => g.resolve_right (fun z => by have := (hQ _ z).1; omega)) id
  · rw [x8 341 _ (by decide), x8 344 _ (by decide), x8 328 _ (by decide)]
    exact (q7.2 m g1 g2).imp (fun g => g.resolve_right (fun z => by have := (hQ _ z).1; omega)) id
end
end
