noncomputable section
/-- a joint of a cell without power is set by hand -/
theorem mMo.hand {w w' : eW} {a j v : Int} (h : mMo w (-1)) (hty : moT w) (ha : 0 ≤ a ∧ a ≤ 3) (haa : a < w 275 10) (hj : 0 ≤ j ∧ j < w 286 a) (hv : w 288 (6 * a + j) ≤ v ∧ v ≤ w 289 (6 * a + j)) (hP : w 276 1 = 0)
    (hf : ∀ c k, (moK c k ∨ (c = 276 ∧ 16 ≤ k ∧ k < 160)) → ¬ (c = 276 ∧ (k = 36 * a + j + 32 ∨ (k < 160 ∧ ((k - 16) % 36 = 4 ∨ (k - 16) % 36 = 5)))) → w' c k = w c k) (hV : w' 276 (36 * a + j + 32) = v)
    (hF : (∀ b, 0 ≤ b → b < w 275 10 → w' 276 (36 * b + 20) = 0) ∨ ((∀ b, 0 ≤ b → b ≤ 3 → w' 276 (36 * b + 20) = w 276 (36 * b + 20)) ∧ w 276 (36 * a + j + 32) = v)) (hF2 : ∀ b, 0 ≤ b → b ≤ 3 → w' 276 (36 * b + 20) = 0 ∨ w' 276 (36 * b + 20) = w 276 (36 * b + 20)) : mMo w' (-1) := by
  obtain ⟨h1, h2, h3⟩ := h
  have f5 : ∀ c k, c = 286 ∨ c = 288 ∨ c = 289 ∨ c = 291 → w' c k = w c k := fun c k q => hf c k (Or.inl (by unfold moK; omega)) (by omega)
  have s0 := h3 hP a ha.1 haa
  have yy0 := hty.2 a ha.1 ha.2
  refine ⟨fun b i g1 g2 g3 g4 => ?_, fun b g1 g2 => ?_, fun e b g1 g2 => ?_⟩
  · rw [f5 286 _ (by omega)] at g4
    have y := hty.2 b g1 g2
    have q := h1 b i g1 g2 g3 g4
    unfold moJ at q ⊢
    rw [hf 276 (36 * b + i + 38) (Or.inr (by omega)) (by omega), hf 276 (36 * b + i + 44) (Or.inr (by omega)) (by omega), hf 276 (36 * b + 16) (Or.inr (by omega)) (by omega), f5 288 _ (by omega), f5 289 _ (by omega), f5 291 _ (by omega)]
    by_cases e : b = a ∧ i = j
    · obtain ⟨rfl, rfl⟩ := e
      rw [hV, s0]
      rw [s0] at q
      exact ⟨hv, q.2.1, by omega, by omega⟩
    · have y2 := hty.2 a ha.1 ha.2
      rw [hf 276 (36 * b + i + 32) (Or.inr (by omega)) (by omega)]
      exact q
  · obtain ⟨y1, y2, y3, y4⟩ := hty.2 b g1 g2
    have yy := hty.2 a ha.1 ha.2
    have f1 := hf 276 (36 * b + 19) (Or.inr (by omega)) (by omega)
    have f3 := hf 276 (36 * b + 23) (Or.inr (by omega)) (by omega)
    have f4 := hf 276 (36 * b + 26) (Or.inr (by omega)) (by omega)
    have f6 : ∀ k, 21060 ≤ k → k < 25060 → w' 276 k = w 276 k := fun k q1 q2 => hf 276 k (Or.inl (by unfold moK; omega)) (by omega)
    have f7 : w' 275 10 = w 275 10 := hf 275 10 (Or.inl (by unfold moK; omega)) (by omega)
    obtain ⟨q1, q2⟩ := h2 b g1 g2
    refine ⟨fun e => ?_, fun e => ?_⟩
    · have e1 : w 276 (36 * b + 20) = 1 := by have := hF2 b g1 g2; omega
      obtain ⟨z1, z2, P, z3, z4⟩ := q1 e1
      rcases hF with hF | hF
      · have := hF b g1 z1; omega
      · refine ⟨by rw [f7]; exact z1, by rw [f1]; exact z2, P, z3.fr ⟨g1, g2⟩ (by omega) y1 f1 f4 (fun c k q => f5 c k (by omega)) f6, fun i g3 g4 => ?_⟩
        rw [f5 286 _ (by omega)] at g4
        have z5 := z4 i g3 g4
        by_cases e : b = a ∧ i = j
        · obtain ⟨rfl, rfl⟩ := e
          rw [hV, z5]; exact hF.2
        · rw [hf 276 (36 * b + i + 32) (Or.inr (by omega)) (by omega)]
          exact z5
    · rw [hf 276 (36 * b + 22) (Or.inr (by omega)) (by omega)] at e
      obtain ⟨z1, z2, P, z3, z4⟩ := q2 e
      rw [f3, f1, hf 276 (36 * b + 16) (Or.inr (by omega)) (by omega)]
      refine ⟨z1, z2, P, z3.fr ⟨g1, g2⟩ y2 y1 f1 f4 (fun c k q => f5 c k (by omega)) f6, fun i g3 g4 => ⟨fun _ => ?_, fun e => by omega⟩⟩
      rw [f5 286 _ (by omega)] at g4
      rw [hf 276 (36 * b + i + 44) (Or.inr (by omega)) (by omega)]
      exact (z4 i g3 g4).1 (by omega)
  · rw [hf 276 1 (Or.inl (by unfold moK; omega)) (by omega)] at e
    rw [hf 275 10 (Or.inl (by unfold moK; omega)) (by omega)] at g2
    have := hty.1
    rw [hf 276 (36 * b + 16) (Or.inr (by omega)) (by omega)]
    exact h3 e b g1 g2
/-- power is given -/
theorem mMo.power {w w' : eW} (h : mMo w (-1)) (hty : moT w) (hf : ∀ c k, (moK c k ∨ (c = 276 ∧ 16 ≤ k ∧ k < 160)) → ¬ (c = 276 ∧ k = 1) → w' c k = w c k) (hP : w' 276 1 ≠ 0) : mMo w' (-1) := by
  obtain ⟨h1, h2, h3⟩ := h
  have f5 : ∀ c k, c = 286 ∨ c = 288 ∨ c = 289 ∨ c = 291 → w' c k = w c k := fun c k q => hf c k (Or.inl (by unfold moK; omega)) (by omega)
  refine ⟨fun b i g1 g2 g3 g4 => ?_, fun b g1 g2 => ?_, fun e => absurd e hP⟩
  · rw [f5 286 _ (by omega)] at g4
    have y := hty.2 b g1 g2
    have q := h1 b i g1 g2 g3 g4
    unfold moJ at q ⊢
    rw [hf 276 (36 * b + i + 32) (Or.inr (by omega)) (by omega), hf 276 (36 * b + i + 38) (Or.inr (by omega)) (by omega), hf 276 (36 * b + i + 44) (Or.inr (by omega)) (by omega), hf 276 (36 * b + 16) (Or.inr (by omega)) (by omega), f5 288 _ (by omega), f5 289 _ (by omega), f5 291 _ (by omega)]
    exact q
  · refine (h2 b g1 g2).fr hty ⟨g1, g2⟩ (fun c k q q2 => hf c k (Or.inl q) (by omega)) (fun e => ?_)
    rw [hf 276 (36 * b + 16) (Or.inr (by omega)) (by omega)]
    rw [hf 276 (36 * b + 22) (Or.inr (by omega)) (by omega)] at e
    exact ⟨rfl, e⟩
/-- the arm a takes up its fresh way -/
theorem mMo.take {w w' : eW} {a : Int} (h : mMo w (-1)) (hty : moT w) (ha : 0 ≤ a ∧ a ≤ 3) (hF : w 276 (36 * a + 20) = 1) (hf : ∀ c k, (moK c k ∨ (c = 276 ∧ 16 ≤ k ∧ k < 160)) → ¬ (c = 276 ∧ (k = 36 * a + 22 ∨ k = 36 * a + 23)) → w' c k = w c k) (h23 : w' 276 (36 * a + 23) = 0) : mMo w' a := by
  obtain ⟨h1, h2, h3⟩ := h
  have f5 : ∀ c k, c = 286 ∨ c = 288 ∨ c = 289 ∨ c = 291 → w' c k = w c k := fun c k q => hf c k (Or.inl (by unfold moK; omega)) (by omega)
  refine ⟨fun b i g1 g2 g3 g4 => ?_, fun b g1 g2 => ?_, fun e b g1 g2 => ?_⟩
  · rw [f5 286 _ (by omega)] at g4
    have y := hty.2 b g1 g2
    have q := h1 b i g1 g2 g3 g4
    unfold moJ at q ⊢
    rw [hf 276 (36 * b + i + 32) (Or.inr (by omega)) (by omega), hf 276 (36 * b + i + 38) (Or.inr (by omega)) (by omega), hf 276 (36 * b + i + 44) (Or.inr (by omega)) (by omega), hf 276 (36 * b + 16) (Or.inr (by omega)) (by omega), f5 288 _ (by omega), f5 289 _ (by omega), f5 291 _ (by omega)]
    exact q
  · by_cases e : b = a
    · subst e
      obtain ⟨y1, y2, y3, y4⟩ := hty.2 b g1 g2
      have f1 := hf 276 (36 * b + 19) (Or.inr (by omega)) (by omega)
      have f4 := hf 276 (36 * b + 26) (Or.inr (by omega)) (by omega)
      have f6 : ∀ k, 21060 ≤ k → k < 25060 → w' 276 k = w 276 k := fun k q1 q2 => hf 276 k (Or.inl (by unfold moK; omega)) (by omega)
      obtain ⟨z1, z2, P, z3, z4⟩ := (h2 b g1 g2).1 hF
      have z3' := z3.fr ⟨g1, g2⟩ (by omega) y1 f1 f4 (fun c k q => f5 c k (by omega)) f6
      have z4' : ∀ j, 0 ≤ j → j < w' 286 b → P 0 j = w' 276 (36 * b + j + 32) := fun j g3 g4 => by
        rw [f5 286 _ (by omega)] at g4
        rw [hf 276 (36 * b + j + 32) (Or.inr (by omega)) (by omega)]
        exact z4 j g3 g4
      refine ⟨fun _ => ⟨by rw [hf 275 10 (Or.inl (by unfold moK; omega)) (by omega)]; exact z1, by rw [f1]; exact z2, P, z3', z4'⟩, fun _ => ?_⟩
      rw [h23]
      exact ⟨Or.inl rfl, by rw [f1]; exact z2, P, z3', fun j g3 g4 => ⟨fun q => absurd rfl q, fun _ => z4' j g3 g4⟩⟩
    · refine ((h2 b g1 g2).ne (x' := a) (by omega) e).fr hty ⟨g1, g2⟩ (fun c k q q2 => hf c k (Or.inl q) (by omega)) (fun e9 => ?_)
      rw [hf 276 (36 * b + 16) (Or.inr (by omega)) (by omega)]
      rw [hf 276 (36 * b + 22) (Or.inr (by omega)) (by omega)] at e9
      exact ⟨rfl, e9⟩
  · rw [hf 276 1 (Or.inl (by unfold moK; omega)) (by omega)] at e
    rw [hf 275 10 (Or.inl (by unfold moK; omega)) (by omega)] at g2
    have := hty.1
    rw [hf 276 (36 * b + 16) (Or.inr (by omega)) (by omega)]
    exact h3 e b g1 g2
theorem st_hd {a j c k : Int} (q : mSt c k) : c = 276 ∧ (k = 36 * a + j + 32 ∨ (k < 160 ∧ ((k - 16) % 36 = 4 ∨ (k - 16) % 36 = 5))) := by unfold mSt at q; omega
theorem mInv.hand {w w1 w' : eW} {G : Int → Gh} {a j v : Int} (h : mInv w G) (ha : 0 ≤ a ∧ a ≤ 3) (haa : a < w 275 10) (hj : 0 ≤ j ∧ j < w 286 a) (hv : w 288 (6 * a + j) ≤ v ∧ v ≤ w 289 (6 * a + j)) (hP : w 276 1 = 0) (h1 : e_up w 276 (36 * a + j + 32) v = w1) (hF : e_fr mSt w1 w') (hT : e_Has mTy w')
    (hS : (∀ b, 0 ≤ b → b < w 275 10 → w' 276 (36 * b + 20) = 0) ∨ ((∀ b, 0 ≤ b → b ≤ 3 → w' 276 (36 * b + 20) = w1 276 (36 * b + 20)) ∧ w 276 (36 * a + j + 32) = v)) (hS2 : ∀ b, 0 ≤ b → b ≤ 3 → w' 276 (36 * b + 20) = 0 ∨ w' 276 (36 * b + 20) = w1 276 (36 * b + 20)) : mInv w' G := by
  have h0 := h
  obtain ⟨t1, -, -, -, -, h6, h7, h8, h9⟩ := h0
  have hp := e_Has.get t1 (c := 275) (k := 40) (lo := 0) (hi := 32) rfl (by decide)
  have hj6 := e_Has.get t1 (c := 286) (k := a) (lo := 0) (hi := 6) rfl (by decide)
  have hX : e_fr (fun c k => c = 276 ∧ (k = 36 * a + j + 32 ∨ (16 ≤ k ∧ k < 160 ∧ ((k - 16) % 36 = 4 ∨ (k - 16) % 36 = 5)))) w w' := fun c k q => by
    rw [hF c k (fun q1 => q (by unfold mSt at q1; omega)), ← h1]
    exact e_up_ne _ _ (by omega)
  have e20 : ∀ b, 0 ≤ b → b ≤ 3 → w1 276 (36 * b + 20) = w 276 (36 * b + 20) := fun b g1 g2 => by rw [← h1]; exact e_up_ne _ _ (Or.inr (by omega))
  have eV : w' 276 (36 * a + j + 32) = v := by
    rw [hF _ _ (by unfold mSt; omega), ← h1]
    exact e_up_eq _ _ _ _
  refine h.next hX hT (fun c k q => by unfold cfN; omega) (mMo.hand h6 (e_Has.mo t1) ha haa hj hv hP (fun c k q q2 => hX c k (fun q1 => q2 (by omega))) eV (hS.imp id (fun q => ⟨fun b g1 g2 => (q.1 b g1 g2).trans (e20 b g1 g2), q.2⟩)) (fun b g1 g2 => by rw [← e20 b g1 g2]; exact hS2 b g1 g2)) (mOr.fr h7 hp.2 (e_Has.orn t1) (e_Has.orw t1 hp.2) (fun k q => hX _ _ (fun q1 => by unfold orK at q; omega))) (fun v v1 v2 => tkOk.hop h8 (h9 v v1 v2) hX (fun c k q => ⟨by omega, fun _ => ⟨by omega, fun q2 => by unfold tkK at q2; omega⟩⟩))
theorem d_390 {d : Nat} (hd : 21 ≤ d) {w : eW} (hT : e_Has mTy w) {a : Int} : e_Ok 20 elay ecode eI d 390 (0, [(0, (1, 275)), (1, (0, a))], [], w) (fun r w' => (r = [] ∧ e_fr mSt w w' ∧ e_Has mTy w' ∧ (∀ b, 0 ≤ b → b < w 275 10 → w' 276 (36 * b + 20) = 0) ∧ ∀ b, 0 ≤ b → b ≤ 3 → w' 276 (36 * b + 20) = 0 ∨ w' 276 (36 * b + 20) = w 276 (36 * b + 20)) ∧ ∀ k, w' 276 k = nowF 390 [(0, (1, 275)), (1, (0, a))] w k) :=
  (e_Ok.detN (l := [(0, (1, 275)), (1, (0, a))]) (show ([0, 1] : List Nat).Nodup by decide) (fun u hu => c_390 hd (hT.low hu)) (fun u r v hu q => q.2.2.1)).imp (fun r v h => ⟨h.1, h.2.1⟩)
theorem mCf.low {w u : eW} (h : mCf w) (hu : ∀ c k, K0 c k → u c k = w c k) : mCf u := h.fr (fun c k q => hu c k (by rcases q with rfl | rfl | rfl; exact (by decide : (0 : Int) ≤ 6); exact (by decide : (0 : Int) ≤ 2000); exact (by decide : (0 : Int) ≤ 2000)))
theorem d_391 {d : Nat} (hd : 22 ≤ d) {w : eW} (hT : e_Has mTy w) (hCf : mCf w) {a : Int} (ha : 0 ≤ a ∧ a ≤ 3) (hMo : mMo w a) (hS : w 276 (36 * a + 16) = 0) (hPw : w 276 1 = 1) : e_Ok 20 elay ecode eI d 391 (0, [(0, (1, 275)), (1, (0, a))], [], w) (fun r w' => (r = [] ∧ e_fr (mNw a) w w' ∧ e_Has mTy w' ∧ mMo w' (-1)) ∧ ∀ k, w' 276 k = nowF 391 [(0, (1, 275)), (1, (0, a))] w k) :=
  (e_Ok.detN (l := [(0, (1, 275)), (1, (0, a))]) (show ([0, 1] : List Nat).Nodup by decide) (fun u hu => c_391 hd (hT.low hu) (hCf.low hu) ha (mMo.same hMo (e_Has.mo hT) (fun c k q => hu c k (K0_mo q))) (by rw [hu 276 _ (K0_now _)]; exact hS) (by rw [hu 276 1 (K0_now 1)]; exact hPw)) (fun u r v hu q => q.2.2.1)).imp (fun r v h => ⟨h.1, h.2.1⟩)
theorem su_9d_0 {a : Int} {c k : Int} (q : mNw a c k) : cfN c k := by
  unfold mNw at q
  rcases q with ⟨q, (q | ⟨q, q⟩ | q | ⟨q, q⟩)⟩
  · exact ⟨(by omega), ⟨(by omega), ⟨(by omega), ⟨(by omega), ⟨(by omega), ⟨(by omega), (by omega)⟩⟩⟩⟩⟩⟩
  · exact ⟨(by omega), ⟨(by omega), ⟨(by omega), ⟨(by omega), ⟨(by omega), ⟨(by omega), (by omega)⟩⟩⟩⟩⟩⟩
  · exact ⟨(by omega), ⟨(by omega), ⟨(by omega), ⟨(by omega), ⟨(by omega), ⟨(by omega), (by omega)⟩⟩⟩⟩⟩⟩
  · exact ⟨(by omega), ⟨(by omega), ⟨(by omega), ⟨(by omega), ⟨(by omega), ⟨(by omega), (by omega)⟩⟩⟩⟩⟩⟩
theorem mInv.way {w w' : eW} {G : Int → Gh} {a : Int} (h : mInv w G) (ha : 0 ≤ a ∧ a ≤ 3) (hF : e_fr (mNw a) w w') (hT : e_Has mTy w') (hM : mMo w' (-1)) : mInv w' G := by
  have h0 := h
  obtain ⟨t1, -, -, -, -, -, h7, h8, h9⟩ := h0
  have hp := e_Has.get t1 (c := 275) (k := 40) (lo := 0) (hi := 32) rfl (by decide)
  exact h.next hF hT (fun c k q => by first | exact su_9d_0 q | (unfold mNw at q; unfold cfN; omega)) hM (mOr.fr h7 hp.2 (e_Has.orn t1) (e_Has.orw t1 hp.2) (fun k q => hF _ _ (fun q1 => by unfold mNw at q1; unfold orK at q; omega))) (fun v v1 v2 => tkOk.hop h8 (h9 v v1 v2) hF (fun c k q => by unfold mNw at q; exact ⟨by omega, fun _ => ⟨by omega, fun q2 => by unfold tkK at q2; omega⟩⟩))
end
