noncomputable section
/-! more steps that keep it: a task's own cells, a new task, a move, a part gripped or dropped -/
section Kc
variable {w w' : eW} {OP OD CL : Int → Int → Int} {h t0 : Int}
/-- the task that acts: its own cells and what nothing depends on -/
theorem kI.tg {t : Int} (q : kI w OP OD CL h t) (hT : e_Has kTy w') (ht : 0 ≤ t ∧ t ≤ 15) (f : e_fr (kTh t) w w') (h2 : w' (6 * t + 154) 2 = w (6 * t + 154) 2) (hA : 0 ≤ w (6 * t + 154) 2 ∧ w (6 * t + 154) 2 ≤ 3) (hF : tF w' (6 * t + 154))
    (hG : 1 ≤ w' (6 * t + 154) 1 → w' (6 * t + 154) 1 ≤ 5 → tG w' (6 * t + 154) (OP (w (6 * t + 154) 2)) (w (w (17 * w (6 * t + 154) 2 + 86) 7) 1)) : kI w' OP OD CL h t := by
  have hc := q.cd _ hA.1 hA.2
  refine kI.tk q hT ht f (fun s g1 g2 => g2) ⟨hF, fun g1 g2 => ⟨?_, fun g => absurd rfl g⟩⟩
  have e7 : w' (17 * w (6 * t + 154) 2 + 86) 7 = w (17 * w (6 * t + 154) 2 + 86) 7 := f _ _ (by unfold kTh kHm; omega)
  unfold isCd at hc
  have e1 : w' (w (17 * w (6 * t + 154) 2 + 86) 7) 1 = w (w (17 * w (6 * t + 154) 2 + 86) 7) 1 := f _ _ (by unfold kTh kHm; omega)
  rw [h2, e7, e1]
  exact hG g1 g2
/-- another task acts, or none -/
theorem kI.own {t : Int} (q : kI w OP OD CL h t) (hq : 1 ≤ w (6 * t + 154) 1 → w (6 * t + 154) 1 ≤ 5 → CL (w (6 * t + 154) 2) (w (6 * t + 154) 3) ≤ h) {t1 : Int} : kI w OP OD CL h t1 := by
  obtain ⟨q1, q2, q3, q4, q5, q6, q7, q8, q9⟩ := q
  refine ⟨q1, q2, q3, q4, q5, q6, q7, q8, fun s g1 g2 => ⟨(q9 s g1 g2).1, fun k1 k2 => ⟨((q9 s g1 g2).2 k1 k2).1, fun _ => ?_⟩⟩⟩
  by_cases g : s = t
  · rw [g] at k1 k2 ⊢; exact hq k1 k2
  · exact ((q9 s g1 g2).2 k1 k2).2 g
/-- a task begins -/
theorem kI.beg {t a : Int} (q : kI w OP OD CL h t0) (hT : e_Has kTy w') (ht : 0 ≤ t ∧ t ≤ 15) (h0 : 0 ≤ h) (ha : 0 ≤ a ∧ a ≤ 3) (f : e_fr (kBg t) w w') (h2 : w' (6 * t + 154) 2 = a) (h1 : w' (6 * t + 154) 1 = 1) (h11 : w' (6 * t + 154) 11 = -1) (hS : tSx w' (6 * t + 154) (OP a)) (hp : 40 ≤ OP a (w' (6 * t + 154) 3)) : kI w' OP OD CL h t0 := by
  refine kI.tk q hT ht (f.mono (fun c k g => by unfold kBg at g; unfold kTh; omega)) (fun s _ g2 => g2) ⟨⟨fun _ _ => by rw [h2]; exact ha.1, fun g => by omega, fun g => by omega⟩, fun _ _ => ⟨⟨by rw [h2]; exact hS, fun g => by omega⟩, fun _ => ?_⟩⟩
  have := ((q.2.2.2.2.2.2.1 a ha.1 ha.2).2.1).2.1 _ hp
  rw [h2]
  omega
/-- a move begins -/
theorem aR.move {a : Int} (ha : 0 ≤ a ∧ a ≤ 3) (hn : w (17 * a + 86) 8 ≤ 6) (hc : ∀ c k, dA a c k → ¬ (c = 17 * a + 86 ∧ (k = 11 ∨ k = 12)) → ¬ (17 * a + 97 ≤ c ∧ c ≤ 17 * a + 102 ∧ (k = 9 ∨ k = 10)) → w' c k = w c k) (h0 : w (17 * a + 86) 11 = 0) (h1 : w' (17 * a + 86) 11 = 1) (h2 : kn1 (w' (17 * a + 86) 12)) (hg : ∀ j, 0 ≤ j → j < w (17 * a + 86) 8 → (w (17 * a + j + 97) 1 ≤ w' (17 * a + j + 97) 9 ∧ w' (17 * a + j + 97) 9 ≤ w (17 * a + j + 97) 2) ∧ kn1 (w' (17 * a + j + 97) 10)) (q : aR w a) : aR w' a := by
  obtain ⟨q1, q2, q3, q4, q5, q6⟩ := q
  have e8 : w' (17 * a + 86) 8 = w (17 * a + 86) 8 := hc _ _ (by unfold dA; omega) (by omega) (by omega)
  refine ⟨q1.eq (fun c k g => hc c k (by unfold dA; omega) (by omega) (by omega)), q2.eq (fun c k g => hc c k (by unfold dA; omega) (by omega) (by omega)), ?_, ?_, q5.eq (fun c k g => hc c k (by unfold dA; omega) (by omega) (by omega)), ?_⟩
  · rw [e8, h1]
    intro i g1 g2
    have q := q3 i g1 g2
    rw [h0] at q
    have ek : ∀ k, 1 ≤ k → k ≤ 8 → w' (17 * a + i + 97) k = w (17 * a + i + 97) k := fun k g3 g4 => hc _ _ (by unfold dA; omega) (by omega) (by omega)
    refine ⟨?_, ?_⟩
    · have := q.1
      unfold jC at this ⊢
      rw [ek 1 (by omega) (by omega), ek 2 (by omega) (by omega), ek 5 (by omega) (by omega), ek 6 (by omega) (by omega)]
      exact this
    · have hm := q.2
      have hs : w (17 * a + i + 97) 8 = 0 := hm.2.1 rfl
      unfold jM joOk
      rw [ek 1 (by omega) (by omega), ek 2 (by omega) (by omega), ek 7 (by omega) (by omega), ek 8 (by omega) (by omega), hs]
      exact ⟨hm.1, fun g => absurd g (by decide), fun _ => ⟨(hg i g1 g2).1, fun _ g => absurd g (by decide), fun g => absurd g (by decide)⟩, fun g => absurd g (by decide)⟩
  · intro _
    rw [e8]
    exact ⟨h2, fun j g1 g2 => (hg j g1 g2).2⟩
  · have hp : ∀ c k, 269 ≤ c → c ≤ 271 → w' c k = w c k := fun c k g1 g2 => hc c k (by unfold dA; omega) (by omega) (by omega)
    have e : ∀ k, 17 ≤ k → k ≤ 19 → w' (17 * a + 86) k = w (17 * a + 86) k := fun k g1 g2 => hc _ _ (by unfold dA; omega) (by omega) (by omega)
    unfold aW at q6 ⊢
    rw [e8, e 17 (by omega) (by omega), e 18 (by omega) (by omega), e 19 (by omega) (by omega)]
    exact ⟨fun g => (q6.1 g).eq hp, fun g1 g2 => (q6.2.1 g1 g2).eq hp (fun j g1 g2 => ⟨hc _ _ (by unfold dA; omega) (by omega) (by omega), hc _ _ (by unfold dA; omega) (by omega) (by omega)⟩) (fun j g3 g4 => hc _ _ (by unfold dA; omega) (by omega) (by omega)), fun g => by have := (q6.2.2 g).1; omega⟩
/-- the floor, and what an arm holds -/
def kFh (a c k : Int) : Prop := (31 ≤ c ∧ c ≤ 37) ∨ c = 39 ∨ c = 40 ∨ (c = 17 * a + 86 ∧ (k = 14 ∨ k = 15))
theorem kI.fl (q : kI w OP OD CL h t0) (hT : e_Has kTy w') {a : Int} (ha : 0 ≤ a ∧ a ≤ 3) (f : e_fr (kFh a) w w') (hF : fK w') (hH : ∀ b, 0 ≤ b → b ≤ 3 → aH w' b) : kI w' OP OD CL h t0 := by
  have hc := q.cd
  obtain ⟨q1, q2, q3, q4, q5, q6, q7, q8, q9⟩ := q
  have e : ∀ c k, ¬ kFh a c k → w' c k = w c k := f
  refine ⟨hT, fun b g1 g2 => ?_, hF, q4.fr f (fun k => by unfold kFh; omega), q5.fr f (by unfold kFh; omega) (fun k => by unfold kFh; omega), fun g b g1 g2 g9 => ?_, q7.eq (fun c k g => e c k (by unfold dC at g; unfold kFh; omega)), fun j g1 g2 g3 => ?_, fun s g1 g2 => ?_⟩
  · obtain ⟨p1, p2, p3, p4, p5, p6⟩ := q2 b g1 g2
    have hn := (kn_joints q1 ⟨g1, g2⟩).2
    refine ⟨p1.eq (fun c k g => e c k (by unfold kFh; omega)), p2.eq (fun c k g => e c k (by unfold kFh; omega)), ?_, p4.eq hn (fun c k g => e c k (by unfold kFh; omega)), hH b g1 g2, p6.eq hn (fun c k g => e c k (by unfold kFh; omega))⟩
    rw [e (17 * b + 86) 8 (by unfold kFh; omega), e (17 * b + 86) 11 (by unfold kFh; omega)]
    exact p3.eq hn (fun c k g1 g2 g3 g4 => e c k (by unfold kFh; omega))
  · rw [e 74 3 (by unfold kFh; omega)] at g
    rw [e 0 11 (by unfold kFh; omega)] at g9
    rw [e _ _ (by unfold kFh; omega)]
    exact q6 g b g1 g2 g9
  · rw [e _ _ (by unfold kFh; omega)]
    exact q8 j g1 g2 g3
  · exact (q9 s g1 g2).eq ⟨g1, g2⟩ q1 hc (fun c k g => e c k (by unfold dT dC at g; unfold kFh; omega))
/-- a part is gripped: what the arms hold -/
theorem aH.grip {a p : Int} (ha : 0 ≤ a ∧ a ≤ 3) (hp : 0 ≤ p ∧ p < w 19 1) (hq : w 36 p < 4 ∨ w 36 p = 8) (h1 : w' 19 1 = w 19 1) (h2 : w' 36 p = 4 + a) (h3 : ∀ q, q ≠ p → w' 36 q = w 36 q) (h4 : w' (17 * a + 86) 14 = p) (h5 : ∀ b, 0 ≤ b → b ≤ 3 → b ≠ a → w' (17 * b + 86) 14 = w (17 * b + 86) 14) (hH : ∀ b, 0 ≤ b → b ≤ 3 → aH w b) : ∀ b, 0 ≤ b → b ≤ 3 → aH w' b := fun b g1 g2 g => by
  by_cases e : b = a
  · rw [e, h4, h1, h2]; exact ⟨hp.2, rfl⟩
  · rw [h5 b g1 g2 e] at g ⊢
    have q := hH b g1 g2 g
    rw [h1, h3 _ (fun e2 => by rw [e2] at q; omega)]
    exact q
theorem aH.drop {a p : Int} (ha : 0 ≤ a ∧ a ≤ 3) (h0 : w (17 * a + 86) 14 = p) (hp : 0 ≤ p) (h1 : w' 19 1 = w 19 1) (h3 : ∀ q, q ≠ p → w' 36 q = w 36 q) (h4 : w' (17 * a + 86) 14 = -1) (h5 : ∀ b, 0 ≤ b → b ≤ 3 → b ≠ a → w' (17 * b + 86) 14 = w (17 * b + 86) 14) (hH : ∀ b, 0 ≤ b → b ≤ 3 → aH w b) : ∀ b, 0 ≤ b → b ≤ 3 → aH w' b := fun b g1 g2 g => by
  by_cases e : b = a
  · rw [e, h4] at g; exact absurd g (by decide)
  · rw [h5 b g1 g2 e] at g ⊢
    have q := hH b g1 g2 g
    have qa := hH a ha.1 ha.2 (by rw [h0]; exact hp)
    rw [h1, h3 _ (fun e2 => by rw [e2] at q; rw [h0] at qa; omega)]
    exact q
end Kc
end
