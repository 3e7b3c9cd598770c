noncomputable section
/-! steps that keep it -/
section Ka
variable {w w' : eW} {OP OD CL : Int → Int → Int} {h t0 : Int}
theorem kI.bel (q : kI w OP OD CL h t0) : 0 ≤ w 19 0 ∧ w 19 0 ≤ 4 := e_Has.get q.1 (c := 19) (k := 0) (lo := 0) (hi := 4) rfl (by decide)
/-- the task t, and what nothing depends on -/
def kTh (t c k : Int) : Prop := kHm c k ∨ (6 * t + 154 ≤ c ∧ c ≤ 6 * t + 159)
theorem kI.tk (q : kI w OP OD CL h t0) (hT : e_Has kTy w') {t : Int} (ht : 0 ≤ t ∧ t ≤ 15) (f : e_fr (kTh t) w w') {t1 : Int} (h1 : ∀ s, s ≠ t → s = t0 → s = t1) (hq : tQ w' OP CL h t1 t) : kI w' OP OD CL h t1 := by
  have hB := q.bel
  have hc := q.cd
  obtain ⟨q1, q2, q3, q4, q5, q6, q7, q8, q9⟩ := q
  have e : ∀ c k, ¬ kHm c k → ¬ (6 * t + 154 ≤ c ∧ c ≤ 6 * t + 159) → w' c k = w c k := fun c k g1 g2 => f c k (fun g => g.elim g1 g2)
  refine ⟨hT, fun a g1 g2 => ?_, q3.fr f (fun c k g1 g2 => by unfold kTh kHm; omega) (fun k => by unfold kTh kHm; omega) (by unfold kTh kHm; omega) (by omega), q4.fr f (fun k => by unfold kTh kHm; omega), q5.fr f (by unfold kTh kHm; omega) (fun k => by unfold kTh kHm; omega), fun g a g1 g2 g9 => ?_, q7.eq (fun c k g => e c k (by unfold dC at g; unfold kHm; omega) (by unfold dC at g; omega)), fun j g1 g2 g3 => ?_, fun s g1 g2 => ?_⟩
  · exact (q2 a g1 g2).eq (kn_joints q1 ⟨g1, g2⟩).2 (fun c k g => e c k (by unfold dA at g; unfold kHm; omega) (by unfold dA at g; omega))
  · rw [e 74 3 (by unfold kHm; omega) (by omega)] at g
    rw [e 0 11 (by unfold kHm; omega) (by omega)] at g9
    rw [e _ _ (by unfold kHm; omega) (by omega)]
    exact q6 g a g1 g2 g9
  · rw [e _ _ (by unfold kHm; omega) (by omega)]
    exact q8 j g1 g2 g3
  · by_cases g : s = t
    · rw [g]; exact hq
    · have := (q9 s g1 g2).eq ⟨g1, g2⟩ q1 hc (fun c k g => e c k (by unfold dT dC at g; unfold kHm; omega) (by unfold dT dC at g; omega))
      refine ⟨this.1, fun k1 k2 => ⟨(this.2 k1 k2).1, fun k3 => (this.2 k1 k2).2 (fun k4 => k3 (h1 s g k4))⟩⟩
/-- an event more -/
def kLh (c k : Int) : Prop := kHm c k ∨ (c = 74 ∧ k = 1) ∨ c = 75
theorem kI.lg (q : kI w OP OD CL h t0) (hT : e_Has kTy w') (f : e_fr kLh w w') (hL : lgK w') : kI w' OP OD CL h t0 := by
  have hB := q.bel
  have hc := q.cd
  obtain ⟨q1, q2, q3, q4, q5, q6, q7, q8, q9⟩ := q
  have e : ∀ c k, ¬ kHm c k → ¬ (c = 74 ∧ k = 1) → c ≠ 75 → w' c k = w c k := fun c k g1 g2 g3 => f c k (fun g => g.elim g1 (fun g => g.elim g2 g3))
  refine ⟨hT, fun a g1 g2 => ?_, q3.fr f (fun c k g1 g2 => by unfold kLh kHm; omega) (fun k => by unfold kLh kHm; omega) (by unfold kLh kHm; omega) (by omega), q4.fr f (fun k => by unfold kLh kHm; omega), hL, fun g a g1 g2 g9 => ?_, q7.eq (fun c k g => e c k (by unfold dC at g; unfold kHm; omega) (by unfold dC at g; omega) (by unfold dC at g; omega)), fun j g1 g2 g3 => ?_, fun s g1 g2 => ?_⟩
  · exact (q2 a g1 g2).eq (kn_joints q1 ⟨g1, g2⟩).2 (fun c k g => e c k (by unfold dA at g; unfold kHm; omega) (by unfold dA at g; omega) (by unfold dA at g; omega))
  · rw [e 74 3 (by unfold kHm; omega) (by omega) (by omega)] at g
    rw [e 0 11 (by unfold kHm; omega) (by omega) (by omega)] at g9
    rw [e _ _ (by unfold kHm; omega) (by omega) (by omega)]
    exact q6 g a g1 g2 g9
  · rw [e _ _ (by unfold kHm; omega) (by omega) (by omega)]
    exact q8 j g1 g2 g3
  · exact (q9 s g1 g2).eq ⟨g1, g2⟩ q1 hc (fun c k g => e c k (by unfold dT dC at g; unfold kHm; omega) (by unfold dT dC at g; omega) (by unfold dT dC at g; omega))
/-- points -/
def kPh (c k : Int) : Prop := kHm c k ∨ (11 ≤ c ∧ c ≤ 14) ∨ c = 16
theorem kI.po (q : kI w OP OD CL h t0) (hT : e_Has kTy w') (f : e_fr kPh w w') (hP : pF w') : kI w' OP OD CL h t0 := by
  have hB := q.bel
  have hc := q.cd
  obtain ⟨q1, q2, q3, q4, q5, q6, q7, q8, q9⟩ := q
  have e : ∀ c k, ¬ kHm c k → ¬ (11 ≤ c ∧ c ≤ 14) → c ≠ 16 → w' c k = w c k := fun c k g1 g2 g3 => f c k (fun g => g.elim g1 (fun g => g.elim g2 g3))
  refine ⟨hT, fun a g1 g2 => ?_, q3.fr f (fun c k g1 g2 => by unfold kPh kHm; omega) (fun k => by unfold kPh kHm; omega) (by unfold kPh kHm; omega) (by omega), hP, q5.fr f (by unfold kPh kHm; omega) (fun k => by unfold kPh kHm; omega), fun g a g1 g2 g9 => ?_, q7.eq (fun c k g => e c k (by unfold dC at g; unfold kHm; omega) (by unfold dC at g; omega) (by unfold dC at g; omega)), fun j g1 g2 g3 => ?_, fun s g1 g2 => ?_⟩
  · exact (q2 a g1 g2).eq (kn_joints q1 ⟨g1, g2⟩).2 (fun c k g => e c k (by unfold dA at g; unfold kHm; omega) (by unfold dA at g; omega) (by unfold dA at g; omega))
  · rw [e 74 3 (by unfold kHm; omega) (by omega) (by omega)] at g
    rw [e 0 11 (by unfold kHm; omega) (by omega) (by omega)] at g9
    rw [e _ _ (by unfold kHm; omega) (by omega) (by omega)]
    exact q6 g a g1 g2 g9
  · rw [e _ _ (by unfold kHm; omega) (by omega) (by omega)]
    exact q8 j g1 g2 g3
  · exact (q9 s g1 g2).eq ⟨g1, g2⟩ q1 hc (fun c k g => e c k (by unfold dT dC at g; unfold kHm; omega) (by unfold dT dC at g; omega) (by unfold dT dC at g; omega))
/-- a goal is collected -/
theorem kI.gl (q : kI w OP OD CL h t0) (hT : e_Has kTy w') {n v : Int} (hn : n = h ∨ n < h) (hv : kn1 v) (hw : e_up w 85 n v = w') {h' : Int} (hh : h ≤ h' ∧ h' ≤ n + 1 ∨ h' = h) : kI w' OP OD CL h' t0 := by
  have hB := q.bel
  have hc := q.cd
  obtain ⟨q1, q2, q3, q4, q5, q6, q7, q8, q9⟩ := q
  have e : ∀ c k, c ≠ 85 → w' c k = w c k := fun c k g => by rw [← hw]; exact e_up_ne _ _ (Or.inl g)
  have f : e_fr (fun c _ => c = 85) w w' := fun c k g => e c k g
  refine ⟨hT, fun a g1 g2 => ?_, q3.fr f (fun c k g1 g2 => by omega) (fun k => by omega) (by omega) (by omega), q4.fr f (fun k => by omega), q5.fr f (by omega) (fun k => by omega), fun g a g1 g2 g9 => ?_, q7.eq (fun c k g => e c k (by unfold dC at g; omega)), fun j g1 g2 g3 => ?_, fun s g1 g2 => ?_⟩
  · exact (q2 a g1 g2).eq (kn_joints q1 ⟨g1, g2⟩).2 (fun c k g => e c k (by unfold dA at g; omega))
  · rw [e 74 3 (by omega)] at g
    rw [e 0 11 (by omega)] at g9
    rw [e _ _ (by omega)]
    exact q6 g a g1 g2 g9
  · rw [← hw]
    by_cases g : j = n
    · rw [g, e_up_eq]; exact hv
    · rw [e_up_ne _ _ (Or.inr g)]; exact q8 j g1 (by omega) g3
  · have := (q9 s g1 g2).eq ⟨g1, g2⟩ q1 hc (fun c k g => e c k (by unfold dT dC at g; omega))
    exact ⟨this.1, fun k1 k2 => ⟨(this.2 k1 k2).1, fun k3 => by have := (this.2 k1 k2).2 k3; omega⟩⟩
/-- more goals than before may be known -/
theorem kI.less (q : kI w OP OD CL h t0) {h' : Int} (hh : h ≤ h') (hg : gK w h') : kI w OP OD CL h' t0 := by
  obtain ⟨q1, q2, q3, q4, q5, q6, q7, q8, q9⟩ := q
  exact ⟨q1, q2, q3, q4, q5, q6, q7, hg, fun s g1 g2 => ⟨(q9 s g1 g2).1, fun k1 k2 => ⟨((q9 s g1 g2).2 k1 k2).1, fun k3 => by have := ((q9 s g1 g2).2 k1 k2).2 k3; omega⟩⟩⟩
/-- an arm, the log, and what nothing depends on -/
def kAh (a c k : Int) : Prop := kHm c k ∨ (c = 74 ∧ k = 1) ∨ c = 75 ∨ (c = 17 * a + 86 ∧ 9 ≤ k) ∨ (17 * a + 88 ≤ c ∧ c ≤ 17 * a + 92) ∨ (17 * a + 97 ≤ c ∧ c ≤ 17 * a + 102)
theorem kI.ar (q : kI w OP OD CL h t0) (hT : e_Has kTy w') {a : Int} (ha : 0 ≤ a ∧ a ≤ 3) (f : e_fr (kAh a) w w') (hL : lgK w') (hA : aR w' a) (hW : w 74 3 = 0 → a < w 0 11 → w' (17 * a + 86) 11 = 0) : kI w' OP OD CL h t0 := by
  have hB := q.bel
  have hc := q.cd
  obtain ⟨q1, q2, q3, q4, q5, q6, q7, q8, q9⟩ := q
  have e : ∀ c k, ¬ kAh a c k → w' c k = w c k := f
  refine ⟨hT, fun b g1 g2 => ?_, q3.fr f (fun c k g1 g2 => by unfold kAh kHm; omega) (fun k => by unfold kAh kHm; omega) (by unfold kAh kHm; omega) (by omega), q4.fr f (fun k => by unfold kAh kHm; omega), hL, fun g b g1 g2 g9 => ?_, q7.eq (fun c k g => e c k (by unfold dC at g; unfold kAh kHm; omega)), fun j g1 g2 g3 => ?_, fun s g1 g2 => ?_⟩
  · by_cases g : b = a
    · rw [g]; exact hA
    · exact (q2 b g1 g2).eq (kn_joints q1 ⟨g1, g2⟩).2 (fun c k g => e c k (by unfold dA at g; unfold kAh kHm; omega))
  · rw [e 74 3 (by unfold kAh kHm; omega)] at g
    rw [e 0 11 (by unfold kAh kHm; omega)] at g9
    by_cases g3 : b = a
    · rw [g3]; exact hW g (by omega)
    · rw [e _ _ (by unfold kAh kHm; omega)]
      exact q6 g b g1 g2 g9
  · rw [e _ _ (by unfold kAh kHm; omega)]
    exact q8 j g1 g2 g3
  · exact (q9 s g1 g2).eq ⟨g1, g2⟩ q1 hc (fun c k g => e c k (by unfold dT dC at g; unfold kAh kHm; omega))
/-- ways are stale -/
def kMv (c k : Int) : Prop := ((c = 86 ∨ c = 103 ∨ c = 120 ∨ c = 137) ∧ k = 19) ∨ (c = 74 ∧ k = 7)
theorem aR.stale {a : Int} (hn : w (17 * a + 86) 8 ≤ 6) (h : ∀ c k, dA a c k → ¬ (c = 17 * a + 86 ∧ k = 19) → w' c k = w c k) (hm : w' (17 * a + 86) 19 ≠ 0) (q : aR w a) : aR w' a := by
  obtain ⟨q1, q2, q3, q4, q5, q6⟩ := q
  refine ⟨q1.eq (fun c k g => h c k (by unfold dA; omega) (by omega)), q2.eq (fun c k g => h c k (by unfold dA; omega) (by omega)), ?_, q4.eq hn (fun c k g => h c k (by unfold dA; omega) (by omega)), q5.eq (fun c k g => h c k (by unfold dA; omega) (by omega)), ?_⟩
  · rw [h (17 * a + 86) 8 (by unfold dA; omega) (by omega), h (17 * a + 86) 11 (by unfold dA; omega) (by omega)]
    exact q3.eq hn (fun c k g1 g2 g3 g4 => h c k (by unfold dA; omega) (by omega))
  · have e : ∀ k, (k = 8 ∨ k = 11 ∨ k = 17 ∨ k = 18) → w' (17 * a + 86) k = w (17 * a + 86) k := fun k g => h _ _ (by unfold dA; omega) (by omega)
    have hp : ∀ c k, 269 ≤ c → c ≤ 271 → w' c k = w c k := fun c k g1 g2 => h c k (by unfold dA; omega) (by omega)
    unfold aW at q6 ⊢
    rw [e 8 (by omega), e 11 (by omega), e 17 (by omega), e 18 (by omega), hp 270 _ (by decide) (by decide)]
    exact ⟨fun g => (q6.1 g).eq hp, fun _ g => absurd g hm, fun g => ⟨(q6.2.2 g).1, (q6.2.2 g).2.1, (q6.2.2 g).2.2.1, (q6.2.2 g).2.2.2.eq hp (fun j g1 g2 => ⟨h _ _ (by unfold dA; omega) (by omega), h _ _ (by unfold dA; omega) (by omega)⟩) (fun j g3 g4 => h _ _ (by unfold dA; omega) (by omega))⟩⟩
theorem kI.stale (q : kI w OP OD CL h t0) (hT : e_Has kTy w') (f : e_fr kMv w w') (hm : ∀ a, 0 ≤ a → a ≤ 3 → w' (17 * a + 86) 19 ≠ 0) : kI w' OP OD CL h t0 := by
  have hB := q.bel
  have hc := q.cd
  obtain ⟨q1, q2, q3, q4, q5, q6, q7, q8, q9⟩ := q
  have e : ∀ c k, ¬ kMv c k → w' c k = w c k := f
  refine ⟨hT, fun a g1 g2 => ?_, q3.fr f (fun c k g1 g2 => by unfold kMv; omega) (fun k => by unfold kMv; omega) (by unfold kMv; omega) (by omega), q4.fr f (fun k => by unfold kMv; omega), q5.fr f (by unfold kMv; omega) (fun k => by unfold kMv; omega), fun g a g1 g2 g9 => ?_, q7.eq (fun c k g => e c k (by unfold dC at g; unfold kMv; omega)), fun j g1 g2 g3 => ?_, fun t g1 g2 => ?_⟩
  · exact (q2 a g1 g2).stale (kn_joints q1 ⟨g1, g2⟩).2 (fun c k g g3 => e c k (by unfold dA at g; unfold kMv; omega)) (hm a g1 g2)
  · rw [e 74 3 (by unfold kMv; omega)] at g
    rw [e 0 11 (by unfold kMv; omega)] at g9
    rw [e _ _ (by unfold kMv; omega)]
    exact q6 g a g1 g2 g9
  · rw [e _ _ (by unfold kMv; omega)]
    exact q8 j g1 g2 g3
  · exact (q9 t g1 g2).eq ⟨g1, g2⟩ q1 hc (fun c k g => e c k (by unfold dT dC at g; unfold kMv; omega))
/-- a move is broken off: the arm brakes, or stands -/
theorem aR.brk {a : Int} (hn : w (17 * a + 86) 8 ≤ 6) (h : ∀ c k, dA a c k → ¬ (c = 17 * a + 86 ∧ (k = 11 ∨ k = 18)) → w' c k = w c k) (hs : w (17 * a + 86) 11 = 1) (h1 : w' (17 * a + 86) 11 = 2) (h2 : w' (17 * a + 86) 18 = -1) (q : aR w a) : aR w' a := by
  obtain ⟨q1, q2, q3, q4, q5, q6⟩ := q
  have e8 : w' (17 * a + 86) 8 = w (17 * a + 86) 8 := h _ _ (by unfold dA; omega) (by omega)
  refine ⟨q1.eq (fun c k g => h c k (by unfold dA; omega) (by omega)), q2.eq (fun c k g => h c k (by unfold dA; omega) (by omega)), ?_, ?_, q5.eq (fun c k g => h c k (by unfold dA; omega) (by omega)), ?_⟩
  · rw [e8, h1]
    intro i g1 g2
    have q := q3 i g1 g2
    rw [hs] at q
    refine jq.eq (fun k g3 g4 => h _ _ (by unfold dA; omega) (by omega)) ⟨q.1, ?_⟩
    exact joOk.brake q.1.2.2.1 q.2
  · intro _
    have q := q4 (by omega)
    rw [h (17 * a + 86) 12 (by unfold dA; omega) (by omega), e8]
    exact ⟨q.1, fun j g1 g2 => by rw [h _ _ (by unfold dA; omega) (by omega)]; exact q.2 j g1 g2⟩
  · have hp : ∀ c k, 269 ≤ c → c ≤ 271 → w' c k = w c k := fun c k g1 g2 => h c k (by unfold dA; omega) (by omega)
    unfold aW at q6 ⊢
    rw [e8, h2, h (17 * a + 86) 17 (by unfold dA; omega) (by omega), h (17 * a + 86) 19 (by unfold dA; omega) (by omega)]
    exact ⟨fun g => (q6.1 g).eq hp, fun g1 g2 => (q6.2.1 g1 g2).eq hp (fun j g1 g2 => ⟨h _ _ (by unfold dA; omega) (by omega), h _ _ (by unfold dA; omega) (by omega)⟩) (fun j g3 g4 => h _ _ (by unfold dA; omega) (by omega)), fun g => by omega⟩
/-- the arm stands -/
theorem aR.stand {a : Int} (ha : 0 ≤ a ∧ a ≤ 3) (hn : w (17 * a + 86) 8 ≤ 6) (h : ∀ c k, dA a c k → ¬ (c = 17 * a + 86 ∧ (k = 11 ∨ k = 18)) → ¬ (17 * a + 97 ≤ c ∧ c ≤ 17 * a + 102 ∧ k = 8) → w' c k = w c k) (h1 : w' (17 * a + 86) 11 = 0) (h2 : w' (17 * a + 86) 18 = -1) (h3 : ∀ i, 0 ≤ i → i < 6 → w' (17 * a + i + 97) 8 = 0) (q : aR w a) : aR w' a := by
  obtain ⟨q1, q2, q3, q4, q5, q6⟩ := q
  have e8 : w' (17 * a + 86) 8 = w (17 * a + 86) 8 := h _ _ (by unfold dA; omega) (by omega) (by omega)
  refine ⟨q1.eq (fun c k g => h c k (by unfold dA; omega) (by omega) (by omega)), q2.eq (fun c k g => h c k (by unfold dA; omega) (by omega) (by omega)), ?_, fun g => absurd h1 g, q5.eq (fun c k g => h c k (by unfold dA; omega) (by omega) (by omega)), ?_⟩
  · rw [e8, h1]
    intro i g1 g2
    have q := q3 i g1 g2
    have ek : ∀ k, 1 ≤ k → k ≤ 10 → k ≠ 8 → w' (17 * a + i + 97) k = w (17 * a + i + 97) k := fun k g3 g4 g5 => h _ _ (by unfold dA; omega) (by omega) (by omega)
    refine ⟨?_, ?_⟩
    · have := q.1
      unfold jC at this ⊢
      rw [ek 1 (by omega) (by omega) (by omega), ek 2 (by omega) (by omega) (by omega), ek 5 (by omega) (by omega) (by omega), ek 6 (by omega) (by omega) (by omega)]
      exact this
    · have hm := q.2.1
      unfold jM joOk
      rw [ek 1 (by omega) (by omega) (by omega), ek 2 (by omega) (by omega) (by omega), ek 7 (by omega) (by omega) (by omega), h3 i g1 (by omega)]
      exact ⟨hm, fun _ => rfl, fun g => absurd g (by decide), fun g => absurd g (by decide)⟩
  · have hp : ∀ c k, 269 ≤ c → c ≤ 271 → w' c k = w c k := fun c k g1 g2 => h c k (by unfold dA; omega) (by omega) (by omega)
    unfold aW at q6 ⊢
    rw [e8, h2, h (17 * a + 86) 17 (by unfold dA; omega) (by omega) (by omega), h (17 * a + 86) 19 (by unfold dA; omega) (by omega) (by omega)]
    exact ⟨fun g => (q6.1 g).eq hp, fun g1 g2 => (q6.2.1 g1 g2).eq hp (fun j g1 g2 => ⟨h _ _ (by unfold dA; omega) (by omega) (by omega), h _ _ (by unfold dA; omega) (by omega) (by omega)⟩) (fun j g3 g4 => h _ _ (by unfold dA; omega) (by omega) (by omega)), fun g => by omega⟩
end Ka
end
