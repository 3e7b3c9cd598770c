-- part ca
section
noncomputable section
/-! steps that keep it -/
section Ka
variable {w w' : eW} {OP OD CL : Int → Int → Int} {h t0 : Int}
theorem kI.bel (q : kI w OP OD CL h t0) : 0 ≤ w 19 0 ∧ w 19 0 ≤ 4 := e_Has.get q.1 (c := 19) (k := 0) (lo := 0) (hi := 4) rfl (by decide)
/-- the task t, and what nothing depends on -/
def kTh (t c k : Int) : Prop := kHm c k ∨ (6 * t + 154 ≤ c ∧ c ≤ 6 * t + 159)
theorem no_ca_0 : ¬ kHm 74 3 := by unfold kHm; omega
theorem no_ca_1 : ¬ kHm 0 11 := by unfold kHm; omega
theorem kI.tk (q : kI w OP OD CL h t0) (hT : e_Has kTy w') {t : Int} (ht : 0 ≤ t ∧ t ≤ 15) (f : e_fr (kTh t) w w') {t1 : Int} (h1 : ∀ s, s ≠ t → s = t0 → s = t1) (hq : tQ w' OP CL h t1 t) : kI w' OP OD CL h t1 := by
  have hB := q.bel
  have hc := q.cd
  obtain ⟨q1, q2, q3, q4, q5, q6, q7, q8, q9⟩ := q
  have e : ∀ c k, ¬ kHm c k → ¬ (6 * t + 154 ≤ c ∧ c ≤ 6 * t + 159) → w' c k = w c k := fun c k g1 g2 => f c k (fun g => g.elim g1 g2)
  refine ⟨hT, fun a g1 g2 => ?_, q3.fr f (fun c k g1 g2 => by unfold kTh kHm; omega) (fun k => by unfold kTh kHm; omega) (by unfold kTh kHm; omega) (by omega), q4.fr f (fun k => by unfold kTh kHm; omega), q5.fr f (by unfold kTh kHm; omega) (fun k => by unfold kTh kHm; omega), fun g a g1 g2 g9 => ?_, q7.eq (fun c k g => e c k (by unfold dC at g; unfold kHm; omega) (by unfold dC at g; omega)), fun j g1 g2 g3 => ?_, fun s g1 g2 => ?_⟩
  · exact (q2 a g1 g2).eq (kn_joints q1 ⟨g1, g2⟩).2 (fun c k g => e c k (by unfold dA at g; unfold kHm; omega) (by unfold dA at g; omega))
  · rw [e 74 3 no_ca_0 (by omega)] at g
    rw [e 0 11 no_ca_1 (by omega)] at g9
    rw [e _ _ (by unfold kHm; omega) (by omega)]
    exact q6 g a g1 g2 g9
  · rw [e _ _ (by unfold kHm; omega) (by omega)]
    exact q8 j g1 g2 g3
  · by_cases g : s = t
    · rw [g]; exact hq
    · have := (q9 s g1 g2).eq ⟨g1, g2⟩ q1 hc (fun c k g => e c k (by unfold dT dC at g; unfold kHm; omega) (by unfold dT dC at g; omega))
      refine ⟨this.1, fun k1 k2 => ⟨(this.2 k1 k2).1, fun k3 => (this.2 k1 k2).2 (fun k4 => k3 (h1 s g k4))⟩⟩
/-- an event more -/
def kLh (c k : Int) : Prop := kHm c k ∨ (c = 74 ∧ k = 1) ∨ c = 75
theorem kI.lg (q : kI w OP OD CL h t0) (hT : e_Has kTy w') (f : e_fr kLh w w') (hL : lgK w') : kI w' OP OD CL h t0 := by
  have hB := q.bel
  have hc := q.cd
  obtain ⟨q1, q2, q3, q4, q5, q6, q7, q8, q9⟩ := q
  have e : ∀ c k, ¬ kHm c k → ¬ (c = 74 ∧ k = 1) → c ≠ 75 → w' c k = w c k := fun c k g1 g2 g3 => f c k (fun g => g.elim g1 (fun g => g.elim g2 g3))
  refine ⟨hT, fun a g1 g2 => ?_, q3.fr f (fun c k g1 g2 => by unfold kLh kHm; omega) (fun k => by unfold kLh kHm; omega) (by unfold kLh kHm; omega) (by omega), q4.fr f (fun k => by unfold kLh kHm; omega), hL, fun g a g1 g2 g9 => ?_, q7.eq (fun c k g => e c k (by unfold dC at g; unfold kHm; omega) (by unfold dC at g; omega) (by unfold dC at g; omega)), fun j g1 g2 g3 => ?_, fun s g1 g2 => ?_⟩
  · exact (q2 a g1 g2).eq (kn_joints q1 ⟨g1, g2⟩).2 (fun c k g => e c k (by unfold dA at g; unfold kHm; omega) (by unfold dA at g; omega) (by unfold dA at g; omega))
  · rw [e 74 3 no_ca_0 (by omega) (by omega)] at g
    rw [e 0 11 no_ca_1 (by omega) (by omega)] at g9
    rw [e _ _ (by unfold kHm; omega) (by omega) (by omega)]
    exact q6 g a g1 g2 g9
  · rw [e _ _ (by unfold kHm; omega) (by omega) (by omega)]
    exact q8 j g1 g2 g3
  · exact (q9 s g1 g2).eq ⟨g1, g2⟩ q1 hc (fun c k g => e c k (by unfold dT dC at g; unfold kHm; omega) (by unfold dT dC at g; omega) (by unfold dT dC at g; omega))
/-- points -/
def kPh (c k : Int) : Prop := kHm c k ∨ (11 ≤ c ∧ c ≤ 14) ∨ c = 16
theorem kI.po (q : kI w OP OD CL h t0) (hT : e_Has kTy w') (f : e_fr kPh w w') (hP : pF w') : kI w' OP OD CL h t0 := by
  have hB := q.bel
  have hc := q.cd
  obtain ⟨q1, q2, q3, q4, q5, q6, q7, q8, q9⟩ := q
  have e : ∀ c k, ¬ kHm c k → ¬ (11 ≤ c ∧ c ≤ 14) → c ≠ 16 → w' c k = w c k := fun c k g1 g2 g3 => f c k (fun g => g.elim g1 (fun g => g.elim g2 g3))
  refine ⟨hT, fun a g1 g2 => ?_, q3.fr f (fun c k g1 g2 => by unfold kPh kHm; omega) (fun k => by unfold kPh kHm; omega) (by unfold kPh kHm; omega) (by omega), hP, q5.fr f (by unfold kPh kHm; omega) (fun k => by unfold kPh kHm; omega), fun g a g1 g2 g9 => ?_, q7.eq (fun c k g => e c k (by unfold dC at g; unfold kHm; omega) (by unfold dC at g; omega) (by unfold dC at g; omega)), fun j g1 g2 g3 => ?_, fun s g1 g2 => ?_⟩
  · exact (q2 a g1 g2).eq (kn_joints q1 ⟨g1, g2⟩).2 (fun c k g => e c k (by unfold dA at g; unfold kHm; omega) (by unfold dA at g; omega) (by unfold dA at g; omega))
  · rw [e 74 3 no_ca_0 (by omega) (by omega)] at g
    rw [e 0 11 no_ca_1 (by omega) (by omega)] at g9
    rw [e _ _ (by unfold kHm; omega) (by omega) (by omega)]
    exact q6 g a g1 g2 g9
  · rw [e _ _ (by unfold kHm; omega) (by omega) (by omega)]
    exact q8 j g1 g2 g3
  · exact (q9 s g1 g2).eq ⟨g1, g2⟩ q1 hc (fun c k g => e c k (by unfold dT dC at g; unfold kHm; omega) (by unfold dT dC at g; omega) (by unfold dT dC at g; omega))
/-- a goal is collected -/
theorem kI.gl (q : kI w OP OD CL h t0) (hT : e_Has kTy w') {n v : Int} (hn : n = h ∨ n < h) (hv : kn1 v) (hw : e_up w 85 n v = w') {h' : Int} (hh : h ≤ h' ∧ h' ≤ n + 1 ∨ h' = h) : kI w' OP OD CL h' t0 := by
  have hB := q.bel
  have hc := q.cd
  obtain ⟨q1, q2, q3, q4, q5, q6, q7, q8, q9⟩ := q
  have e : ∀ c k, c ≠ 85 → w' c k = w c k := fun c k g => by rw [← hw]; exact e_up_ne _ _ (Or.inl g)
  have f : e_fr (fun c _ => c = 85) w w' := fun c k g => e c k g
  refine ⟨hT, fun a g1 g2 => ?_, q3.fr f (fun c k g1 g2 => by omega) (fun k => by omega) (by omega) (by omega), q4.fr f (fun k => by omega), q5.fr f (by omega) (fun k => by omega), fun g a g1 g2 g9 => ?_, q7.eq (fun c k g => e c k (by unfold dC at g; omega)), fun j g1 g2 g3 => ?_, fun s g1 g2 => ?_⟩
  · exact (q2 a g1 g2).eq (kn_joints q1 ⟨g1, g2⟩).2 (fun c k g => e c k (by unfold dA at g; omega))
  · rw [e 74 3 (by omega)] at g
    rw [e 0 11 (by omega)] at g9
    rw [e _ _ (by omega)]
    exact q6 g a g1 g2 g9
  · rw [← hw]
    by_cases g : j = n
    · rw [g, e_up_eq]; exact hv
    · rw [e_up_ne _ _ (Or.inr g)]; exact q8 j g1 (by omega) g3
  · have := (q9 s g1 g2).eq ⟨g1, g2⟩ q1 hc (fun c k g => e c k (by unfold dT dC at g; omega))
    exact ⟨this.1, fun k1 k2 => ⟨(this.2 k1 k2).1, fun k3 => by have := (this.2 k1 k2).2 k3; omega⟩⟩
/-- more goals than before may be known -/
theorem kI.less (q : kI w OP OD CL h t0) {h' : Int} (hh : h ≤ h') (hg : gK w h') : kI w OP OD CL h' t0 := by
  obtain ⟨q1, q2, q3, q4, q5, q6, q7, q8, q9⟩ := q
  exact ⟨q1, q2, q3, q4, q5, q6, q7, hg, fun s g1 g2 => ⟨(q9 s g1 g2).1, fun k1 k2 => ⟨((q9 s g1 g2).2 k1 k2).1, fun k3 => by have := ((q9 s g1 g2).2 k1 k2).2 k3; omega⟩⟩⟩
/-- an arm, the log, and what nothing depends on -/
def kAh (a c k : Int) : Prop := kHm c k ∨ (c = 74 ∧ k = 1) ∨ c = 75 ∨ (c = 17 * a + 86 ∧ 9 ≤ k) ∨ (17 * a + 88 ≤ c ∧ c ≤ 17 * a + 92) ∨ (17 * a + 97 ≤ c ∧ c ≤ 17 * a + 102)
theorem no_ca_2 {a : Int} (ha : 0 ≤ a ∧ a ≤ 3) : ¬ kAh a 74 3 := by unfold kAh kHm; omega
theorem no_ca_3 {a : Int} (ha : 0 ≤ a ∧ a ≤ 3) : ¬ kAh a 0 11 := by unfold kAh kHm; omega
theorem kI.ar (q : kI w OP OD CL h t0) (hT : e_Has kTy w') {a : Int} (ha : 0 ≤ a ∧ a ≤ 3) (f : e_fr (kAh a) w w') (hL : lgK w') (hA : aR w' a) (hW : w 74 3 = 0 → a < w 0 11 → w' (17 * a + 86) 11 = 0) : kI w' OP OD CL h t0 := by
  have hB := q.bel
  have hc := q.cd
  obtain ⟨q1, q2, q3, q4, q5, q6, q7, q8, q9⟩ := q
  have e : ∀ c k, ¬ kAh a c k → w' c k = w c k := f
  refine ⟨hT, fun b g1 g2 => ?_, q3.fr f (fun c k g1 g2 => by unfold kAh kHm; omega) (fun k => by unfold kAh kHm; omega) (by unfold kAh kHm; omega) (by omega), q4.fr f (fun k => by unfold kAh kHm; omega), hL, fun g b g1 g2 g9 => ?_, q7.eq (fun c k g => e c k (by unfold dC at g; unfold kAh kHm; omega)), fun j g1 g2 g3 => ?_, fun s g1 g2 => ?_⟩
  · by_cases g : b = a
    · rw [g]; exact hA
    · exact (q2 b g1 g2).eq (kn_joints q1 ⟨g1, g2⟩).2 (fun c k g => e c k (by unfold dA at g; unfold kAh kHm; omega))
  · rw [e 74 3 (by first | exact no_ca_2 (by omega) | (unfold kAh kHm; omega))] at g
    rw [e 0 11 (by first | exact no_ca_3 (by omega) | (unfold kAh kHm; omega))] at g9
    by_cases g3 : b = a
    · rw [g3]; exact hW g (by omega)
    · rw [e _ _ (by unfold kAh kHm; omega)]
      exact q6 g b g1 g2 g9
  · rw [e _ _ (by unfold kAh kHm; omega)]
    exact q8 j g1 g2 g3
  · exact (q9 s g1 g2).eq ⟨g1, g2⟩ q1 hc (fun c k g => e c k (by unfold dT dC at g; unfold kAh kHm; omega))
/-- ways are stale -/
def kMv (c k : Int) : Prop := ((c = 86 ∨ c = 103 ∨ c = 120 ∨ c = 137) ∧ k = 19) ∨ (c = 74 ∧ k = 7)
theorem aR.stale {a : Int} (hn : w (17 * a + 86) 8 ≤ 6) (h : ∀ c k, dA a c k → ¬ (c = 17 * a + 86 ∧ k = 19) → w' c k = w c k) (hm : w' (17 * a + 86) 19 ≠ 0) (q : aR w a) : aR w' a := by
  obtain ⟨q1, q2, q3, q4, q5, q6⟩ := q
  refine ⟨q1.eq (fun c k g => h c k (by unfold dA; omega) (by omega)), q2.eq (fun c k g => h c k (by unfold dA; omega) (by omega)), ?_, q4.eq hn (fun c k g => h c k (by unfold dA; omega) (by omega)), q5.eq (fun c k g => h c k (by unfold dA; omega) (by omega)), ?_⟩
  · rw [h (17 * a + 86) 8 (by unfold dA; omega) (by omega), h (17 * a + 86) 11 (by unfold dA; omega) (by omega)]
    exact q3.eq hn (fun c k g1 g2 g3 g4 => h c k (by unfold dA; omega) (by omega))
  · have e : ∀ k, (k = 8 ∨ k = 11 ∨ k = 17 ∨ k = 18) → w' (17 * a + 86) k = w (17 * a + 86) k := fun k g => h _ _ (by unfold dA; omega) (by omega)
    have hp : ∀ c k, 269 ≤ c → c ≤ 271 → w' c k = w c k := fun c k g1 g2 => h c k (by unfold dA; omega) (by omega)
    unfold aW at q6 ⊢
    rw [e 8 (by omega), e 11 (by omega), e 17 (by omega), e 18 (by omega), hp 270 _ (by decide) (by decide)]
    exact ⟨fun g => (q6.1 g).eq hp, fun _ g => absurd g hm, fun g => ⟨(q6.2.2 g).1, (q6.2.2 g).2.1, (q6.2.2 g).2.2.1, (q6.2.2 g).2.2.2.eq hp (fun j g1 g2 => ⟨h _ _ (by unfold dA; omega) (by omega), h _ _ (by unfold dA; omega) (by omega)⟩) (fun j g3 g4 => h _ _ (by unfold dA; omega) (by omega))⟩⟩
theorem no_ca_4 : ¬ kMv 74 3 := by unfold kMv; omega
theorem no_ca_5 {k : Int} : ¬ kMv 0 k := by unfold kMv; omega
theorem kI.stale (q : kI w OP OD CL h t0) (hT : e_Has kTy w') (f : e_fr kMv w w') (hm : ∀ a, 0 ≤ a → a ≤ 3 → w' (17 * a + 86) 19 ≠ 0) : kI w' OP OD CL h t0 := by
  have hB := q.bel
  have hc := q.cd
  obtain ⟨q1, q2, q3, q4, q5, q6, q7, q8, q9⟩ := q
  have e : ∀ c k, ¬ kMv c k → w' c k = w c k := f
  refine ⟨hT, fun a g1 g2 => ?_, q3.fr f (fun c k g1 g2 => by unfold kMv; omega) (fun k => by unfold kMv; omega) (by unfold kMv; omega) (by omega), q4.fr f (fun k => by unfold kMv; omega), q5.fr f (by unfold kMv; omega) (fun k => by unfold kMv; omega), fun g a g1 g2 g9 => ?_, q7.eq (fun c k g => e c k (by unfold dC at g; unfold kMv; omega)), fun j g1 g2 g3 => ?_, fun t g1 g2 => ?_⟩
  · exact (q2 a g1 g2).stale (kn_joints q1 ⟨g1, g2⟩).2 (fun c k g g3 => e c k (by unfold dA at g; unfold kMv; omega)) (hm a g1 g2)
  · rw [e 74 3 no_ca_4] at g
    rw [e 0 11 no_ca_5] at g9
    rw [e _ _ (by unfold kMv; omega)]
    exact q6 g a g1 g2 g9
  · rw [e _ _ (by unfold kMv; omega)]
    exact q8 j g1 g2 g3
  · exact (q9 t g1 g2).eq ⟨g1, g2⟩ q1 hc (fun c k g => e c k (by unfold dT dC at g; unfold kMv; omega))
/-- a move is broken off: the arm brakes, or stands -/
theorem aR.brk {a : Int} (hn : w (17 * a + 86) 8 ≤ 6) (h : ∀ c k, dA a c k → ¬ (c = 17 * a + 86 ∧ (k = 11 ∨ k = 18)) → w' c k = w c k) (hs : w (17 * a + 86) 11 = 1) (h1 : w' (17 * a + 86) 11 = 2) (h2 : w' (17 * a + 86) 18 = -1) (q : aR w a) : aR w' a := by
  obtain ⟨q1, q2, q3, q4, q5, q6⟩ := q
  have e8 : w' (17 * a + 86) 8 = w (17 * a + 86) 8 := h _ _ (by unfold dA; omega) (by omega)
  refine ⟨q1.eq (fun c k g => h c k (by unfold dA; omega) (by omega)), q2.eq (fun c k g => h c k (by unfold dA; omega) (by omega)), ?_, ?_, q5.eq (fun c k g => h c k (by unfold dA; omega) (by omega)), ?_⟩
  · rw [e8, h1]
    intro i g1 g2
    have q := q3 i g1 g2
    rw [hs] at q
    refine jq.eq (fun k g3 g4 => h _ _ (by unfold dA; omega) (by omega)) ⟨q.1, ?_⟩
    exact joOk.brake q.1.2.2.1 q.2
  · intro _
    have q := q4 (by omega)
    rw [h (17 * a + 86) 12 (by unfold dA; omega) (by omega), e8]
    exact ⟨q.1, fun j g1 g2 => by rw [h _ _ (by unfold dA; omega) (by omega)]; exact q.2 j g1 g2⟩
  · have hp : ∀ c k, 269 ≤ c → c ≤ 271 → w' c k = w c k := fun c k g1 g2 => h c k (by unfold dA; omega) (by omega)
    unfold aW at q6 ⊢
    rw [e8, h2, h (17 * a + 86) 17 (by unfold dA; omega) (by omega), h (17 * a + 86) 19 (by unfold dA; omega) (by omega)]
    exact ⟨fun g => (q6.1 g).eq hp, fun g1 g2 => (q6.2.1 g1 g2).eq hp (fun j g1 g2 => ⟨h _ _ (by unfold dA; omega) (by omega), h _ _ (by unfold dA; omega) (by omega)⟩) (fun j g3 g4 => h _ _ (by unfold dA; omega) (by omega)), fun g => by omega⟩
/-- the arm stands -/
theorem aR.stand {a : Int} (ha : 0 ≤ a ∧ a ≤ 3) (hn : w (17 * a + 86) 8 ≤ 6) (h : ∀ c k, dA a c k → ¬ (c = 17 * a + 86 ∧ (k = 11 ∨ k = 18)) → ¬ (17 * a + 97 ≤ c ∧ c ≤ 17 * a + 102 ∧ k = 8) → w' c k = w c k) (h1 : w' (17 * a + 86) 11 = 0) (h2 : w' (17 * a + 86) 18 = -1) (h3 : ∀ i, 0 ≤ i → i < 6 → w' (17 * a + i + 97) 8 = 0) (q : aR w a) : aR w' a := by
  obtain ⟨q1, q2, q3, q4, q5, q6⟩ := q
  have e8 : w' (17 * a + 86) 8 = w (17 * a + 86) 8 := h _ _ (by unfold dA; omega) (by omega) (by omega)
  refine ⟨q1.eq (fun c k g => h c k (by unfold dA; omega) (by omega) (by omega)), q2.eq (fun c k g => h c k (by unfold dA; omega) (by omega) (by omega)), ?_, fun g => absurd h1 g, q5.eq (fun c k g => h c k (by unfold dA; omega) (by omega) (by omega)), ?_⟩
  · rw [e8, h1]
    intro i g1 g2
    have q := q3 i g1 g2
    have ek : ∀ k, 1 ≤ k → k ≤ 10 → k ≠ 8 → w' (17 * a + i + 97) k = w (17 * a + i + 97) k := fun k g3 g4 g5 => h _ _ (by unfold dA; omega) (by omega) (by omega)
    refine ⟨?_, ?_⟩
    · have := q.1
      unfold jC at this ⊢
      rw [ek 1 (by omega) (by omega) (by omega), ek 2 (by omega) (by omega) (by omega), ek 5 (by omega) (by omega) (by omega), ek 6 (by omega) (by omega) (by omega)]
      exact this
    · have hm := q.2.1
      unfold jM joOk
      rw [ek 1 (by omega) (by omega) (by omega), ek 2 (by omega) (by omega) (by omega), ek 7 (by omega) (by omega) (by omega), h3 i g1 (by omega)]
      exact ⟨hm, fun _ => rfl, fun g => absurd g (by decide), fun g => absurd g (by decide)⟩
  · have hp : ∀ c k, 269 ≤ c → c ≤ 271 → w' c k = w c k := fun c k g1 g2 => h c k (by unfold dA; omega) (by omega) (by omega)
    unfold aW at q6 ⊢
    rw [e8, h2, h (17 * a + 86) 17 (by unfold dA; omega) (by omega) (by omega), h (17 * a + 86) 19 (by unfold dA; omega) (by omega) (by omega)]
    exact ⟨fun g => (q6.1 g).eq hp, fun g1 g2 => (q6.2.1 g1 g2).eq hp (fun j g1 g2 => ⟨h _ _ (by unfold dA; omega) (by omega) (by omega), h _ _ (by unfold dA; omega) (by omega) (by omega)⟩) (fun j g3 g4 => h _ _ (by unfold dA; omega) (by omega) (by omega)), fun g => by omega⟩
end Ka
end
end
-- part cb
section
noncomputable section
/-! the class: what the doer does, greater steps -/
def kLk (c k : Int) : Prop := c = 83
def kFk (c k : Int) : Prop := (c = 8 ∧ (k = 8 ∨ k = 10 ∨ k = 11)) ∨ c = 84 ∨ c = 83
def kBk (a : Int) (c k : Int) : Prop := (c = 74 ∧ k = 1) ∨ c = 75 ∨ (154 ≤ c ∧ c ≤ 249 ∧ (c - 154) % 6 = 0 ∧ k = 10) ∨ (c = 17 * a + 86 ∧ (k = 13 ∨ k = 18))
def kBa (a : Int) (c k : Int) : Prop := (c = 74 ∧ k = 1) ∨ c = 75 ∨ (154 ≤ c ∧ c ≤ 249 ∧ (c - 154) % 6 = 0 ∧ k = 10) ∨ (c = 17 * a + 86 ∧ (k = 11 ∨ k = 13 ∨ k = 18))
def kSP (c k : Int) : Prop := (c = 8 ∧ (k = 8 ∨ k = 10 ∨ k = 11)) ∨ c = 84 ∨ (11 ≤ c ∧ c ≤ 14) ∨ c = 16
section Kb
variable {w w' : eW} {OP OD CL : Int → Int → Int} {h t0 : Int}
theorem kI.arm (q : kI w OP OD CL h t0) {a : Int} (g1 : 0 ≤ a) (g2 : a ≤ 3) : aR w a := q.2.1 a g1 g2
theorem kI.fk (q : kI w OP OD CL h t0) : fK w := q.2.2.1
theorem kI.pf (q : kI w OP OD CL h t0) : pF w := q.2.2.2.1
theorem kI.lgk (q : kI w OP OD CL h t0) : lgK w := q.2.2.2.2.1
theorem kI.pw (q : kI w OP OD CL h t0) : w 74 3 = 0 → ∀ a, 0 ≤ a → a ≤ 3 → a < w 0 11 → w (17 * a + 86) 11 = 0 := q.2.2.2.2.2.1
theorem kI.co (q : kI w OP OD CL h t0) {a : Int} (g1 : 0 ≤ a) (g2 : a ≤ 3) : kCd w (w (17 * a + 86) 7) (OP a) (OD a) ∧ cD (OP a) (OD a) (CL a) ∧ kCe w (w (17 * a + 86) 7) (OP a) (OD a) := q.2.2.2.2.2.2.1 a g1 g2
theorem kI.gk (q : kI w OP OD CL h t0) : gK w h := q.2.2.2.2.2.2.2.1
theorem kI.ts (q : kI w OP OD CL h t0) {t : Int} (g1 : 0 ≤ t) (g2 : t ≤ 15) : tQ w OP CL h t0 t := q.2.2.2.2.2.2.2.2 t g1 g2
theorem hm_kDs {c k : Int} (g : kDs c k) : kHm c k := by unfold kDs at g; unfold kHm; rcases g with g | g; exact Or.inl ⟨g.1, by omega⟩; exact Or.inr (Or.inl g)
theorem hm_kLk {c k : Int} (g : kLk c k) : kHm c k := by unfold kLk at g; unfold kHm; simp [g]
theorem hm_kFk {c k : Int} (g : kFk c k) : kHm c k := by
  unfold kFk at g
  rcases g with g | g | g
  · exact hm_kDs (Or.inl g)
  · exact hm_kDs (Or.inr g)
  · exact hm_kLk g
theorem ah_kBa {a c k : Int} (g : kBa a c k) : kAh a c k := by
  unfold kBa at g
  unfold kAh
  rcases g with g | g | g | g
  · exact Or.inr (Or.inl g)
  · exact Or.inr (Or.inr (Or.inl g))
  · refine Or.inl ?_
    unfold kHm
    simp only [g.2.2.1, g.2.2.2, g.1, g.2.1]
    simp
  · exact Or.inr (Or.inr (Or.inr (Or.inl ⟨g.1, by omega⟩)))
theorem ph_kPo {c k : Int} (g : kPo c k) : kPh c k := Or.inr g
theorem e_Ok.orne {fd : Nat} {lay : List eY} {code : Nat → Nat → eE} {I : Nat → xM} {d M nx a b p : Nat} {l : eL} {r : List eV} {w : eW} {Q : List eV → eW → Prop} {x y : Int} (hc : code M p = (0, ei_bin (eB (fun x y => x ||| y)) nx, a, b)) (hy : y = 1 ∨ y = 2) (h : ∀ z, (-2147483648 ≤ z ∧ z ≤ 2147483647) → z ≠ 0 → e_Ok fd lay code I d M (nx, l, (0, z) :: r, w) Q) : e_Ok fd lay code I d M (p, l, (0, y) :: (0, x) :: r, w) Q := by
  refine e_Ok.step (t' := (nx, l, (0, (Int32.ofInt x ||| Int32.ofInt y).toInt) :: r, w)) hc rfl (h _ ⟨Int32.le_toInt _, Int32.toInt_le _⟩ (fun e => ?_))
  have e2 : Int32.ofInt x ||| Int32.ofInt y = 0 := Int32.toInt_inj.mp e
  have e3 : (Int32.ofInt y).toBitVec = 0 := by
    have e4 : (Int32.ofInt x).toBitVec ||| (Int32.ofInt y).toBitVec = 0 := congrArg Int32.toBitVec e2
    exact (BitVec.or_eq_zero_iff.mp e4).2
  rcases hy with rfl | rfl
  · exact absurd e3 (by decide)
  · exact absurd e3 (by decide)
end Kb
theorem c_51 {d : Nat} {w : eW} (hT : e_Has kTy w) {l : Int} (g_l : 0 ≤ l ∧ l ≤ 7) {OP OD CL : Int → Int → Int} {h t0 : Int} (q : kI w OP OD CL h t0) : e_Ok 20 elay kcode eI d 51 (0, [(0, (1, 8)), (1, (0, l))], [], w) (fun r w' => r = [] ∧ e_fr kLk w w' ∧ e_Has kTy w') := by
  refine e_Ok.run (t' := (4, [(3, (0, 0)), (2, (0, (-1))), (0, (1, 8)), (1, (0, l))], [], w)) 4 rfl ?_
  have hL1 : ∀ (nn : Nat) (y2 : Int) (y3 : Int), (-1 ≤ y2 ∧ y2 ≤ 15) ∧ (0 ≤ y3 ∧ y3 ≤ 16) ∧ (0 ≤ y2 → w (6 * y2 + 154) 1 = 5) → 16 - y3 < nn → e_Ok 20 elay kcode eI d 51 (4, [(0, (1, 8)), (1, (0, l)), (2, (0, y2)), (3, (0, y3))], [], w) (fun r w' => r = [] ∧ e_fr kLk w w' ∧ e_Has kTy w') := by
    intro nn
    induction nn with
    | zero => intro y2 y3 hj hm; obtain ⟨j3, j4, j5⟩ := hj; exfalso; omega
    | succ nn ih2 =>
      intro y2 y3 hj hm
      obtain ⟨j3, j4, j5⟩ := hj
      refine e_Ok.run (t' := (7, [(0, (1, 8)), (1, (0, l)), (2, (0, y2)), (3, (0, y3))], [(0, 16), (0, y3)], w)) 2 rfl ?_
      refine e_Ok.if2 rfl (fun h6 => ?_) (fun h6 => ?_)
      · replace h6 : (y3 : Int) ≥ 16 := h6
        refine e_Ok.ps1 (x := (1, 8)) (q := 73) 1 rfl ?_
        refine e_Ok.getr (z := 83) rfl (el_o rfl) rfl rfl (e_Has.eq hT (kt_o rfl)) ⟨by decide, by decide⟩ ?_
        refine e_Ok.ps2 (x := (0, y2)) (y := (0, l)) (q := 78) 2 rfl ?_
        refine e_Ok.ast rfl (el_o rfl) rfl rfl (by omega) ?_
        generalize hw7 : e_up w 83 l y2 = w7
        have hT9 : e_Has kTy w7 := e_Has.upr hT hw7 (kt_o rfl) (by omega)
        refine e_Ok.rets rfl rfl ?_
        exact ⟨rfl, (show e_fr kLk w w7 from e_fr.up (e_fr.refl w) hw7 (by first | exact rfl | (unfold kLk; omega))), hT9⟩
      · replace h6 : (y3 : Int) < 16 := Int.not_le.mp (show ¬ ((y3 : Int) ≥ 16) from h6)
        refine e_Ok.ps1 (x := (1, 8)) (q := 11) 1 rfl ?_
        refine e_Ok.getr (z := 82) rfl (el_o rfl) rfl rfl (e_Has.eq hT (kt_o rfl)) ⟨by decide, by decide⟩ ?_
        refine e_Ok.ps1 (x := (0, y3)) (q := 15) 1 rfl ?_
        refine e_Ok.aald (z := 6 * y3 + 154) rfl (el_o rfl) rfl (by omega) (Eq.trans (e_Has.eq hT (k82 (by omega))) (by omega)) (by omega) ?_
        have h10 := (e_Has.get hT (c := 6 * y3 + 154) (k := 1) (lo := 0) (hi := 7) (kT_1 (t := y3) (by omega) (by omega)) (by decide))
        refine e_Ok.getf (z := w (6 * y3 + 154) 1) rfl (lT0 (t := y3) (by omega) (by omega)) rfl rfl rfl (e_bq h10 (by decide) (by decide)) ?_
        refine e_Ok.ps1 (x := (0, 5)) (q := 20) 1 rfl ?_
        refine e_Ok.if2 rfl (fun h11 => ?_) (fun h11 => ?_)
        · replace h11 : (w (6 * y3 + 154) 1 : Int) ≠ 5 := h11
          refine e_Ok.inc (z := y3 + 1) rfl rfl (by first | with_reducible rfl | omega) (by omega) ?_
          show e_Ok 20 elay kcode eI d 51 (69, [(3, (0, y3 + 1)), (0, (1, 8)), (1, (0, l)), (2, (0, y2))], [], w) _
          refine e_Ok.ps0 (q := 4) 1 rfl ?_
          refine e_Ok.sub kAlk (e_sub_of rfl ?_) (ih2 y2 (y3 + 1) ⟨by omega, by omega, by omega⟩ (by omega))
          exact ⟨rfl, rfl, rfl, rfl, trivial⟩
        · replace h11 : (w (6 * y3 + 154) 1 : Int) = 5 := Classical.not_not.mp (show ¬ ((w (6 * y3 + 154) 1 : Int) ≠ 5) from h11)
          have hq := (q.ts (t := y3) (by omega) (by omega)).1.2.2 (by omega); unfold kn1 at hq
          refine e_Ok.ps1 (x := (1, 8)) (q := 24) 1 rfl ?_
          refine e_Ok.getr (z := 82) rfl (el_o rfl) rfl rfl (e_Has.eq hT (kt_o rfl)) ⟨by decide, by decide⟩ ?_
          refine e_Ok.ps1 (x := (0, y3)) (q := 28) 1 rfl ?_
          refine e_Ok.aald (z := 6 * y3 + 154) rfl (el_o rfl) rfl (by omega) (Eq.trans (e_Has.eq hT (k82 (by omega))) (by omega)) (by omega) ?_
          refine e_Ok.getf (z := w (6 * y3 + 154) 8) rfl (lT0 (t := y3) (by omega) (by omega)) rfl rfl rfl (by omega) ?_
          refine e_Ok.ps1 (x := (0, l)) (q := 33) 1 rfl ?_
          refine e_Ok.if2 rfl (fun h12 => ?_) (fun h12 => ?_)
          · replace h12 : (w (6 * y3 + 154) 8 : Int) = l := h12
            refine e_Ok.ps1 (x := (0, y2)) (q := 40) 1 rfl ?_
            refine e_Ok.if1 rfl (fun h13 => ?_) (fun h13 => ?_)
            · replace h13 : (y2 : Int) < 0 := h13
              refine e_Ok.run (t' := (66, [(2, (0, y3)), (0, (1, 8)), (1, (0, l)), (3, (0, y3))], [], w)) 2 rfl ?_
              refine e_Ok.inc (z := y3 + 1) rfl rfl (by first | with_reducible rfl | omega) (by omega) ?_
              show e_Ok 20 elay kcode eI d 51 (69, [(3, (0, y3 + 1)), (2, (0, y3)), (0, (1, 8)), (1, (0, l))], [], w) _
              refine e_Ok.ps0 (q := 4) 1 rfl ?_
              refine e_Ok.sub kAlk (e_sub_of rfl ?_) (ih2 y3 (y3 + 1) ⟨by omega, by omega, by omega⟩ (by omega))
              exact ⟨rfl, rfl, rfl, rfl, trivial⟩
            · replace h13 : (y2 : Int) ≥ 0 := Int.not_lt.mp (show ¬ ((y2 : Int) < 0) from h13)
              have hq2 := (q.ts (t := y2) (by omega) (by omega)).1.2.2 (by omega); unfold kn1 at hq2
              refine e_Ok.ps1 (x := (1, 8)) (q := 44) 1 rfl ?_
              refine e_Ok.getr (z := 82) rfl (el_o rfl) rfl rfl (e_Has.eq hT (kt_o rfl)) ⟨by decide, by decide⟩ ?_
              refine e_Ok.ps1 (x := (0, y3)) (q := 48) 1 rfl ?_
              refine e_Ok.aald (z := 6 * y3 + 154) rfl (el_o rfl) rfl (by omega) (Eq.trans (e_Has.eq hT (k82 (by omega))) (by omega)) (by omega) ?_
              refine e_Ok.getf (z := w (6 * y3 + 154) 9) rfl (lT0 (t := y3) (by omega) (by omega)) rfl rfl rfl (by omega) ?_
              refine e_Ok.ps1 (x := (1, 8)) (q := 53) 1 rfl ?_
              refine e_Ok.getr (z := 82) rfl (el_o rfl) rfl rfl (e_Has.eq hT (kt_o rfl)) ⟨by decide, by decide⟩ ?_
              refine e_Ok.ps1 (x := (0, y2)) (q := 57) 1 rfl ?_
              refine e_Ok.aald (z := 6 * y2 + 154) rfl (el_o rfl) rfl (by omega) (Eq.trans (e_Has.eq hT (k82 (by omega))) (by omega)) (by omega) ?_
              refine e_Ok.getf (z := w (6 * y2 + 154) 9) rfl (lT0 (t := y2) (by omega) (by omega)) rfl rfl rfl (by omega) ?_
              refine e_Ok.if2 rfl (fun h14 => ?_) (fun h14 => ?_)
              · replace h14 : (w (6 * y3 + 154) 9 : Int) ≥ w (6 * y2 + 154) 9 := h14
                refine e_Ok.inc (z := y3 + 1) rfl rfl (by first | with_reducible rfl | omega) (by omega) ?_
                show e_Ok 20 elay kcode eI d 51 (69, [(3, (0, y3 + 1)), (0, (1, 8)), (1, (0, l)), (2, (0, y2))], [], w) _
                refine e_Ok.ps0 (q := 4) 1 rfl ?_
                refine e_Ok.sub kAlk (e_sub_of rfl ?_) (ih2 y2 (y3 + 1) ⟨by omega, by omega, by omega⟩ (by omega))
                exact ⟨rfl, rfl, rfl, rfl, trivial⟩
              · replace h14 : (w (6 * y3 + 154) 9 : Int) < w (6 * y2 + 154) 9 := Int.not_le.mp (show ¬ ((w (6 * y3 + 154) 9 : Int) ≥ w (6 * y2 + 154) 9) from h14)
                refine e_Ok.run (t' := (66, [(2, (0, y3)), (0, (1, 8)), (1, (0, l)), (3, (0, y3))], [], w)) 2 rfl ?_
                refine e_Ok.inc (z := y3 + 1) rfl rfl (by first | with_reducible rfl | omega) (by omega) ?_
                show e_Ok 20 elay kcode eI d 51 (69, [(3, (0, y3 + 1)), (2, (0, y3)), (0, (1, 8)), (1, (0, l))], [], w) _
                refine e_Ok.ps0 (q := 4) 1 rfl ?_
                refine e_Ok.sub kAlk (e_sub_of rfl ?_) (ih2 y3 (y3 + 1) ⟨by omega, by omega, by omega⟩ (by omega))
                exact ⟨rfl, rfl, rfl, rfl, trivial⟩
          · replace h12 : (w (6 * y3 + 154) 8 : Int) ≠ l := (show ¬ ((w (6 * y3 + 154) 8 : Int) = l) from h12)
            refine e_Ok.ps0 (q := 66) 1 rfl ?_
            refine e_Ok.inc (z := y3 + 1) rfl rfl (by first | with_reducible rfl | omega) (by omega) ?_
            show e_Ok 20 elay kcode eI d 51 (69, [(3, (0, y3 + 1)), (0, (1, 8)), (1, (0, l)), (2, (0, y2))], [], w) _
            refine e_Ok.ps0 (q := 4) 1 rfl ?_
            refine e_Ok.sub kAlk (e_sub_of rfl ?_) (ih2 y2 (y3 + 1) ⟨by omega, by omega, by omega⟩ (by omega))
            exact ⟨rfl, rfl, rfl, rfl, trivial⟩
  refine e_Ok.sub kAlk (e_sub_of rfl ?_) (hL1 (16 + 1 : Int).toNat (-1) 0 ⟨by omega, by omega, by omega⟩ (by omega))
  exact ⟨rfl, rfl, rfl, rfl, trivial⟩
theorem no_cb_0 {k : Int} : ¬ kLk 8 k := by unfold kLk; omega
theorem no_cb_1 {t : Int} (ht : 0 ≤ t ∧ t ≤ 15) : ¬ kLk (6 * t + 154) 0 := by unfold kLk; omega
theorem c_50 {d : Nat} (hd : 21 ≤ d) {w : eW} (hT : e_Has kTy w) {t : Int} (g_t : 0 ≤ t ∧ t ≤ 15) {OP OD CL : Int → Int → Int} {h t0 : Int} (q : kI w OP OD CL h t0) : e_Ok 20 elay kcode eI d 50 (0, [(0, (1, 8)), (1, (1, 6 * t + 154))], [], w) (fun r w' => r = [] ∧ e_fr kLk w w' ∧ e_Has kTy w') := by
  obtain ⟨d, rfl⟩ : ∃ e, d = e + 1 := ⟨d - 1, by omega⟩
  refine e_Ok.run (t' := (2, [(2, (0, 0)), (0, (1, 8)), (1, (1, 6 * t + 154))], [], w)) 2 rfl ?_
  have hL1 : ∀ (nn : Nat) (y2 : Int) (v1 : eW), e_fr kLk w v1 ∧ e_Has kTy v1 ∧ kI v1 OP OD CL h t0 ∧ (0 ≤ y2 ∧ y2 ≤ 8) → 8 - y2 < nn → e_Ok 20 elay kcode eI (d + 1) 50 (2, [(0, (1, 8)), (1, (1, 6 * t + 154)), (2, (0, y2))], [], v1) (fun r w' => r = [] ∧ e_fr kLk w w' ∧ e_Has kTy w') := by
    intro nn
    induction nn with
    | zero => intro y2 v1 hj hm; obtain ⟨j3, j4, j5, j6⟩ := hj; exfalso; omega
    | succ nn ih2 =>
      intro y2 v1 hj hm
      obtain ⟨j3, j4, j5, j6⟩ := hj
      refine e_Ok.run (t' := (5, [(0, (1, 8)), (1, (1, 6 * t + 154)), (2, (0, y2))], [(0, 8), (0, y2)], v1)) 2 rfl ?_
      refine e_Ok.if2 rfl (fun h7 => ?_) (fun h7 => ?_)
      · replace h7 : (y2 : Int) ≥ 8 := h7
        refine e_Ok.rets rfl rfl ?_
        exact ⟨rfl, j3, j4⟩
      · replace h7 : (y2 : Int) < 8 := Int.not_le.mp (show ¬ ((y2 : Int) ≥ 8) from h7)
        refine e_Ok.ps1 (x := (1, 8)) (q := 9) 1 rfl ?_
        refine e_Ok.getr (z := 83) rfl (el_o rfl) rfl rfl ((j3 8 5 no_cb_0).trans (e_Has.eq hT (kt_o rfl))) ⟨by decide, by decide⟩ ?_
        refine e_Ok.ps1 (x := (0, y2)) (q := 13) 1 rfl ?_
        have h8 := (e_Has.get j4 (c := 83) (k := y2) (lo := (-1)) (hi := 15) rfl (by decide))
        refine e_Ok.ald (z := v1 83 y2) rfl (el_o rfl) rfl (by omega) rfl (e_bq h8 (by decide) (by decide)) ?_
        refine e_Ok.ps1 (x := (1, 6 * t + 154)) (q := 15) 1 rfl ?_
        refine e_Ok.getf (z := t) rfl (lT0 (t := t) rfl g_t) rfl rfl ((j3 (6 * t + 154) 0 (by first | exact no_cb_1 (by omega) | (unfold kLk; omega))).trans (Eq.trans (e_Has.eq hT (kT_0 (t := t) rfl g_t)) (by omega))) (by omega) ?_
        refine e_Ok.if2 rfl (fun h9 => ?_) (fun h9 => ?_)
        · replace h9 : (v1 83 y2 : Int) ≠ t := h9
          refine e_Ok.inc (z := y2 + 1) rfl rfl (by first | with_reducible rfl | omega) (by omega) ?_
          show e_Ok 20 elay kcode eI (d + 1) 50 (29, [(2, (0, y2 + 1)), (0, (1, 8)), (1, (1, 6 * t + 154))], [], v1) _
          refine e_Ok.ps0 (q := 2) 1 rfl ?_
          refine e_Ok.sub kAlk (e_sub_of rfl ?_) (ih2 (y2 + 1) v1 ⟨j3, j4, j5, by omega⟩ (by omega))
          exact ⟨rfl, rfl, rfl, trivial⟩
        · replace h9 : (v1 83 y2 : Int) = t := Classical.not_not.mp (show ¬ ((v1 83 y2 : Int) ≠ t) from h9)
          refine e_Ok.ps2 (x := (0, y2)) (y := (1, 8)) (q := 23) 2 rfl ?_
          refine e_Ok.callV rfl (e_dq hd rfl) rfl rfl rfl rfl (c_51 j4 (by omega) j5) (fun r10 w11 h12 => ?_)
          obtain ⟨rfl, q13f, q13T⟩ := h12
          have Q15 := kI.hm j5 q13T (e_fr.mono q13f (fun c k g => hm_kLk g))
          refine e_Ok.nrm (q := 26) (st' := []) rfl rfl ?_
          refine e_Ok.inc (z := y2 + 1) rfl rfl (by first | with_reducible rfl | omega) (by omega) ?_
          show e_Ok 20 elay kcode eI (d + 1) 50 (29, [(2, (0, y2 + 1)), (0, (1, 8)), (1, (1, 6 * t + 154))], [], w11) _
          refine e_Ok.ps0 (q := 2) 1 rfl ?_
          refine e_Ok.sub kAlk (e_sub_of rfl ?_) (ih2 (y2 + 1) w11 ⟨(show e_fr kLk w w11 from e_fr.trans j3 (e_fr.mono q13f (fun c k q => by exact q))), q13T, Q15, by omega⟩ (by omega))
          exact ⟨rfl, rfl, rfl, trivial⟩
  refine e_Ok.sub kAlk (e_sub_of rfl ?_) (hL1 (8 + 1 : Int).toNat 0 w ⟨(e_fr.refl w), hT, q, by omega⟩ (by omega))
  exact ⟨rfl, rfl, rfl, trivial⟩
theorem su_cb_10 {c k : Int} (q : kDs c k) : kFk c k := by
  unfold kDs at q
  rcases q with ⟨q, (q | q | q)⟩ | q
  · exact Or.inl ⟨(by omega), Or.inl (by omega)⟩
  · exact Or.inl ⟨(by omega), Or.inr (Or.inl (by omega))⟩
  · exact Or.inl ⟨(by omega), Or.inr (Or.inr (by omega))⟩
  · exact Or.inr (Or.inl (by omega))
theorem su_cb_11 {c k : Int} (q : kLk c k) : kFk c k := by
  unfold kLk at q
  rcases q with q
  · exact Or.inr (Or.inr (by omega))
theorem c_67 {d : Nat} (hd : 22 ≤ d) {w : eW} (hT : e_Has kTy w) {t l : Int} (g_t : 0 ≤ t ∧ t ≤ 15) (g_l : (-2147483648) ≤ l ∧ l ≤ 2147483647) {OP OD CL : Int → Int → Int} {h t0 : Int} (q : kI w OP OD CL h t0) (hk : sK w) : e_Ok 20 elay kcode eI d 67 (0, [(0, (1, 8)), (1, (1, 6 * t + 154)), (2, (0, l))], [], w) (fun r w' => r = [] ∧ e_fr kFk w w' ∧ e_Has kTy w' ∧ sK w') := by
  obtain ⟨d, rfl⟩ : ∃ e, d = e + 1 := ⟨d - 1, by omega⟩
  refine e_Ok.ps3 (x := (0, 7)) (y := (0, 0)) (z := (0, l)) (q := 4) 3 rfl ?_
  refine e_Ok.callS rfl (e_dq hd rfl) rfl rfl (c_242 (by omega) (by omega) (by omega)) (fun r1 w2 h3 => ?_)
  obtain ⟨z4, rfl, rfl, q5⟩ := h3
  obtain ⟨rfl, q5⟩ | ⟨rfl, q5⟩ := q5
  · refine e_Ok.nrm (q := 7) (st' := [(0, 1)]) rfl rfl ?_
    refine e_Ok.if1 rfl (fun h6 => ?_) (fun h6 => ?_)
    · replace h6 : (1 : Int) = 0 := h6
      exfalso; omega
    · replace h6 : (1 : Int) ≠ 0 := (show ¬ ((1 : Int) = 0) from h6)
      refine e_Ok.ps1 (x := (1, 8)) (q := 11) 1 rfl ?_
      refine e_Ok.getr (z := 83) rfl (el_o rfl) rfl rfl (e_Has.eq hT (kt_o rfl)) ⟨by decide, by decide⟩ ?_
      refine e_Ok.ps1 (x := (0, l)) (q := 15) 1 rfl ?_
      have h7 := (e_Has.get hT (c := 83) (k := l) (lo := (-1)) (hi := 15) (kt_o rfl) (by decide))
      refine e_Ok.ald (z := w 83 l) rfl (el_o rfl) rfl (by omega) rfl (e_bq h7 (by decide) (by decide)) ?_
      refine e_Ok.ps1 (x := (1, 6 * t + 154)) (q := 17) 1 rfl ?_
      refine e_Ok.getf (z := t) rfl (lT0 (t := t) rfl g_t) rfl rfl (Eq.trans (e_Has.eq hT (kT_0 (t := t) rfl g_t)) (by omega)) (by omega) ?_
      refine e_Ok.if2 rfl (fun h8 => ?_) (fun h8 => ?_)
      · replace h8 : (w 83 l : Int) ≠ t := h8
        refine e_Ok.ps2 (x := (0, 9)) (y := (1, 8)) (q := 34) 2 rfl ?_
        refine e_Ok.callV rfl (e_dq hd rfl) rfl rfl rfl rfl (c_46 hT (by omega) hk) (fun r9 w10 h11 => ?_)
        obtain ⟨rfl, q12f, q12T, q12x⟩ := h11
        refine e_Ok.nrm (q := 37) (st' := []) rfl rfl ?_
        refine e_Ok.rets rfl rfl ?_
        exact ⟨rfl, (show e_fr kFk w w10 from e_fr.trans (e_fr.refl w) (e_fr.mono q12f (fun c k q => su_cb_10 q))), q12T, q12x⟩
      · replace h8 : (w 83 l : Int) = t := Classical.not_not.mp (show ¬ ((w 83 l : Int) ≠ t) from h8)
        refine e_Ok.ps2 (x := (0, l)) (y := (1, 8)) (q := 25) 2 rfl ?_
        refine e_Ok.callV rfl (e_dq hd rfl) rfl rfl rfl rfl (c_51 hT (by omega) q) (fun r14 w15 h16 => ?_)
        obtain ⟨rfl, q17f, q17T⟩ := h16
        refine e_Ok.nrm (q := 28) (st' := []) rfl rfl ?_
        refine e_Ok.ps0 (q := 37) 1 rfl ?_
        refine e_Ok.rets rfl rfl ?_
        exact ⟨rfl, (show e_fr kFk w w15 from e_fr.trans (e_fr.refl w) (e_fr.mono q17f (fun c k q => su_cb_11 q))), q17T, (sK.fr q17f (by unfold kLk; omega) (fun k => by unfold kLk; omega) hk)⟩
  · refine e_Ok.nrm (q := 7) (st' := [(0, 0)]) rfl rfl ?_
    refine e_Ok.if1 rfl (fun h19 => ?_) (fun h19 => ?_)
    · replace h19 : (0 : Int) = 0 := h19
      refine e_Ok.ps2 (x := (0, 9)) (y := (1, 8)) (q := 34) 2 rfl ?_
      refine e_Ok.callV rfl (e_dq hd rfl) rfl rfl rfl rfl (c_46 hT (by omega) hk) (fun r20 w21 h22 => ?_)
      obtain ⟨rfl, q23f, q23T, q23x⟩ := h22
      refine e_Ok.nrm (q := 37) (st' := []) rfl rfl ?_
      refine e_Ok.rets rfl rfl ?_
      exact ⟨rfl, (show e_fr kFk w w21 from e_fr.trans (e_fr.refl w) (e_fr.mono q23f (fun c k q => su_cb_10 q))), q23T, q23x⟩
    · replace h19 : (0 : Int) ≠ 0 := (show ¬ ((0 : Int) = 0) from h19)
      exfalso; omega
theorem no_cb_2 {k : Int} : ¬ kMv 8 k := by unfold kMv; omega
theorem no_cb_3 {k : Int} : ¬ kMv 9 k := by unfold kMv; omega
theorem c_39 {d : Nat} {w : eW} (hT : e_Has kTy w) {a : Int} (g_a : (-1) ≤ a ∧ a ≤ 3) : e_Ok 20 elay kcode eI d 39 (0, [(0, (1, 8)), (1, (0, a))], [], w) (fun r w' => r = [] ∧ e_fr kMv w w' ∧ e_Has kTy w' ∧ ∀ i, 0 ≤ i → i ≤ 3 → w' (17 * i + 86) 19 ≠ 0) := by
  refine e_Ok.run (t' := (2, [(2, (0, 0)), (0, (1, 8)), (1, (0, a))], [], w)) 2 rfl ?_
  have hL1 : ∀ (nn : Nat) (y2 : Int) (v1 : eW), e_fr kMv w v1 ∧ e_Has kTy v1 ∧ (∀ i, 0 ≤ i → i < y2 → v1 (17 * i + 86) 19 ≠ 0) ∧ (0 ≤ y2 ∧ y2 ≤ 4) → 4 - y2 < nn → e_Ok 20 elay kcode eI d 39 (2, [(0, (1, 8)), (1, (0, a)), (2, (0, y2))], [], v1) (fun r w' => r = [] ∧ e_fr kMv w w' ∧ e_Has kTy w' ∧ ∀ i, 0 ≤ i → i ≤ 3 → w' (17 * i + 86) 19 ≠ 0) := by
    intro nn
    induction nn with
    | zero => intro y2 v1 hj hm; obtain ⟨j3, j4, j5, j6⟩ := hj; exfalso; omega
    | succ nn ih2 =>
      intro y2 v1 hj hm
      obtain ⟨j3, j4, j5, j6⟩ := hj
      refine e_Ok.run (t' := (4, [(0, (1, 8)), (1, (0, a)), (2, (0, y2))], [(0, 4), (0, y2)], v1)) 2 rfl ?_
      refine e_Ok.if2 rfl (fun h7 => ?_) (fun h7 => ?_)
      · replace h7 : (y2 : Int) ≥ 4 := h7
        refine e_Ok.ps1 (x := (1, 8)) (q := 38) 1 rfl ?_
        refine e_Ok.getr (z := 74) rfl (el_o rfl) rfl rfl ((j3 8 3 no_cb_2).trans (e_Has.eq hT (kt_o rfl))) ⟨by decide, by decide⟩ ?_
        refine e_Ok.ps1 (x := (0, 0)) (q := 42) 1 rfl ?_
        refine e_Ok.putb rfl (el_o rfl) rfl rfl (by omega) ?_
        generalize hw8 : e_up v1 74 7 0 = w8
        have hT10 : e_Has kTy w8 := e_Has.upr j4 hw8 rfl (by omega)
        refine e_Ok.rets rfl rfl ?_
        exact ⟨rfl, (show e_fr kMv w w8 from e_fr.up j3 hw8 (by first | exact Or.inr ⟨rfl, rfl⟩ | (unfold kMv; omega))), hT10, (fun i g1 g2 => by rw [← hw8, e_up_ne _ _ (Or.inl (by omega))]; exact j5 i g1 (by omega))⟩
      · replace h7 : (y2 : Int) < 4 := Int.not_le.mp (show ¬ ((y2 : Int) ≥ 4) from h7)
        refine e_Ok.ps1 (x := (1, 8)) (q := 8) 1 rfl ?_
        refine e_Ok.getr (z := 9) rfl (el_o rfl) rfl rfl ((j3 8 0 no_cb_2).trans (e_Has.eq hT (kt_o rfl))) ⟨by decide, by decide⟩ ?_
        refine e_Ok.ps1 (x := (0, y2)) (q := 12) 1 rfl ?_
        refine e_Ok.aald (z := 17 * y2 + 86) rfl (el_o rfl) rfl (by omega) ((j3 9 y2 no_cb_3).trans (Eq.trans (e_Has.eq hT (k9 (by omega))) (by omega))) (by omega) ?_
        refine e_Ok.ps1 (x := (1, 17 * y2 + 86)) (q := 14) 1 rfl ?_
        have h11 := (e_Has.get j4 (c := 17 * y2 + 86) (k := 19) (lo := (-2147483648)) (hi := 2147483647) (kA_19 (a := y2) (by omega) (by omega)) (by decide))
        refine e_Ok.getf (z := v1 (17 * y2 + 86) 19) rfl (lA0 (a := y2) (by omega) (by omega)) rfl rfl rfl (e_bq h11 (by decide) (by decide)) ?_
        refine e_Ok.ps2 (x := (0, a)) (y := (0, y2)) (q := 19) 2 rfl ?_
        have hJ14 : ∀ m13 : Int, 1 ≤ m13 ∧ m13 ≤ 2 → e_Ok 20 elay kcode eI d 39 (27, [(0, (1, 8)), (1, (0, a)), (2, (0, y2))], [(0, m13), (0, v1 (17 * y2 + 86) 19), (1, 17 * y2 + 86)], v1) (fun r w' => r = [] ∧ e_fr kMv w w' ∧ e_Has kTy w' ∧ ∀ i, 0 ≤ i → i ≤ 3 → w' (17 * i + 86) 19 ≠ 0) := by
          intro m13 m13r
          refine e_Ok.orne rfl (by omega) (fun z15 z15r z15n => ?_)
          refine e_Ok.putf rfl (lA0 (a := y2) (by omega) (by omega)) rfl rfl ?_
          generalize hw16 : e_up v1 (17 * y2 + 86) 19 z15 = w16
          have hT18 : e_Has kTy w16 := e_Has.upr j4 hw16 (kA_19 (a := y2) (by omega) (by omega)) (by omega)
          refine e_Ok.inc (z := y2 + 1) rfl rfl (by first | with_reducible rfl | omega) (by omega) ?_
          show e_Ok 20 elay kcode eI d 39 (34, [(2, (0, y2 + 1)), (0, (1, 8)), (1, (0, a))], [], w16) _
          refine e_Ok.ps0 (q := 2) 1 rfl ?_
          refine e_Ok.sub kAlk (e_sub_of rfl ?_) (ih2 (y2 + 1) w16 ⟨(show e_fr kMv w w16 from e_fr.up j3 hw16 (by unfold kMv; omega)), hT18, (fun i g1 g2 => by rw [← hw16]; by_cases e : i = y2; (rw [e, e_up_eq]; omega); (rw [e_up_ne _ _ (Or.inl (by omega))]; exact j5 i g1 (by omega))), by omega⟩ (by omega))
          exact ⟨rfl, rfl, rfl, trivial⟩
        refine e_Ok.if2 rfl (fun h12 => ?_) (fun h12 => ?_)
        · exact e_Ok.run 1 rfl (hJ14 2 (by omega))
        · exact e_Ok.run 2 rfl (hJ14 1 (by omega))
  refine e_Ok.sub kAlk (e_sub_of rfl ?_) (hL1 (4 + 1 : Int).toNat 0 w ⟨(e_fr.refl w), hT, (fun i g1 g2 => by omega), by omega⟩ (by omega))
  exact ⟨rfl, rfl, rfl, trivial⟩
theorem no_cb_4 {k : Int} : ¬ kLg 8 k := by unfold kLg; omega
theorem no_cb_5 {k : Int} : ¬ kLg 9 k := by unfold kLg; omega
theorem no_cb_6 {a : Int} (ha : 0 ≤ a ∧ a ≤ 3) : ¬ kLg (17 * a + 86) 13 := by unfold kLg; omega
theorem no_cb_7 {k : Int} : ¬ kLg 82 k := by unfold kLg; omega
theorem su_cb_12 {a : Int} {c k : Int} (q : kLg c k) : kBk a c k := by
  unfold kLg at q
  rcases q with ⟨q, q⟩ | q
  · exact Or.inl ⟨(by omega), (by omega)⟩
  · exact Or.inr (Or.inl (by omega))
theorem c_41 {d : Nat} (hd : 21 ≤ d) {w : eW} (hT : e_Has kTy w) {a : Int} (g_a : 0 ≤ a ∧ a ≤ 3) (he : w 74 1 < 2147483647) : e_Ok 20 elay kcode eI d 41 (0, [(0, (1, 8)), (1, (0, a))], [], w) (fun r w' => r = [] ∧ e_fr (kBk a) w w' ∧ e_Has kTy w' ∧ (w' 74 1 = w 74 1 + 1 ∧ (lgK w → lgK w')) ∧ w' (17 * a + 86) 18 = -1) := by
  obtain ⟨d, rfl⟩ : ∃ e, d = e + 1 := ⟨d - 1, by omega⟩
  refine e_Ok.ps1 (x := (1, 8)) (q := 1) 1 rfl ?_
  refine e_Ok.getr (z := 74) rfl (el_o rfl) rfl rfl (e_Has.eq hT (kt_o rfl)) ⟨by decide, by decide⟩ ?_
  refine e_Ok.ps3 (x := (0, 0)) (y := (0, a)) (z := (0, 9)) (q := 8) 3 rfl ?_
  refine e_Ok.callV rfl (e_dq hd rfl) rfl rfl rfl rfl (c_27 hT (by omega) (by omega) (by omega) (by omega)) (fun r1 w2 h3 => ?_)
  obtain ⟨rfl, q4f, q4T, q4x⟩ := h3
  have f5 : e_fr (kBk a) w w2 := e_fr.trans (e_fr.refl w) (e_fr.mono q4f (fun c k q => by first | exact su_cb_12 q | (unfold kLg at q; unfold kBk; omega)))
  refine e_Ok.nrm (q := 11) (st' := []) rfl rfl ?_
  refine e_Ok.ps1 (x := (1, 8)) (q := 12) 1 rfl ?_
  refine e_Ok.getr (z := 9) rfl (el_o rfl) rfl rfl ((q4f 8 0 no_cb_4).trans (e_Has.eq hT (kt_o rfl))) ⟨by decide, by decide⟩ ?_
  refine e_Ok.ps1 (x := (0, a)) (q := 16) 1 rfl ?_
  refine e_Ok.aald (z := 17 * a + 86) rfl (el_o rfl) rfl (by omega) ((q4f 9 a no_cb_5).trans (Eq.trans (e_Has.eq hT (k9 (by omega))) (by omega))) (by omega) ?_
  have h6 := (e_Has.get hT (c := 17 * a + 86) (k := 13) (lo := (-1)) (hi := 15) (kA_13 (a := a) rfl g_a) (by decide))
  refine e_Ok.getf (z := w (17 * a + 86) 13) rfl (lA0 (a := a) rfl g_a) rfl rfl ((q4f (17 * a + 86) 13 (by first | exact no_cb_6 (by omega) | (unfold kLg; omega))).trans rfl) (e_bq h6 (by decide) (by decide)) ?_
  refine e_Ok.if1 rfl (fun h7 => ?_) (fun h7 => ?_)
  · replace h7 : (w (17 * a + 86) 13 : Int) < 0 := h7
    refine e_Ok.ps1 (x := (1, 8)) (q := 42) 1 rfl ?_
    refine e_Ok.getr (z := 9) rfl (el_o rfl) rfl rfl ((q4f 8 0 no_cb_4).trans (e_Has.eq hT (kt_o rfl))) ⟨by decide, by decide⟩ ?_
    refine e_Ok.ps1 (x := (0, a)) (q := 46) 1 rfl ?_
    refine e_Ok.aald (z := 17 * a + 86) rfl (el_o rfl) rfl (by omega) ((q4f 9 a no_cb_5).trans (Eq.trans (e_Has.eq hT (k9 (by omega))) (by omega))) (by omega) ?_
    refine e_Ok.ps1 (x := (0, (-1))) (q := 48) 1 rfl ?_
    refine e_Ok.putf rfl (lA0 (a := a) rfl g_a) rfl rfl ?_
    generalize hw8 : e_up w2 (17 * a + 86) 13 (-1) = w8
    have hT10 : e_Has kTy w8 := e_Has.upr q4T hw8 (kA_13 (a := a) rfl g_a) (by omega)
    refine e_Ok.ps1 (x := (1, 8)) (q := 52) 1 rfl ?_
    refine e_Ok.getr (z := 9) rfl (el_o rfl) rfl rfl (e_uq hw8 (Or.inr (by decide)) ((q4f 8 0 no_cb_4).trans (e_Has.eq hT (kt_o rfl)))) ⟨by decide, by decide⟩ ?_
    refine e_Ok.ps1 (x := (0, a)) (q := 56) 1 rfl ?_
    refine e_Ok.aald (z := 17 * a + 86) rfl (el_o rfl) rfl (by omega) (e_uq hw8 (Or.inl (by omega)) ((q4f 9 a no_cb_5).trans (Eq.trans (e_Has.eq hT (k9 (by omega))) (by omega)))) (by omega) ?_
    refine e_Ok.ps1 (x := (0, (-1))) (q := 58) 1 rfl ?_
    refine e_Ok.putf rfl (lA0 (a := a) rfl g_a) rfl rfl ?_
    generalize hw11 : e_up w8 (17 * a + 86) 18 (-1) = w11
    have hT13 : e_Has kTy w11 := e_Has.upr hT10 hw11 (kA_18 (a := a) rfl g_a) (by omega)
    refine e_Ok.rets rfl rfl ?_
    exact ⟨rfl, (show e_fr (kBk a) w w11 from e_fr.up (show e_fr (kBk a) w w8 from e_fr.up f5 hw8 (by first | exact Or.inr (Or.inr (Or.inr ⟨(by omega), Or.inl rfl⟩)) | (unfold kBk; omega))) hw11 (by first | exact Or.inr (Or.inr (Or.inr ⟨(by omega), Or.inr rfl⟩)) | (unfold kBk; omega))), hT13, ⟨by rw [← hw11, e_up_ne _ _ (by omega), ← hw8, e_up_ne _ _ (by omega)]; exact q4x.1, fun hL => lgK.fr (S := fun c k => (c = 17 * a + 86 ∧ k = 13) ∨ (c = 17 * a + 86 ∧ k = 18)) (fun c k g => by rw [← hw11, e_up_ne _ _ (by omega), ← hw8, e_up_ne _ _ (by omega)]) (by omega) (fun k => by omega) (q4x.2 hL)⟩, (e_ue hw11)⟩
  · replace h7 : (w (17 * a + 86) 13 : Int) ≥ 0 := Int.not_lt.mp (show ¬ ((w (17 * a + 86) 13 : Int) < 0) from h7)
    refine e_Ok.ps1 (x := (1, 8)) (q := 24) 1 rfl ?_
    refine e_Ok.getr (z := 82) rfl (el_o rfl) rfl rfl ((q4f 8 4 no_cb_4).trans (e_Has.eq hT (kt_o rfl))) ⟨by decide, by decide⟩ ?_
    refine e_Ok.ps1 (x := (1, 8)) (q := 28) 1 rfl ?_
    refine e_Ok.getr (z := 9) rfl (el_o rfl) rfl rfl ((q4f 8 0 no_cb_4).trans (e_Has.eq hT (kt_o rfl))) ⟨by decide, by decide⟩ ?_
    refine e_Ok.ps1 (x := (0, a)) (q := 32) 1 rfl ?_
    refine e_Ok.aald (z := 17 * a + 86) rfl (el_o rfl) rfl (by omega) ((q4f 9 a no_cb_5).trans (Eq.trans (e_Has.eq hT (k9 (by omega))) (by omega))) (by omega) ?_
    refine e_Ok.getf (z := w (17 * a + 86) 13) rfl (lA0 (a := a) rfl g_a) rfl rfl ((q4f (17 * a + 86) 13 (by first | exact no_cb_6 (by omega) | (unfold kLg; omega))).trans rfl) (by omega) ?_
    refine e_Ok.aald (z := 6 * w (17 * a + 86) 13 + 154) rfl (el_o rfl) rfl (by omega) ((q4f 82 (w (17 * a + 86) 13) no_cb_7).trans (Eq.trans (e_Has.eq hT (k82 (by omega))) (by omega))) (by omega) ?_
    refine e_Ok.ps1 (x := (0, 1)) (q := 38) 1 rfl ?_
    refine e_Ok.putb rfl (lT0 (t := (w (17 * a + 86) 13)) (by omega) (by omega)) rfl rfl (by omega) ?_
    generalize hw14 : e_up w2 (6 * w (17 * a + 86) 13 + 154) 10 1 = w14
    have hT16 : e_Has kTy w14 := e_Has.upr q4T hw14 (kT_10 (t := (w (17 * a + 86) 13)) (by omega) (by omega)) (by omega)
    refine e_Ok.ps1 (x := (1, 8)) (q := 42) 1 rfl ?_
    refine e_Ok.getr (z := 9) rfl (el_o rfl) rfl rfl (e_uq hw14 (Or.inr (by decide)) ((q4f 8 0 no_cb_4).trans (e_Has.eq hT (kt_o rfl)))) ⟨by decide, by decide⟩ ?_
    refine e_Ok.ps1 (x := (0, a)) (q := 46) 1 rfl ?_
    refine e_Ok.aald (z := 17 * a + 86) rfl (el_o rfl) rfl (by omega) (e_uq hw14 (Or.inl (by omega)) ((q4f 9 a no_cb_5).trans (Eq.trans (e_Has.eq hT (k9 (by omega))) (by omega)))) (by omega) ?_
    refine e_Ok.ps1 (x := (0, (-1))) (q := 48) 1 rfl ?_
    refine e_Ok.putf rfl (lA0 (a := a) rfl g_a) rfl rfl ?_
    generalize hw17 : e_up w14 (17 * a + 86) 13 (-1) = w17
    have hT19 : e_Has kTy w17 := e_Has.upr hT16 hw17 (kA_13 (a := a) rfl g_a) (by omega)
    refine e_Ok.ps1 (x := (1, 8)) (q := 52) 1 rfl ?_
    refine e_Ok.getr (z := 9) rfl (el_o rfl) rfl rfl (e_uq hw17 (Or.inr (by decide)) (e_uq hw14 (Or.inr (by decide)) ((q4f 8 0 no_cb_4).trans (e_Has.eq hT (kt_o rfl))))) ⟨by decide, by decide⟩ ?_
    refine e_Ok.ps1 (x := (0, a)) (q := 56) 1 rfl ?_
    refine e_Ok.aald (z := 17 * a + 86) rfl (el_o rfl) rfl (by omega) (e_uq hw17 (Or.inl (by omega)) (e_uq hw14 (Or.inl (by omega)) ((q4f 9 a no_cb_5).trans (Eq.trans (e_Has.eq hT (k9 (by omega))) (by omega))))) (by omega) ?_
    refine e_Ok.ps1 (x := (0, (-1))) (q := 58) 1 rfl ?_
    refine e_Ok.putf rfl (lA0 (a := a) rfl g_a) rfl rfl ?_
    generalize hw20 : e_up w17 (17 * a + 86) 18 (-1) = w20
    have hT22 : e_Has kTy w20 := e_Has.upr hT19 hw20 (kA_18 (a := a) rfl g_a) (by omega)
    refine e_Ok.rets rfl rfl ?_
    exact ⟨rfl, (show e_fr (kBk a) w w20 from e_fr.up (show e_fr (kBk a) w w17 from e_fr.up (show e_fr (kBk a) w w14 from e_fr.up f5 hw14 (by unfold kBk; omega)) hw17 (by first | exact Or.inr (Or.inr (Or.inr ⟨(by omega), Or.inl rfl⟩)) | (unfold kBk; omega))) hw20 (by first | exact Or.inr (Or.inr (Or.inr ⟨(by omega), Or.inr rfl⟩)) | (unfold kBk; omega))), hT22, ⟨by rw [← hw20, e_up_ne _ _ (by omega), ← hw17, e_up_ne _ _ (by omega), ← hw14, e_up_ne _ _ (by omega)]; exact q4x.1, fun hL => lgK.fr (S := fun c k => (c = 6 * w (17 * a + 86) 13 + 154 ∧ k = 10) ∨ (c = 17 * a + 86 ∧ k = 13) ∨ (c = 17 * a + 86 ∧ k = 18)) (fun c k g => by rw [← hw20, e_up_ne _ _ (by omega), ← hw17, e_up_ne _ _ (by omega), ← hw14, e_up_ne _ _ (by omega)]) (by omega) (fun k => by omega) (q4x.2 hL)⟩, (e_ue hw20)⟩
theorem no_cb_8 {a : Int} : ¬ kBk a 8 0 := by unfold kBk; omega
theorem no_cb_9 {a : Int} (ha : 0 ≤ a ∧ a ≤ 3) : ¬ kBk a 9 a := by unfold kBk; omega
theorem su_cb_13 {a : Int} {c k : Int} (q : kBk a c k) : kBa a c k := by
  unfold kBk at q
  rcases q with ⟨q, q⟩ | q | ⟨q, ⟨q, ⟨q, q⟩⟩⟩ | ⟨q, (q | q)⟩
  · exact Or.inl ⟨(by omega), (by omega)⟩
  · exact Or.inr (Or.inl (by omega))
  · exact Or.inr (Or.inr (Or.inl ⟨(by omega), ⟨(by omega), ⟨(by omega), (by omega)⟩⟩⟩))
  · exact Or.inr (Or.inr (Or.inr ⟨(by omega), Or.inr (Or.inl (by omega))⟩))
  · exact Or.inr (Or.inr (Or.inr ⟨(by omega), Or.inr (Or.inr (by omega))⟩))
theorem c_40 {d : Nat} (hd : 22 ≤ d) {w : eW} (hT : e_Has kTy w) {a : Int} (g_a : 0 ≤ a ∧ a ≤ 3) {OP OD CL : Int → Int → Int} {h t0 : Int} (q : kI w OP OD CL h t0) (he : w 74 1 < 2147483647) : e_Ok 20 elay kcode eI d 40 (0, [(0, (1, 8)), (1, (0, a))], [], w) (fun r w' => r = [] ∧ e_fr (kBa a) w w' ∧ e_Has kTy w' ∧ (kI w' OP OD CL h t0 ∧ w 74 1 ≤ w' 74 1 ∧ w' 74 1 ≤ w 74 1 + 1)) := by
  obtain ⟨d, rfl⟩ : ∃ e, d = e + 1 := ⟨d - 1, by omega⟩
  refine e_Ok.ps1 (x := (1, 8)) (q := 1) 1 rfl ?_
  refine e_Ok.getr (z := 9) rfl (el_o rfl) rfl rfl (e_Has.eq hT (kt_o rfl)) ⟨by decide, by decide⟩ ?_
  refine e_Ok.ps1 (x := (0, a)) (q := 5) 1 rfl ?_
  refine e_Ok.aald (z := 17 * a + 86) rfl (el_o rfl) rfl (by omega) (Eq.trans (e_Has.eq hT (k9 (by omega))) (by omega)) (by omega) ?_
  have h1 := (e_Has.get hT (c := 17 * a + 86) (k := 11) (lo := 0) (hi := 2) (kA_11 (a := a) rfl g_a) (by decide))
  refine e_Ok.getf (z := w (17 * a + 86) 11) rfl (lA0 (a := a) rfl g_a) rfl rfl rfl (e_bq h1 (by decide) (by decide)) ?_
  refine e_Ok.ps1 (x := (0, 1)) (q := 10) 1 rfl ?_
  refine e_Ok.if2 rfl (fun h2 => ?_) (fun h2 => ?_)
  · replace h2 : (w (17 * a + 86) 11 : Int) = 1 := h2
    refine e_Ok.ps2 (x := (0, a)) (y := (1, 8)) (q := 16) 2 rfl ?_
    refine e_Ok.callV rfl (e_dq hd rfl) rfl rfl rfl rfl (c_41 (e_dq hd rfl) hT (by omega) (by omega)) (fun r3 w4 h5 => ?_)
    obtain ⟨rfl, q6f, q6T, q6x⟩ := h5
    refine e_Ok.nrm (q := 19) (st' := []) rfl rfl ?_
    refine e_Ok.ps1 (x := (1, 8)) (q := 20) 1 rfl ?_
    refine e_Ok.getr (z := 9) rfl (el_o rfl) rfl rfl ((q6f 8 0 (by first | exact no_cb_8 | (unfold kBk; omega))).trans (e_Has.eq hT (kt_o rfl))) ⟨by decide, by decide⟩ ?_
    refine e_Ok.ps1 (x := (0, a)) (q := 24) 1 rfl ?_
    refine e_Ok.aald (z := 17 * a + 86) rfl (el_o rfl) rfl (by omega) ((q6f 9 a (by first | exact no_cb_9 (by omega) | (unfold kBk; omega))).trans (Eq.trans (e_Has.eq hT (k9 (by omega))) (by omega))) (by omega) ?_
    refine e_Ok.ps1 (x := (0, 2)) (q := 26) 1 rfl ?_
    refine e_Ok.putf rfl (lA0 (a := a) rfl g_a) rfl rfl ?_
    generalize hw8 : e_up w4 (17 * a + 86) 11 2 = w8
    have f9 : e_fr (kBa a) w w8 := e_fr.up (show e_fr (kBa a) w w4 from e_fr.trans (e_fr.refl w) (e_fr.mono q6f (fun c k q => by first | exact su_cb_13 q | (unfold kBk at q; unfold kBa; omega)))) hw8 (by first | exact Or.inr (Or.inr (Or.inr ⟨(by omega), Or.inl rfl⟩)) | (unfold kBa; omega))
    have hT10 : e_Has kTy w8 := e_Has.upr q6T hw8 (kA_11 (a := a) rfl g_a) (by omega)
    refine e_Ok.rets rfl rfl ?_
    have hA := (q.arm (a := a) (by omega) (by omega)).brk (w' := w8) (kn_joints hT (by omega)).2 (fun c k g1 g2 => by rw [← hw8, e_up_ne _ _ (by omega)]; exact q6f c k (by unfold dA at g1; unfold kBk; omega)) (by omega) (e_ue hw8) (by rw [← hw8, e_up_ne _ _ (by omega)]; exact q6x.2)
    have hp := q.pw
    have e74 : w8 74 1 = w 74 1 + 1 := by rw [← hw8, e_up_ne _ _ (by omega)]; exact q6x.1.1
    exact ⟨rfl, f9, hT10, ⟨kI.ar q hT10 (by omega) (e_fr.mono f9 (fun c k g => ah_kBa g)) (lgK.fr (S := fun c k => c = 17 * a + 86 ∧ k = 11) (fun c k g => by rw [← hw8, e_up_ne _ _ (by omega)]) (by omega) (fun k => by omega) (q6x.1.2 q.lgk)) hA (fun g g9 => by have := hp g a (by omega) (by omega) g9; omega), by omega, by omega⟩⟩
  · replace h2 : (w (17 * a + 86) 11 : Int) ≠ 1 := (show ¬ ((w (17 * a + 86) 11 : Int) = 1) from h2)
    refine e_Ok.rets rfl rfl ?_
    exact ⟨rfl, (e_fr.refl w), hT, ⟨q, by omega, by omega⟩⟩
theorem su_cb_14 {c k : Int} (q : kPo c k) : kSP c k := by
  unfold kPo at q
  rcases q with ⟨q, q⟩ | q
  · exact Or.inr (Or.inr (Or.inl ⟨(by omega), (by omega)⟩))
  · exact Or.inr (Or.inr (Or.inr (by omega)))
theorem su_cb_15 {c k : Int} (q : kDs c k) : kSP c k := by
  unfold kDs at q
  rcases q with ⟨q, (q | q | q)⟩ | q
  · exact Or.inl ⟨(by omega), Or.inl (by omega)⟩
  · exact Or.inl ⟨(by omega), Or.inr (Or.inl (by omega))⟩
  · exact Or.inl ⟨(by omega), Or.inr (Or.inr (by omega))⟩
  · exact Or.inr (Or.inl (by omega))
theorem c_65 {d : Nat} (hd : 23 ≤ d) {w : eW} (hT : e_Has kTy w) {v p : Int} (g_v : (-2147483648) ≤ v ∧ v ≤ 2147483647) (g_p : (-2147483648) ≤ p ∧ p ≤ 2147483647) {OP OD CL : Int → Int → Int} {h t0 : Int} (q : kI w OP OD CL h t0) (hk : sK w) : e_Ok 20 elay kcode eI d 65 (0, [(0, (1, 8)), (1, (0, v)), (2, (0, p))], [], w) (fun r w' => r = [] ∧ e_fr kSP w w' ∧ e_Has kTy w' ∧ (kI w' OP OD CL h t0 ∧ sK w')) := by
  obtain ⟨d, rfl⟩ : ∃ e, d = e + 1 := ⟨d - 1, by omega⟩
  refine e_Ok.ps1 (x := (0, p)) (q := 1) 1 rfl ?_
  refine e_Ok.callS rfl (e_dq hd rfl) rfl rfl (c_245 (e_dq hd rfl) (by omega)) (fun r1 w2 h3 => ?_)
  obtain ⟨z4, rfl, rfl, q5⟩ := h3
  obtain ⟨rfl, q5⟩ | ⟨rfl, q5⟩ := q5
  · refine e_Ok.nrm (q := 4) (st' := [(0, 1)]) rfl rfl ?_
    refine e_Ok.if1 rfl (fun h6 => ?_) (fun h6 => ?_)
    · replace h6 : (1 : Int) = 0 := h6
      exfalso; omega
    · replace h6 : (1 : Int) ≠ 0 := (show ¬ ((1 : Int) = 0) from h6)
      refine e_Ok.ps1 (x := (1, 8)) (q := 8) 1 rfl ?_
      refine e_Ok.getr (z := 10) rfl (el_o rfl) rfl rfl (e_Has.eq hT (kt_o rfl)) ⟨by decide, by decide⟩ ?_
      refine e_Ok.ps2 (x := (0, v)) (y := (0, p)) (q := 13) 2 rfl ?_
      refine e_Ok.callV rfl (e_dq hd rfl) rfl rfl rfl rfl (c_113 (e_dq hd rfl) hT (by omega) (by omega) q.pf) (fun r7 w8 h9 => ?_)
      obtain ⟨z11, rfl, q10f, q10T, q10r, q10x⟩ := h9
      refine e_Ok.nrm (q := 16) (st' := [(0, z11)]) rfl rfl ?_
      refine e_Ok.run (t' := (25, [(0, (1, 8)), (1, (0, v)), (2, (0, p))], [], w8)) 2 rfl ?_
      refine e_Ok.rets rfl rfl ?_
      exact ⟨rfl, (show e_fr kSP w w8 from e_fr.trans (e_fr.refl w) (e_fr.mono q10f (fun c k q => su_cb_14 q))), q10T, ⟨kI.po q q10T (e_fr.mono q10f (fun c k g => ph_kPo g)) q10x, (sK.fr q10f (by unfold kPo; omega) (fun k => by unfold kPo; omega) hk)⟩⟩
  · refine e_Ok.nrm (q := 4) (st' := [(0, 0)]) rfl rfl ?_
    refine e_Ok.if1 rfl (fun h13 => ?_) (fun h13 => ?_)
    · replace h13 : (0 : Int) = 0 := h13
      refine e_Ok.ps2 (x := (0, 2)) (y := (1, 8)) (q := 22) 2 rfl ?_
      refine e_Ok.callV rfl (e_dq hd rfl) rfl rfl rfl rfl (c_46 hT (by omega) hk) (fun r14 w15 h16 => ?_)
      obtain ⟨rfl, q17f, q17T, q17x⟩ := h16
      have Q19 := kI.hm q q17T (e_fr.mono q17f (fun c k g => hm_kDs g))
      refine e_Ok.nrm (q := 25) (st' := []) rfl rfl ?_
      refine e_Ok.rets rfl rfl ?_
      exact ⟨rfl, (show e_fr kSP w w15 from e_fr.trans (e_fr.refl w) (e_fr.mono q17f (fun c k q => su_cb_15 q))), q17T, ⟨Q19, q17x⟩⟩
    · replace h13 : (0 : Int) ≠ 0 := (show ¬ ((0 : Int) = 0) from h13)
      exfalso; omega
end
end
-- part cc
section
noncomputable section
/-! more steps that keep it: a task's own cells, a new task, a move, a part gripped or dropped -/
section Kc
variable {w w' : eW} {OP OD CL : Int → Int → Int} {h t0 : Int}
/-- the task that acts: its own cells and what nothing depends on -/
theorem kI.tg {t : Int} (q : kI w OP OD CL h t) (hT : e_Has kTy w') (ht : 0 ≤ t ∧ t ≤ 15) (f : e_fr (kTh t) w w') (h2 : w' (6 * t + 154) 2 = w (6 * t + 154) 2) (hA : 0 ≤ w (6 * t + 154) 2 ∧ w (6 * t + 154) 2 ≤ 3) (hF : tF w' (6 * t + 154))
    (hG : 1 ≤ w' (6 * t + 154) 1 → w' (6 * t + 154) 1 ≤ 5 → tG w' (6 * t + 154) (OP (w (6 * t + 154) 2)) (w (w (17 * w (6 * t + 154) 2 + 86) 7) 1)) : kI w' OP OD CL h t := by
  have hc := q.cd _ hA.1 hA.2
  refine kI.tk q hT ht f (fun s g1 g2 => g2) ⟨hF, fun g1 g2 => ⟨?_, fun g => absurd rfl g⟩⟩
  have e7 : w' (17 * w (6 * t + 154) 2 + 86) 7 = w (17 * w (6 * t + 154) 2 + 86) 7 := f _ _ (by unfold kTh kHm; omega)
  unfold isCd at hc
  have e1 : w' (w (17 * w (6 * t + 154) 2 + 86) 7) 1 = w (w (17 * w (6 * t + 154) 2 + 86) 7) 1 := f _ _ (by unfold kTh kHm; omega)
  rw [h2, e7, e1]
  exact hG g1 g2
/-- another task acts, or none -/
theorem kI.own {t : Int} (q : kI w OP OD CL h t) (hq : 1 ≤ w (6 * t + 154) 1 → w (6 * t + 154) 1 ≤ 5 → CL (w (6 * t + 154) 2) (w (6 * t + 154) 3) ≤ h) {t1 : Int} : kI w OP OD CL h t1 := by
  obtain ⟨q1, q2, q3, q4, q5, q6, q7, q8, q9⟩ := q
  refine ⟨q1, q2, q3, q4, q5, q6, q7, q8, fun s g1 g2 => ⟨(q9 s g1 g2).1, fun k1 k2 => ⟨((q9 s g1 g2).2 k1 k2).1, fun _ => ?_⟩⟩⟩
  by_cases g : s = t
  · rw [g] at k1 k2 ⊢; exact hq k1 k2
  · exact ((q9 s g1 g2).2 k1 k2).2 g
/-- a task begins -/
theorem kI.beg {t a : Int} (q : kI w OP OD CL h t0) (hT : e_Has kTy w') (ht : 0 ≤ t ∧ t ≤ 15) (h0 : 0 ≤ h) (ha : 0 ≤ a ∧ a ≤ 3) (f : e_fr (kBg t) w w') (h2 : w' (6 * t + 154) 2 = a) (h1 : w' (6 * t + 154) 1 = 1) (h11 : w' (6 * t + 154) 11 = -1) (hS : tSx w' (6 * t + 154) (OP a)) (hp : 40 ≤ OP a (w' (6 * t + 154) 3)) : kI w' OP OD CL h t0 := by
  refine kI.tk q hT ht (f.mono (fun c k g => by unfold kBg at g; unfold kTh; omega)) (fun s _ g2 => g2) ⟨⟨fun _ _ => by rw [h2]; exact ha.1, fun g => by omega, fun g => by omega⟩, fun _ _ => ⟨⟨by rw [h2]; exact hS, fun g => by omega⟩, fun _ => ?_⟩⟩
  have := ((q.2.2.2.2.2.2.1 a ha.1 ha.2).2.1).2.1 _ hp
  rw [h2]
  omega
/-- a move begins -/
theorem aR.move {a : Int} (ha : 0 ≤ a ∧ a ≤ 3) (hn : w (17 * a + 86) 8 ≤ 6) (hc : ∀ c k, dA a c k → ¬ (c = 17 * a + 86 ∧ (k = 11 ∨ k = 12)) → ¬ (17 * a + 97 ≤ c ∧ c ≤ 17 * a + 102 ∧ (k = 9 ∨ k = 10)) → w' c k = w c k) (h0 : w (17 * a + 86) 11 = 0) (h1 : w' (17 * a + 86) 11 = 1) (h2 : kn1 (w' (17 * a + 86) 12)) (hg : ∀ j, 0 ≤ j → j < w (17 * a + 86) 8 → (w (17 * a + j + 97) 1 ≤ w' (17 * a + j + 97) 9 ∧ w' (17 * a + j + 97) 9 ≤ w (17 * a + j + 97) 2) ∧ kn1 (w' (17 * a + j + 97) 10)) (q : aR w a) : aR w' a := by
  obtain ⟨q1, q2, q3, q4, q5, q6⟩ := q
  have e8 : w' (17 * a + 86) 8 = w (17 * a + 86) 8 := hc _ _ (by unfold dA; omega) (by omega) (by omega)
  refine ⟨q1.eq (fun c k g => hc c k (by unfold dA; omega) (by omega) (by omega)), q2.eq (fun c k g => hc c k (by unfold dA; omega) (by omega) (by omega)), ?_, ?_, q5.eq (fun c k g => hc c k (by unfold dA; omega) (by omega) (by omega)), ?_⟩
  · rw [e8, h1]
    intro i g1 g2
    have q := q3 i g1 g2
    rw [h0] at q
    have ek : ∀ k, 1 ≤ k → k ≤ 8 → w' (17 * a + i + 97) k = w (17 * a + i + 97) k := fun k g3 g4 => hc _ _ (by unfold dA; omega) (by omega) (by omega)
    refine ⟨?_, ?_⟩
    · have := q.1
      unfold jC at this ⊢
      rw [ek 1 (by omega) (by omega), ek 2 (by omega) (by omega), ek 5 (by omega) (by omega), ek 6 (by omega) (by omega)]
      exact this
    · have hm := q.2
      have hs : w (17 * a + i + 97) 8 = 0 := hm.2.1 rfl
      unfold jM joOk
      rw [ek 1 (by omega) (by omega), ek 2 (by omega) (by omega), ek 7 (by omega) (by omega), ek 8 (by omega) (by omega), hs]
      exact ⟨hm.1, fun g => absurd g (by decide), fun _ => ⟨(hg i g1 g2).1, fun _ g => absurd g (by decide), fun g => absurd g (by decide)⟩, fun g => absurd g (by decide)⟩
  · intro _
    rw [e8]
    exact ⟨h2, fun j g1 g2 => (hg j g1 g2).2⟩
  · have hp : ∀ c k, 269 ≤ c → c ≤ 271 → w' c k = w c k := fun c k g1 g2 => hc c k (by unfold dA; omega) (by omega) (by omega)
    have e : ∀ k, 17 ≤ k → k ≤ 19 → w' (17 * a + 86) k = w (17 * a + 86) k := fun k g1 g2 => hc _ _ (by unfold dA; omega) (by omega) (by omega)
    unfold aW at q6 ⊢
    rw [e8, e 17 (by omega) (by omega), e 18 (by omega) (by omega), e 19 (by omega) (by omega)]
    exact ⟨fun g => (q6.1 g).eq hp, fun g1 g2 => (q6.2.1 g1 g2).eq hp (fun j g1 g2 => ⟨hc _ _ (by unfold dA; omega) (by omega) (by omega), hc _ _ (by unfold dA; omega) (by omega) (by omega)⟩) (fun j g3 g4 => hc _ _ (by unfold dA; omega) (by omega) (by omega)), fun g => by have := (q6.2.2 g).1; omega⟩
/-- the floor, and what an arm holds -/
def kFh (a c k : Int) : Prop := (31 ≤ c ∧ c ≤ 37) ∨ c = 39 ∨ c = 40 ∨ (c = 17 * a + 86 ∧ (k = 14 ∨ k = 15))
theorem no_cc_0 {a : Int} {b : Int} (ha : 0 ≤ a ∧ a ≤ 3) (hb : 0 ≤ b ∧ b ≤ 3) : ¬ kFh a (17 * b + 86) 8 := by unfold kFh; omega
theorem no_cc_1 {a : Int} {b : Int} (ha : 0 ≤ a ∧ a ≤ 3) (hb : 0 ≤ b ∧ b ≤ 3) : ¬ kFh a (17 * b + 86) 11 := by unfold kFh; omega
theorem no_cc_2 {a : Int} : ¬ kFh a 74 3 := by unfold kFh; omega
theorem no_cc_3 {a : Int} : ¬ kFh a 0 11 := by unfold kFh; omega
theorem kI.fl (q : kI w OP OD CL h t0) (hT : e_Has kTy w') {a : Int} (ha : 0 ≤ a ∧ a ≤ 3) (f : e_fr (kFh a) w w') (hF : fK w') (hH : ∀ b, 0 ≤ b → b ≤ 3 → aH w' b) : kI w' OP OD CL h t0 := by
  have hc := q.cd
  obtain ⟨q1, q2, q3, q4, q5, q6, q7, q8, q9⟩ := q
  have e : ∀ c k, ¬ kFh a c k → w' c k = w c k := f
  refine ⟨hT, fun b g1 g2 => ?_, hF, q4.fr f (fun k => by unfold kFh; omega), q5.fr f (by unfold kFh; omega) (fun k => by unfold kFh; omega), fun g b g1 g2 g9 => ?_, q7.eq (fun c k g => e c k (by unfold dC at g; unfold kFh; omega)), fun j g1 g2 g3 => ?_, fun s g1 g2 => ?_⟩
  · obtain ⟨p1, p2, p3, p4, p5, p6⟩ := q2 b g1 g2
    have hn := (kn_joints q1 ⟨g1, g2⟩).2
    refine ⟨p1.eq (fun c k g => e c k (by unfold kFh; omega)), p2.eq (fun c k g => e c k (by unfold kFh; omega)), ?_, p4.eq hn (fun c k g => e c k (by unfold kFh; omega)), hH b g1 g2, p6.eq hn (fun c k g => e c k (by unfold kFh; omega))⟩
    rw [e (17 * b + 86) 8 (by first | exact no_cc_0 (by omega) (by omega) | (unfold kFh; omega)), e (17 * b + 86) 11 (by first | exact no_cc_1 (by omega) (by omega) | (unfold kFh; omega))]
    exact p3.eq hn (fun c k g1 g2 g3 g4 => e c k (by unfold kFh; omega))
  · rw [e 74 3 (by first | exact no_cc_2 | (unfold kFh; omega))] at g
    rw [e 0 11 (by first | exact no_cc_3 | (unfold kFh; omega))] at g9
    rw [e _ _ (by unfold kFh; omega)]
    exact q6 g b g1 g2 g9
  · rw [e _ _ (by unfold kFh; omega)]
    exact q8 j g1 g2 g3
  · exact (q9 s g1 g2).eq ⟨g1, g2⟩ q1 hc (fun c k g => e c k (by unfold dT dC at g; unfold kFh; omega))
/-- a part is gripped: what the arms hold -/
theorem aH.grip {a p : Int} (ha : 0 ≤ a ∧ a ≤ 3) (hp : 0 ≤ p ∧ p < w 19 1) (hq : w 36 p < 4 ∨ w 36 p = 8) (h1 : w' 19 1 = w 19 1) (h2 : w' 36 p = 4 + a) (h3 : ∀ q, q ≠ p → w' 36 q = w 36 q) (h4 : w' (17 * a + 86) 14 = p) (h5 : ∀ b, 0 ≤ b → b ≤ 3 → b ≠ a → w' (17 * b + 86) 14 = w (17 * b + 86) 14) (hH : ∀ b, 0 ≤ b → b ≤ 3 → aH w b) : ∀ b, 0 ≤ b → b ≤ 3 → aH w' b := fun b g1 g2 g => by
  by_cases e : b = a
  · rw [e, h4, h1, h2]; exact ⟨hp.2, rfl⟩
  · rw [h5 b g1 g2 e] at g ⊢
    have q := hH b g1 g2 g
    rw [h1, h3 _ (fun e2 => by rw [e2] at q; omega)]
    exact q
theorem aH.drop {a p : Int} (ha : 0 ≤ a ∧ a ≤ 3) (h0 : w (17 * a + 86) 14 = p) (hp : 0 ≤ p) (h1 : w' 19 1 = w 19 1) (h3 : ∀ q, q ≠ p → w' 36 q = w 36 q) (h4 : w' (17 * a + 86) 14 = -1) (h5 : ∀ b, 0 ≤ b → b ≤ 3 → b ≠ a → w' (17 * b + 86) 14 = w (17 * b + 86) 14) (hH : ∀ b, 0 ≤ b → b ≤ 3 → aH w b) : ∀ b, 0 ≤ b → b ≤ 3 → aH w' b := fun b g1 g2 g => by
  by_cases e : b = a
  · rw [e, h4] at g; exact absurd g (by decide)
  · rw [h5 b g1 g2 e] at g ⊢
    have q := hH b g1 g2 g
    have qa := hH a ha.1 ha.2 (by rw [h0]; exact hp)
    rw [h1, h3 _ (fun e2 => by rw [e2] at q; rw [h0] at qa; omega)]
    exact q
end Kc
end
end
