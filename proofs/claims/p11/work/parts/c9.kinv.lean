noncomputable section
/-! what the class keeps while its cell goes on: arms, programs, tasks -/
theorem aK.eq {w w' : eW} {a : Int} (h : ∀ c k, (c = 17 * a + 88 ∨ c = 17 * a + 89 ∨ (c = 17 * a + 86 ∧ k = 8)) → w' c k = w c k) (q : aK w a) : aK w' a :=
  q.fr (S := fun c k => ¬ (c = 17 * a + 88 ∨ c = 17 * a + 89 ∨ (c = 17 * a + 86 ∧ k = 8))) (fun c k g => h c k (Classical.not_not.mp g)) (fun k => by omega) (by omega)
theorem oK.eq {w w' : eW} {a : Int} (h : ∀ c k, (c = 17 * a + 90 ∨ c = 17 * a + 91 ∨ (c = 17 * a + 86 ∧ k = 8)) → w' c k = w c k) (q : oK w a) : oK w' a :=
  q.fr (S := fun c k => ¬ (c = 17 * a + 90 ∨ c = 17 * a + 91 ∨ (c = 17 * a + 86 ∧ k = 8))) (fun c k g => h c k (Classical.not_not.mp g)) (fun k => by omega) (by omega)
theorem jq.eq {w w' : eW} {st c : Int} (h : ∀ k, 1 ≤ k → k ≤ 9 → w' c k = w c k) (q : jC w c ∧ jM w st c) : jC w' c ∧ jM w' st c := by
  unfold jC jM at q ⊢
  rw [h 1 (by decide) (by decide), h 2 (by decide) (by decide), h 5 (by decide) (by decide), h 6 (by decide) (by decide), h 7 (by decide) (by decide), h 8 (by decide) (by decide), h 9 (by decide) (by decide)]
  exact q
/-- an arm: its points, its joints, its move, what it holds -/
def aT (w : eW) (a : Int) : Prop := w (17 * a + 86) 11 ≠ 0 → kn1 (w (17 * a + 86) 12) ∧ ∀ j, 0 ≤ j → j < w (17 * a + 86) 8 → kn1 (w (17 * a + j + 97) 10)
def aH (w : eW) (a : Int) : Prop := 0 ≤ w (17 * a + 86) 14 → w (17 * a + 86) 14 < w 19 1 ∧ w 36 (w (17 * a + 86) 14) = 4 + a
/-- a way that is kept: its steps; where its steps lead from v on, all lies within the limits -/
def yD (w : eW) (m y : Int) : Prop := (0 ≤ w 270 y ∧ w 270 y ≤ 1000) ∧ (1 ≤ w 271 y ∧ w 271 y ≤ 16) ∧ ∀ k, 0 ≤ k → k < w 270 y → 0 ≤ w 269 (1000 * y + k) ∧ w 269 (1000 * y + k) < 2 * m
def dlt (s j wd : Int) : Int := if s = 2 * j then wd else if s = 2 * j + 1 then -wd else 0
def yP (w : eW) (a m y s : Int) (v : Int → Int) : Prop := ∃ N : Int → Int → Int, (∀ j, 0 ≤ j → j < m → N s j = v j) ∧ ∀ k, s ≤ k → k < w 270 y → ∀ j, 0 ≤ j → j < m → N (k + 1) j = N k j + dlt (w 269 (1000 * y + k)) j (w 271 y) ∧ w (17 * a + j + 97) 1 ≤ N (k + 1) j ∧ N (k + 1) j ≤ w (17 * a + j + 97) 2
def aW (w : eW) (a : Int) : Prop := (0 ≤ w (17 * a + 86) 17 → yD w (w (17 * a + 86) 8) (w (17 * a + 86) 17)) ∧ (0 ≤ w (17 * a + 86) 17 → w (17 * a + 86) 19 = 0 → yP w a (w (17 * a + 86) 8) (w (17 * a + 86) 17) 0 (fun j => w (17 * a + j + 97) 7)) ∧ (0 ≤ w (17 * a + 86) 18 → w (17 * a + 86) 11 = 1 ∧ 0 ≤ w (17 * a + 86) 17 ∧ w (17 * a + 86) 18 ≤ w 270 (w (17 * a + 86) 17) ∧ yP w a (w (17 * a + 86) 8) (w (17 * a + 86) 17) (w (17 * a + 86) 18) (fun j => w (17 * a + j + 97) 9))
theorem yD.eq {w w' : eW} {m y : Int} (h : ∀ c k, 269 ≤ c → c ≤ 271 → w' c k = w c k) (q : yD w m y) : yD w' m y := by
  unfold yD at q ⊢
  rw [h 270 y (by decide) (by decide), h 271 y (by decide) (by decide)]
  exact ⟨q.1, q.2.1, fun k g1 g2 => by rw [h 269 _ (by decide) (by decide)]; exact q.2.2 k g1 g2⟩
theorem yP.eq {w w' : eW} {a m y s : Int} {v v' : Int → Int} (h : ∀ c k, 269 ≤ c → c ≤ 271 → w' c k = w c k) (hl : ∀ j, 0 ≤ j → j < m → w' (17 * a + j + 97) 1 = w (17 * a + j + 97) 1 ∧ w' (17 * a + j + 97) 2 = w (17 * a + j + 97) 2) (hv : ∀ j, 0 ≤ j → j < m → v' j = v j) (q : yP w a m y s v) : yP w' a m y s v' := by
  obtain ⟨N, q1, q2⟩ := q
  refine ⟨N, fun j g1 g2 => by rw [hv j g1 g2]; exact q1 j g1 g2, fun k g1 g2 j g3 g4 => ?_⟩
  rw [h 270 y (by decide) (by decide)] at g2
  rw [h 269 _ (by decide) (by decide), h 271 y (by decide) (by decide), (hl j g3 g4).1, (hl j g3 g4).2]
  exact q2 k g1 g2 j g3 g4
theorem aW.eq {w w' : eW} {a : Int} (hn : w (17 * a + 86) 8 ≤ 6) (h : ∀ c k, ((c = 17 * a + 86 ∧ (k = 8 ∨ k = 11 ∨ (17 ≤ k ∧ k ≤ 19))) ∨ (17 * a + 97 ≤ c ∧ c ≤ 17 * a + 102 ∧ (k = 1 ∨ k = 2 ∨ k = 7 ∨ k = 9)) ∨ (269 ≤ c ∧ c ≤ 271)) → w' c k = w c k) (q : aW w a) : aW w' a := by
  have e : ∀ k, (k = 8 ∨ k = 11 ∨ (17 ≤ k ∧ k ≤ 19)) → w' (17 * a + 86) k = w (17 * a + 86) k := fun k g => h _ _ (Or.inl ⟨rfl, g⟩)
  have hp : ∀ c k, 269 ≤ c → c ≤ 271 → w' c k = w c k := fun c k g1 g2 => h c k (Or.inr (Or.inr ⟨g1, g2⟩))
  have hl : ∀ j, 0 ≤ j → j < w (17 * a + 86) 8 → w' (17 * a + j + 97) 1 = w (17 * a + j + 97) 1 ∧ w' (17 * a + j + 97) 2 = w (17 * a + j + 97) 2 := fun j g1 g2 => ⟨h _ _ (by omega), h _ _ (by omega)⟩
  unfold aW at q ⊢
  rw [e 8 (by omega), e 11 (by omega), e 17 (by omega), e 18 (by omega), e 19 (by omega), hp 270 _ (by decide) (by decide)]
  exact ⟨fun g => (q.1 g).eq hp, fun g1 g2 => (q.2.1 g1 g2).eq hp hl (fun j g3 g4 => h _ _ (by omega)), fun g => ⟨(q.2.2 g).1, (q.2.2 g).2.1, (q.2.2 g).2.2.1, (q.2.2 g).2.2.2.eq hp hl (fun j g3 g4 => h _ _ (by omega))⟩⟩
def aR (w : eW) (a : Int) : Prop := aK w a ∧ oK w a ∧ aMs w a (w (17 * a + 86) 8) (w (17 * a + 86) 11) ∧ aT w a ∧ aH w a ∧ aW w a
theorem aMs.eq {w w' : eW} {a n st : Int} (hn : n ≤ 6) (h : ∀ c k, 17 * a + 97 ≤ c → c ≤ 17 * a + 102 → 1 ≤ k → k ≤ 9 → w' c k = w c k) (q : aMs w a n st) : aMs w' a n st := fun i g1 g2 => jq.eq (fun k g3 g4 => h _ _ (by omega) (by omega) g3 g4) (q i g1 g2)
theorem aT.eq {w w' : eW} {a : Int} (hn : w (17 * a + 86) 8 ≤ 6) (h : ∀ c k, ((c = 17 * a + 86 ∧ (k = 8 ∨ k = 11 ∨ k = 12)) ∨ (17 * a + 97 ≤ c ∧ c ≤ 17 * a + 102 ∧ k = 10)) → w' c k = w c k) (q : aT w a) : aT w' a := by
  unfold aT at q ⊢
  rw [h (17 * a + 86) 8 (by omega), h (17 * a + 86) 11 (by omega), h (17 * a + 86) 12 (by omega)]
  exact fun g => ⟨(q g).1, fun j g1 g2 => by rw [h _ _ (by omega)]; exact (q g).2 j g1 g2⟩
theorem aH.eq {w w' : eW} {a : Int} (h : ∀ c k, ((c = 17 * a + 86 ∧ k = 14) ∨ (c = 19 ∧ k = 1) ∨ c = 36) → w' c k = w c k) (q : aH w a) : aH w' a := by
  unfold aH at q ⊢
  rw [h (17 * a + 86) 14 (by omega), h 19 1 (by omega), h 36 _ (by omega)]
  exact q
def dA (a c k : Int) : Prop := (17 * a + 88 ≤ c ∧ c ≤ 17 * a + 91) ∨ (269 ≤ c ∧ c ≤ 271) ∨ (c = 17 * a + 86 ∧ (k = 8 ∨ k = 11 ∨ k = 12 ∨ k = 14 ∨ (17 ≤ k ∧ k ≤ 19))) ∨ (17 * a + 97 ≤ c ∧ c ≤ 17 * a + 102 ∧ 1 ≤ k ∧ k ≤ 10) ∨ (c = 19 ∧ k = 1) ∨ c = 36
theorem aR.eq {w w' : eW} {a : Int} (hn : w (17 * a + 86) 8 ≤ 6) (h : ∀ c k, dA a c k → w' c k = w c k) (q : aR w a) : aR w' a := by
  obtain ⟨q1, q2, q3, q4, q5, q6⟩ := q
  refine ⟨q1.eq (fun c k g => h c k (by unfold dA; omega)), q2.eq (fun c k g => h c k (by unfold dA; omega)), ?_, q4.eq hn (fun c k g => h c k (by unfold dA; omega)), q5.eq (fun c k g => h c k (by unfold dA; omega)), q6.eq hn (fun c k g => h c k (by unfold dA; omega))⟩
  rw [h (17 * a + 86) 8 (by unfold dA; omega), h (17 * a + 86) 11 (by unfold dA; omega)]
  exact q3.eq hn (fun c k g1 g2 g3 g4 => h c k (by unfold dA; omega))
/-- a program's entries -/
def kCe (w : eW) (cd : Int) (op od : Int → Int) : Prop := (∀ n, 0 ≤ n → n < w cd 1 → 40 ≤ op (w (cd + 1) n)) ∧ ∀ p, op p = 33 ∨ op p = 34 ∨ op p = 39 → od p < w cd 1
theorem kCd.eq {w w' : eW} {cd : Int} {op od : Int → Int} (h : ∀ c k, (c = cd ∨ c = cd + 2) → w' c k = w c k) (q : kCd w cd op od) : kCd w' cd op od :=
  q.fr (S := fun c k => ¬ (c = cd ∨ c = cd + 2)) (fun c k g => h c k (Classical.not_not.mp g)) (by omega) (fun k => by omega)
theorem kCe.eq {w w' : eW} {cd : Int} {op od : Int → Int} (h : ∀ c k, (c = cd ∨ c = cd + 1) → w' c k = w c k) (q : kCe w cd op od) : kCe w' cd op od := by
  unfold kCe at q ⊢
  rw [h cd 1 (by omega)]
  exact ⟨fun n g1 g2 => by rw [h _ _ (by omega)]; exact q.1 n g1 g2, q.2⟩
def kCo (w : eW) (OP OD CL : Int → Int → Int) : Prop := ∀ a, 0 ≤ a → a ≤ 3 → kCd w (w (17 * a + 86) 7) (OP a) (OD a) ∧ cD (OP a) (OD a) (CL a) ∧ kCe w (w (17 * a + 86) 7) (OP a) (OD a)
def dC (c k : Int) : Prop := (2 ≤ c ∧ c ≤ 4) ∨ (c = 86 ∧ k = 7) ∨ (c = 103 ∧ k = 7) ∨ (c = 120 ∧ k = 7) ∨ (c = 137 ∧ k = 7) ∨ (94 ≤ c ∧ c ≤ 96) ∨ (111 ≤ c ∧ c ≤ 113) ∨ (128 ≤ c ∧ c ≤ 130) ∨ (145 ≤ c ∧ c ≤ 147)
theorem kCo.eq {w w' : eW} {OP OD CL : Int → Int → Int} (h : ∀ c k, dC c k → w' c k = w c k) (q : kCo w OP OD CL) : kCo w' OP OD CL := fun a g1 g2 => by
  obtain ⟨q1, q2, q3⟩ := q a g1 g2
  have hc := q1.1
  unfold isCd at hc
  rw [h (17 * a + 86) 7 (by unfold dC; omega)]
  exact ⟨q1.eq (fun c k g => h c k (by unfold dC; omega)), q2, q3.eq (fun c k g => h c k (by unfold dC; omega))⟩
/-- a task -/
def tF (w : eW) (c : Int) : Prop := (1 ≤ w c 1 → w c 1 ≤ 5 → 0 ≤ w c 2) ∧ (w c 1 = 3 → kn1 (w c 8) ∧ kn1 (w c 9)) ∧ (w c 1 = 5 → (0 ≤ w c 8 ∧ w c 8 ≤ 7) ∧ kn1 (w c 9))
def tG (w : eW) (c : Int) (op : Int → Int) (nr : Int) : Prop := tSx w c op ∧ (0 ≤ w c 11 → (0 ≤ w c 12 ∧ w c 12 < nr) ∧ kn1 (w c 13))
def tQ (w : eW) (OP CL : Int → Int → Int) (h t0 t : Int) : Prop := tF w (6 * t + 154) ∧ (1 ≤ w (6 * t + 154) 1 → w (6 * t + 154) 1 ≤ 5 → tG w (6 * t + 154) (OP (w (6 * t + 154) 2)) (w (w (17 * w (6 * t + 154) 2 + 86) 7) 1) ∧ (t ≠ t0 → CL (w (6 * t + 154) 2) (w (6 * t + 154) 3) ≤ h))
def dT (t c k : Int) : Prop := (c = 6 * t + 154 ∧ (1 ≤ k ∧ k ≤ 15) ∧ k ≠ 5 ∧ k ≠ 6 ∧ k ≠ 7 ∧ k ≠ 10 ∧ k ≠ 14) ∨ (6 * t + 155 ≤ c ∧ c ≤ 6 * t + 159)
theorem tF.eq {w w' : eW} {c : Int} (h : ∀ k, (k = 1 ∨ k = 2 ∨ k = 8 ∨ k = 9) → w' c k = w c k) (q : tF w c) : tF w' c := by
  unfold tF at q ⊢
  rw [h 1 (by omega), h 2 (by omega), h 8 (by omega), h 9 (by omega)]
  exact q
theorem tSx.eq {w w' : eW} {c : Int} {op : Int → Int} (h : ∀ d k, ((d = c ∧ (k = 4 ∨ k = 15)) ∨ (c + 1 ≤ d ∧ d ≤ c + 5)) → w' d k = w d k) (q : tSx w c op) : tSx w' c op :=
  q.fr (S := fun d k => ¬ ((d = c ∧ (k = 4 ∨ k = 15)) ∨ (c + 1 ≤ d ∧ d ≤ c + 5))) (fun d k g => h d k (Classical.not_not.mp g)) (by omega) (fun d k g1 g2 => by omega)
theorem tG.eq {w w' : eW} {c nr : Int} {op : Int → Int} (h : ∀ d k, ((d = c ∧ (k = 4 ∨ k = 15 ∨ k = 11 ∨ k = 12 ∨ k = 13)) ∨ (c + 1 ≤ d ∧ d ≤ c + 5)) → w' d k = w d k) (q : tG w c op nr) : tG w' c op nr := by
  refine ⟨q.1.eq (fun d k g => h d k (by omega)), ?_⟩
  rw [h c 11 (by omega), h c 12 (by omega), h c 13 (by omega)]
  exact q.2
theorem tQ.eq {w w' : eW} {OP CL : Int → Int → Int} {hh t0 t : Int} (ht : 0 ≤ t ∧ t ≤ 15) (hT : e_Has kTy w) (hC : ∀ a, 0 ≤ a → a ≤ 3 → isCd (w (17 * a + 86) 7)) (h : ∀ c k, dT t c k ∨ dC c k → w' c k = w c k) (q : tQ w OP CL hh t0 t) : tQ w' OP CL hh t0 t := by
  obtain ⟨q1, q2⟩ := q
  have e : ∀ k, (1 ≤ k ∧ k ≤ 15) → k ≠ 5 → k ≠ 6 → k ≠ 7 → k ≠ 10 → k ≠ 14 → w' (6 * t + 154) k = w (6 * t + 154) k := fun k g1 g2 g3 g4 g5 g6 => h _ _ (Or.inl (Or.inl ⟨rfl, g1, g2, g3, g4, g5, g6⟩))
  refine ⟨q1.eq (fun k g => e k (by omega) (by omega) (by omega) (by omega) (by omega) (by omega)), ?_⟩
  rw [e 1 (by omega) (by omega) (by omega) (by omega) (by omega) (by omega), e 2 (by omega) (by omega) (by omega) (by omega) (by omega) (by omega), e 3 (by omega) (by omega) (by omega) (by omega) (by omega) (by omega)]
  intro g1 g2
  obtain ⟨q3, q4⟩ := q2 g1 g2
  have ha := q1.1 g1 g2
  have hb := e_Has.get hT (c := 6 * t + 154) (k := 2) (lo := -1) (hi := 3) (kT_2 (t := t) rfl ht) (by decide)
  have hc := hC _ ha hb.2
  have hc2 := hc
  unfold isCd at hc2
  have e7 : w' (17 * w (6 * t + 154) 2 + 86) 7 = w (17 * w (6 * t + 154) 2 + 86) 7 := h _ _ (Or.inr (by unfold dC; omega))
  have e1 : w' (w (17 * w (6 * t + 154) 2 + 86) 7) 1 = w (w (17 * w (6 * t + 154) 2 + 86) 7) 1 := h _ _ (Or.inr (by unfold dC; omega))
  rw [e7, e1]
  exact ⟨q3.eq (fun d k g => h d k (Or.inl (by unfold dT; omega))), q4⟩
def gK (w : eW) (h : Int) : Prop := ∀ j, 0 ≤ j → j < h → j < 6 → kn1 (w 85 j)
/-- all of it; t0: the task that acts -/
def kI (w : eW) (OP OD CL : Int → Int → Int) (h t0 : Int) : Prop := e_Has kTy w ∧ (∀ a, 0 ≤ a → a ≤ 3 → aR w a) ∧ fK w ∧ pF w ∧ lgK w ∧ (w 74 3 = 0 → ∀ a, 0 ≤ a → a ≤ 3 → a < w 0 11 → w (17 * a + 86) 11 = 0) ∧ kCo w OP OD CL ∧ gK w h ∧ ∀ t, 0 ≤ t → t ≤ 15 → tQ w OP CL h t0 t
theorem kI.cd {w : eW} {OP OD CL : Int → Int → Int} {h t0 : Int} (q : kI w OP OD CL h t0) : ∀ a, 0 ≤ a → a ≤ 3 → isCd (w (17 * a + 86) 7) := fun a g1 g2 => (q.2.2.2.2.2.2.1 a g1 g2).1.1
/-- what nothing of it depends on -/
def kHm (c k : Int) : Prop := (c = 8 ∧ 8 ≤ k ∧ k ≤ 11) ∨ c = 84 ∨ (c = 250 ∧ 13 ≤ k ∧ k ≤ 16) ∨ c = 93 ∨ c = 110 ∨ c = 127 ∨ c = 144 ∨ c = 83 ∨ c = 272 ∨ (c = 86 ∧ (k = 13 ∨ k = 15 ∨ k = 16)) ∨ (c = 103 ∧ (k = 13 ∨ k = 15 ∨ k = 16)) ∨ (c = 120 ∧ (k = 13 ∨ k = 15 ∨ k = 16)) ∨ (c = 137 ∧ (k = 13 ∨ k = 15 ∨ k = 16)) ∨ (c = 74 ∧ (k = 0 ∨ 4 ≤ k)) ∨ (76 ≤ c ∧ c ≤ 81) ∨ c = 273 ∨ c = 274 ∨ (c = 0 ∧ 12 ≤ k) ∨ (154 ≤ c ∧ c ≤ 249 ∧ (c - 154) % 6 = 0 ∧ (k = 5 ∨ k = 6 ∨ k = 7 ∨ k = 10 ∨ k = 14)) ∨ (97 ≤ c ∧ c ≤ 153 ∧ 11 ≤ (c - 86) % 17 ∧ k = 11)
theorem no_c9_0 : ¬ kHm 74 3 := by unfold kHm; omega
theorem no_c9_1 : ¬ kHm 0 11 := by unfold kHm; omega
theorem kI.hm {w w' : eW} {OP OD CL : Int → Int → Int} {h t0 : Int} (q : kI w OP OD CL h t0) (hT : e_Has kTy w') (f : e_fr kHm w w') : kI w' OP OD CL h t0 := by
  have hB := e_Has.get q.1 (c := 19) (k := 0) (lo := 0) (hi := 4) rfl (by decide)
  have hc := q.cd
  obtain ⟨q1, q2, q3, q4, q5, q6, q7, q8, q9⟩ := q
  have e : ∀ c k, ¬ kHm c k → w' c k = w c k := f
  refine ⟨hT, fun a g1 g2 => ?_, q3.fr f (fun c k g1 g2 => by unfold kHm; omega) (fun k => by unfold kHm; omega) (by unfold kHm; omega) (by omega), q4.fr f (fun k => by unfold kHm; omega), q5.fr f (by unfold kHm; omega) (fun k => by unfold kHm; omega), fun g a g1 g2 g9 => ?_, q7.eq (fun c k g => e c k (by unfold dC at g; unfold kHm; omega)), fun j g1 g2 g3 => ?_, fun t g1 g2 => ?_⟩
  · exact (q2 a g1 g2).eq (kn_joints q1 ⟨g1, g2⟩).2 (fun c k g => e c k (by unfold dA at g; unfold kHm; omega))
  · rw [e 74 3 no_c9_0] at g
    rw [e 0 11 no_c9_1] at g9
    rw [e _ _ (by unfold kHm; omega)]
    exact q6 g a g1 g2 g9
  · rw [e _ _ (by unfold kHm; omega)]
    exact q8 j g1 g2 g3
  · exact (q9 t g1 g2).eq ⟨g1, g2⟩ q1 hc (fun c k g => e c k (by unfold dT dC at g; unfold kHm; omega))
end
