noncomputable section
/-- what an act comes to: the turn is over, or goes on with a smaller measure -/
def actP (w w' : eW) (G : Int → Gh) (t a g p : Int) : Prop :=
  (w' 275 100 = 1 ∧ tkOk w' G t) ∨ (w' 275 100 = w 275 100 ∧ ∃ (g' p' : Int) (bs' ow' : Int → Int), actOk w' G t a g' p' bs' ow' ∧ mu2 w' t a g' p' ((G a).sg p') < mu2 w t a g p ((G a).sg p) ∧ w' 276 5 + 2 * (20 - w' 275 99) + 2 * (G a).sg p' ≤ w 276 5 + 2 * (20 - w 275 99) + 2 * (G a).sg p)
def finG (w w' : eW) (G : Int → Gh) (t a g p : Int) : Prop :=
  (w' 275 100 = 1 ∧ (w' 276 (1260 * t + 416) = 6 ∨ w' 276 (1260 * t + 416) = 7)) ∨ (w' 275 100 = w 275 100 ∧ w' 276 (1260 * t + 416) = w 276 (1260 * t + 416) ∧ w' 276 5 = w 276 5 ∧ ∃ (g' p' : Int) (bs' ow' : Int → Int), g' ≤ g ∧ (g' = g → p < p') ∧ gT w' G a t g' p' bs' ow' ∧ (G a).dl p' = 0 ∧ (G a).sg p' = 0)
section E89
variable {w w' : eW} {G : Int → Gh} {t a g p : Int} {bs ow : Int → Int}
theorem actP.fin (hn : (G a).n ≤ 10000) (hsg : 0 ≤ (G a).sg p) (h416 : w 276 (1260 * t + 416) = 1) (h99 : 0 ≤ w 275 99 ∧ w 275 99 ≤ 20) (h9 : w' 275 99 = w 275 99) (hd : w' 275 102 = 0) (hW : 0 ≤ w' 276 (1260 * t + 424) → w' 276 (1260 * t + 425) < w' 338 a)
    (hmu : ∀ g' p', 0 ≤ g' ∧ g' ≤ 19 → 0 ≤ p' ∧ p' ≤ 10000 → g' ≤ g → (g' = g → p < p') → mu2 w' t a g' p' 0 < mu2 w t a g p ((G a).sg p)) (h : finG w w' G t a g p) : actP w w' G t a g p := by
  rcases h with h | ⟨h1, h2, h3, g', p', bs', ow', k1, k2, k3, k4, k5⟩
  · exact Or.inl ⟨h.1, tkOk.not (Or.inr (by omega))⟩
  · have q1 := k3.1
    have q2 := k3.2.2.1
    refine Or.inr ⟨h1, g', p', bs', ow', ⟨k3, by rw [k4]; exact hd, fun i q1 q2 => by omega, fun _ => k4, by omega, hW, by omega⟩, ?_, ?_⟩
    · rw [k5]
      exact hmu g' p' (by omega) (by omega) k1 k2
    · omega
/-- a new frame -/
theorem actP.call {g' p' : Int} {bs' ow' : Int → Int} (hn : (G a).n ≤ 10000) (h416 : w 276 (1260 * t + 416) = 1) (h99 : 0 ≤ w 275 99 ∧ w 275 99 ≤ 20) (h9 : w' 275 99 = w 275 99) (hd : w' 275 102 = 0) (hW : 0 ≤ w' 276 (1260 * t + 424) → w' 276 (1260 * t + 425) < w' 338 a) (h100 : w' 275 100 = w 275 100) (hs : w' 276 (1260 * t + 416) = w 276 (1260 * t + 416)) (hE : w' 276 5 ≤ w 276 5 + 2 * (G a).sg p)
    (hmu : 0 ≤ g' ∧ g' ≤ 19 → 0 ≤ p' ∧ p' ≤ 10000 → mu2 w' t a g' p' 0 < mu2 w t a g p ((G a).sg p)) (k3 : gT w' G a t g' p' bs' ow') (k4 : (G a).dl p' = 0) (k5 : (G a).sg p' = 0) : actP w w' G t a g p := by
  have q1 := k3.1
  have q2 := k3.2.2.1
  refine Or.inr ⟨h100, g', p', bs', ow', ⟨k3, by rw [k4]; exact hd, fun i q1 q2 => by omega, fun _ => k4, by omega, hW, by omega⟩, ?_, ?_⟩
  · rw [k5]
    exact hmu (by omega) (by omega)
  · omega
/-- the turn is over, the task rests at a place -/
theorem actP.rest {g' p' : Int} {bs' ow' : Int → Int} (ha : 0 ≤ a ∧ a ≤ 3) (harm : w' 276 (1260 * t + 417) = a) (h100 : w' 275 100 = 1) (hW : 0 ≤ w' 276 (1260 * t + 424) → w' 276 (1260 * t + 425) < w' 338 a) (k3 : gT w' G a t g' p' bs' ow') (k4 : (G a).dl p' = 0) : actP w w' G t a g p :=
  Or.inl ⟨h100, fun _ _ => ⟨a, g', p', bs', ow', ha, harm, k3, k4, hW⟩⟩
/-- the next place of a statement, or a statement's first -/
theorem actP.step {p' : Int} (hn : (G a).n ≤ 10000) (h416 : w 276 (1260 * t + 416) = 1) (h9 : 0 ≤ w' 275 99 ∧ w' 275 99 ≤ 20) (hd : w' 275 102 = (G a).dl p') (hst : ∀ i, 0 ≤ i → i ≤ (G a).dl p' - 1 → -2147483648 ≤ w' 345 i ∧ w' 345 i ≤ 2147483647) (h0 : (G a).sg p' = 0 → (G a).dl p' = 0) (hW : 0 ≤ w' 276 (1260 * t + 424) → w' 276 (1260 * t + 425) < w' 338 a) (h100 : w' 275 100 = w 275 100) (hs : w' 276 (1260 * t + 416) = w 276 (1260 * t + 416)) (hE : w' 276 5 + 2 * (20 - w' 275 99) + 2 * (G a).sg p' ≤ w 276 5 + 2 * (20 - w 275 99) + 2 * (G a).sg p)
    (hmu : 0 ≤ g ∧ g ≤ 19 → 0 ≤ p' ∧ p' ≤ 10000 → mu2 w' t a g p' ((G a).sg p') < mu2 w t a g p ((G a).sg p)) (k3 : gT w' G a t g p' bs ow) : actP w w' G t a g p := by
  have q1 := k3.1
  have q2 := k3.2.2.1
  exact Or.inr ⟨h100, g, p', bs, ow, ⟨k3, hd, hst, h0, by omega, hW, h9⟩, hmu (by omega) (by omega), hE⟩
end E89
end
