noncomputable section
/-! tasks: what stands of a task between its turns -/
def Gh : Type := (Int × Int × Int) × ((Int → Int) × (Int → Int) × (Int → Int) × (Int → Int)) × ((Int → Int → Prop) × (Int → Int → Prop))
def Gh.n (G : Gh) : Int := G.1.1
def Gh.nt (G : Gh) : Int := G.1.2.1
def Gh.nw (G : Gh) : Int := G.1.2.2
def Gh.dl (G : Gh) : Int → Int := G.2.1.1
def Gh.sg (G : Gh) : Int → Int := G.2.1.2.1
def Gh.pi (G : Gh) : Int → Int := G.2.1.2.2.1
def Gh.en (G : Gh) : Int → Int := G.2.1.2.2.2
def Gh.an (G : Gh) : Int → Int → Prop := G.2.2.1
def Gh.br (G : Gh) : Int → Int → Prop := G.2.2.2
def gC (w : eW) (G : Int → Gh) (a : Int) : Prop := cOk w a (G a).n (G a).nt (G a).nw (G a).dl (G a).sg (G a).pi (G a).en (G a).an (G a).br
def gT (w : eW) (G : Int → Gh) (a t g p : Int) (bs ow : Int → Int) : Prop := topOk w a t g p (G a).n (G a).nt (G a).nw (G a).dl (G a).sg (G a).pi (G a).an (G a).br bs ow
def gAll (w : eW) (G : Int → Gh) : Prop := ∀ a, 0 ≤ a → a ≤ 3 → gC w G a
theorem gAll.fr {w w' : eW} {G : Int → Gh} (h : gAll w G) (e : ∀ c k, 328 ≤ c → c ≤ 338 → w' c k = w c k) : gAll w' G := fun a g1 g2 => cOk.fr e (h a g1 g2)
/-- the task u, where it acts, stands at a place of its arm's program -/
def tkOk (w : eW) (G : Int → Gh) (u : Int) : Prop := 1 ≤ w 276 (1260 * u + 416) → w 276 (1260 * u + 416) ≤ 5 → ∃ (a g p : Int) (bs ow : Int → Int), (0 ≤ a ∧ a ≤ 3) ∧ w 276 (1260 * u + 417) = a ∧ gT w G a u g p bs ow ∧ (G a).dl p = 0 ∧ (0 ≤ w 276 (1260 * u + 424) → w 276 (1260 * u + 425) < w 338 a)
/-- what tkOk reads of a task -/
def tkK (u k : Int) : Prop := k = 1260 * u + 417 ∨ k = 1260 * u + 424 ∨ k = 1260 * u + 425 ∨ k = 1260 * u + 428 ∨ k = 1260 * u + 429 ∨ (1260 * u + 436 ≤ k ∧ k ≤ 1260 * u + 1675)
theorem gT.fr {w w' : eW} {G : Int → Gh} {a t g p : Int} {bs ow : Int → Int} (hC : gC w G a) (h : gT w G a t g p bs ow) (e : ∀ c k, 328 ≤ c → c ≤ 338 → w' c k = w c k) (hf : ∀ k, tkK t k → w' 276 k = w 276 k) : gT w' G a t g p bs ow := by
  obtain ⟨h1, h2, h3⟩ := h
  have hr := h3.2.2.2.1
  have hg := h3.1
  have hp := hC.2.2.2.1.2.1 _ hr.1 hr.2
  refine runOk.at (runOk.fr e (fun i q1 q2 => ⟨hf _ (by unfold tkK; omega), hf _ (by unfold tkK; omega)⟩) (hf _ (by unfold tkK; omega)) (hf _ (by unfold tkK; omega)) (fun k q1 q2 => hf _ (by unfold tkK; omega)) hp.2 h3) h1 (Eq.trans (hf _ (by unfold tkK; omega)) h2) (e 330 _ (by omega) (by omega))
theorem tkOk.fr {w w' : eW} {G : Int → Gh} {u : Int} (hA : gAll w G) (h : tkOk w G u) (e : ∀ c k, 328 ≤ c → c ≤ 338 → w' c k = w c k) (hs : w' 276 (1260 * u + 416) = w 276 (1260 * u + 416)) (hf : ∀ k, tkK u k → w' 276 k = w 276 k) : tkOk w' G u := by
  intro q1 q2
  rw [hs] at q1 q2
  obtain ⟨a, g, p, bs, ow, ha, h1, h2, h3, h4⟩ := h q1 q2
  refine ⟨a, g, p, bs, ow, ha, Eq.trans (hf _ (by unfold tkK; omega)) h1, h2.fr (hA a ha.1 ha.2) e hf, h3, ?_⟩
  rw [hf (1260 * u + 424) (by unfold tkK; omega), hf (1260 * u + 425) (by unfold tkK; omega), e 338 _ (by omega) (by omega)]
  exact h4
theorem tkOk.not {w : eW} {G : Int → Gh} {u : Int} (h : w 276 (1260 * u + 416) < 1 ∨ 5 < w 276 (1260 * u + 416)) : tkOk w G u := fun q1 q2 => by omega
/-- a new task -/
theorem tkOk.new {w w' : eW} {G : Int → Gh} {a z q : Int} (hC : gC w G a) (ha : 0 ≤ a ∧ a ≤ 3) (hq : 0 ≤ q ∧ q < w 338 a) (e : ∀ c k, 328 ≤ c → c ≤ 338 → w' c k = w c k) (h1 : w' 276 (1260 * z + 417) = a) (h2 : w' 276 (1260 * z + 424) = -1) (h3 : w' 276 (1260 * z + 428) = 1) (h4 : w' 276 (1260 * z + 429) = 0) (h5 : w' 276 (1260 * z + 436) = w 337 (32 * a + q)) : tkOk w' G z := by
  intro _ _
  have ht := hC.2.2.2.2.2.2 q hq.1 hq.2
  unfold tgt at ht
  obtain ⟨t1, t2, t3, t4, t5⟩ := ht
  have hc1 := hC.1
  have hpi := hC.2.2.2.1
  refine ⟨a, 0, w 337 (32 * a + q), fun _ => 0, fun _ => 0, ha, h1, ?_, t3, fun e => by omega⟩
  refine runOk.at (r := -1) ?_ ⟨t1, t2⟩ (by rw [show 1260 * z + 2 * 0 + 436 = 1260 * z + 436 by omega]; exact h5) (Eq.trans (e 330 _ (by omega) (by omega)) t5)
  refine ⟨by omega, by omega, ⟨rfl, fun i g1 g2 => ⟨Int.le_refl 0, show (0 : Int) ≤ 30 * i by omega⟩, fun i j g1 g2 g3 => Int.le_refl 0, fun i g1 g2 => by omega⟩, by omega, ?_, fun y g1 g2 g3 => ?_, fun j g1 g2 => ?_⟩
  · show w' 276 (1260 * z + 429) = 0 + (G a).pi (-1)
    rw [h4, hpi.1]; rfl
  · have := hpi.2.2.2.1 y g1
    omega
  · have q1 : (G a).pi (-1) = 0 := hpi.1
    replace g2 : j < 0 + (G a).pi (-1) := g2
    omega
theorem tkOk.hop {S : Int → Int → Prop} {w w' : eW} {G : Int → Gh} {v : Int} (hA : gAll w G) (h : tkOk w G v) (hF : e_fr S w w') (hS : ∀ c k, S c k → ¬ (328 ≤ c ∧ c ≤ 338) ∧ (c = 276 → k ≠ 1260 * v + 416 ∧ ¬ tkK v k)) : tkOk w' G v :=
  tkOk.fr hA h (fun c k q1 q2 => hF c k (fun q => (hS c k q).1 ⟨q1, q2⟩)) (hF _ _ (fun q => ((hS _ _ q).2 rfl).1 rfl)) (fun k q1 => hF _ _ (fun q => ((hS _ _ q).2 rfl).2 q1))
/-- what an act of the task t begins with -/
def actOk (w : eW) (G : Int → Gh) (t a g p : Int) (bs ow : Int → Int) : Prop :=
  gT w G a t g p bs ow ∧ w 275 102 = (G a).dl p ∧ (∀ i, 0 ≤ i → i ≤ (G a).dl p - 1 → -2147483648 ≤ w 345 i ∧ w 345 i ≤ 2147483647) ∧ ((G a).sg p = 0 → (G a).dl p = 0) ∧ w 276 (1260 * t + 416) = 1 ∧ (0 ≤ w 276 (1260 * t + 424) → w 276 (1260 * t + 425) < w 338 a) ∧ (0 ≤ w 275 99 ∧ w 275 99 ≤ 20)
/-- a turn's measure -/
def muR (w : eW) (t : Int) (s : Int) : Int := if s = 1 then 1 else if 0 ≤ w 276 (1260 * t + 424) ∧ w 276 (w 276 (1260 * t + 424) + 352) ≠ w 276 (1260 * t + 426) then 1 else 0
def muI (o g p s : Int) : Int := if o = 30 then 0 else 1 + (g + 1) * 20000 + (10000 - p) + (if s = 1 then 1000000 else 0)
def mu2 (w : eW) (t a g p s : Int) : Int := ((20 - w 275 99) * 2 + muR w t s) * 4000000 + muI (w 328 (10000 * a + p)) g p s
theorem muR_b (w : eW) (t s : Int) : 0 ≤ muR w t s ∧ muR w t s ≤ 1 := by
  unfold muR
  split
  · omega
  · split <;> omega
theorem muI_b {o g p s : Int} (hg : 0 ≤ g ∧ g ≤ 19) (hp : 0 ≤ p ∧ p ≤ 10000) : 0 ≤ muI o g p s ∧ muI o g p s ≤ 1500000 := by
  unfold muI
  split
  · omega
  · split <;> omega
theorem mu2_b {w : eW} {t a g p s : Int} (hb : 0 ≤ w 275 99 ∧ w 275 99 ≤ 20) (hg : 0 ≤ g ∧ g ≤ 19) (hp : 0 ≤ p ∧ p ≤ 10000) : 0 ≤ mu2 w t a g p s ∧ mu2 w t a g p s ≤ 200000000 := by
  have h1 := muR_b w t s
  have h2 := muI_b (o := w 328 (10000 * a + p)) (s := s) hg hp
  unfold mu2
  omega
/-- a BEGIN is passed -/
theorem mu2_begin {w w' : eW} {t a g p g' p' s s' : Int} (hb : w 275 99 < 20) (h9 : w' 275 99 = w 275 99 + 1) (hg : 0 ≤ g ∧ g ≤ 19) (hp : 0 ≤ p ∧ p ≤ 10000) (hg' : 0 ≤ g' ∧ g' ≤ 19) (hp' : 0 ≤ p' ∧ p' ≤ 10000) : mu2 w' t a g' p' s' < mu2 w t a g p s := by
  have h1 := muR_b w t s
  have h2 := muI_b (o := w 328 (10000 * a + p)) (s := s) hg hp
  have h3 := muR_b w' t s'
  have h4 := muI_b (o := w' 328 (10000 * a + p')) (s := s') hg' hp'
  unfold mu2
  omega
/-- the watch is seen -/
theorem mu2_watch {w w' : eW} {t a g p g' p' s : Int} (h9 : w' 275 99 = w 275 99) (hs : s = 0) (h1 : 0 ≤ w 276 (1260 * t + 424)) (h2 : w 276 (w 276 (1260 * t + 424) + 352) ≠ w 276 (1260 * t + 426)) (h3 : w' 276 (1260 * t + 424) = w 276 (1260 * t + 424)) (h4 : w' 276 (w 276 (1260 * t + 424) + 352) = w 276 (w 276 (1260 * t + 424) + 352)) (h5 : w' 276 (1260 * t + 426) = w 276 (w 276 (1260 * t + 424) + 352)) (hg : 0 ≤ g ∧ g ≤ 19) (hp : 0 ≤ p ∧ p ≤ 10000) (hg' : 0 ≤ g' ∧ g' ≤ 19) (hp' : 0 ≤ p' ∧ p' ≤ 10000) : mu2 w' t a g' p' 0 < mu2 w t a g p s := by
  have e1 : muR w t s = 1 := by unfold muR; rw [if_neg (by omega), if_pos ⟨h1, h2⟩]
  have e2 : muR w' t 0 = 0 := by unfold muR; rw [if_neg (by omega), h3, h4, h5, if_neg (by omega)]
  have h6 := muI_b (o := w 328 (10000 * a + p)) (s := s) hg hp
  have h7 := muI_b (o := w' 328 (10000 * a + p')) (s := 0) hg' hp'
  unfold mu2
  omega
/-- inside a statement, or out of it -/
theorem mu2_in {w w' : eW} {t a g p g' p' s' : Int} (h9 : w' 275 99 = w 275 99) (ho : w 328 (10000 * a + p) ≠ 30) (h : (s' = 1 ∧ g' = g ∧ p < p') ∨ s' = 0) (hg : 0 ≤ g ∧ g ≤ 19) (hp : 0 ≤ p ∧ p ≤ 10000) (hg' : 0 ≤ g' ∧ g' ≤ 19) (hp' : 0 ≤ p' ∧ p' ≤ 10000) : mu2 w' t a g' p' s' < mu2 w t a g p 1 := by
  have e1 : muR w t 1 = 1 := by unfold muR; rw [if_pos rfl]
  have h2 := muR_b w' t s'
  have e3 : muI (w 328 (10000 * a + p)) g p 1 = 1 + (g + 1) * 20000 + (10000 - p) + 1000000 := by unfold muI; rw [if_neg ho, if_pos rfl]
  have e4 : muI (w' 328 (10000 * a + p')) g' p' s' < 1 + (g + 1) * 20000 + (10000 - p) + 1000000 := by
    unfold muI
    split
    · omega
    · split <;> omega
  unfold mu2
  omega
/-- between statements -/
theorem mu2_out {w w' : eW} {t a g p g' p' : Int} (h9 : w' 275 99 = w 275 99) (ho : w 328 (10000 * a + p) ≠ 30) (h328 : w' 328 (10000 * a + p') = w 328 (10000 * a + p')) (hq : ∀ k, (352 ≤ k ∧ k ≤ 415) ∨ k = 1260 * t + 424 ∨ k = 1260 * t + 426 → w' 276 k = w 276 k) (hw : w 276 (1260 * t + 424) ≤ 63) (h : (g' ≤ g ∧ (g' = g → p < p')) ∨ w 328 (10000 * a + p') = 30) (hg : 0 ≤ g ∧ g ≤ 19) (hp : 0 ≤ p ∧ p ≤ 10000) (hg' : 0 ≤ g' ∧ g' ≤ 19) (hp' : 0 ≤ p' ∧ p' ≤ 10000) : mu2 w' t a g' p' 0 < mu2 w t a g p 0 := by
  have e1 : muR w' t 0 = muR w t 0 := by
    unfold muR
    rw [if_neg (show ¬ (0 : Int) = 1 by decide), if_neg (show ¬ (0 : Int) = 1 by decide), hq (1260 * t + 424) (by omega), hq (1260 * t + 426) (by omega)]
    by_cases e : 0 ≤ w 276 (1260 * t + 424)
    · rw [hq (w 276 (1260 * t + 424) + 352) (by omega)]
    · rw [if_neg (fun q => e q.1), if_neg (fun q => e q.1)]
  have e2 : muI (w' 328 (10000 * a + p')) g' p' 0 < muI (w 328 (10000 * a + p)) g p 0 := by
    rw [h328]
    unfold muI
    rw [if_neg ho, if_neg (show ¬ (0 : Int) = 1 by decide)]
    by_cases e : w 328 (10000 * a + p') = 30
    · rw [if_pos e]; omega
    · rw [if_neg e]
      have q := h.resolve_right e
      omega
  unfold mu2
  omega
end
