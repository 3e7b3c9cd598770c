noncomputable section
/-! the class's reader: a text without a fault gives a program in order -/
def isCl (k : Int) : Prop := k = 33 ∨ k = 34 ∨ k = 39
/-- the names of routines have been looked up below i -/
def fR (w v : eW) (cd i n : Int) : Prop := ∀ p, 0 ≤ p → p < w cd 0 → (v (cd + 2) p = w (cd + 2) p ∧ (i ≤ p ∨ ¬ isCl (w (cd + 2) p % 64))) ∨ (isCl (w (cd + 2) p % 64) ∧ v (cd + 2) p % 64 = w (cd + 2) p % 64 ∧ 0 ≤ v (cd + 2) p ∧ v (cd + 2) p / 64 < n)
def codK (w : eW) (cd : Int) : Prop := ∃ op od cl : Int → Int, kCd w cd op od ∧ cD op od cl ∧ kCe w cd op od
section CO
variable {w v u : eW} {cd i n p x : Int}
theorem fR.start (i : Int) (h : i ≤ 0) : fR w w cd i n := fun p g1 g2 => Or.inl ⟨rfl, Or.inl (by omega)⟩
theorem fR.skip (h : fR w v cd i n) (hp : ¬ isCl (v (cd + 2) i % 64)) : fR w v cd (i + 1) n := fun p g1 g2 => by
  rcases h p g1 g2 with ⟨q1, q2⟩ | q
  · by_cases e : p = i
    · subst e; rw [q1] at hp; exact Or.inl ⟨q1, Or.inr hp⟩
    · refine Or.inl ⟨q1, ?_⟩
      rcases q2 with q2 | q2
      · exact Or.inl (by omega)
      · exact Or.inr q2
  · exact Or.inr q
theorem fR.pat (h : fR w v cd i n) (hp : isCl (v (cd + 2) i % 64)) (q : paQ v u cd i x) (hi : 0 ≤ i ∧ i < v cd 0) (hx : 0 ≤ x ∧ x < n) : fR w u cd (i + 1) n := fun p g1 g2 => by
  rcases q with ⟨a1, a2, a3, a4⟩ | ⟨a1, a2⟩
  · by_cases e : p = i
    · subst e
      have o : v (cd + 2) p % 64 = w (cd + 2) p % 64 := by
        rcases h p g1 g2 with ⟨q1, q2⟩ | q
        · rw [q1]
        · exact q.2.1
      refine Or.inr ⟨by rw [← o]; exact hp, ?_, ?_, ?_⟩
      · rw [a3]; omega
      · rw [a3]; omega
      · rw [a3]; omega
    · rw [a4 p e]
      rcases h p g1 g2 with ⟨q1, q2⟩ | q
      · refine Or.inl ⟨q1, ?_⟩
        rcases q2 with q2 | q2
        · exact Or.inl (by omega)
        · exact Or.inr q2
      · exact Or.inr q
  · omega
theorem cod_ok (hc : isCd cd) (G : zGI w cd 0 0) (h0 : 0 ≤ w cd 0) (hL : v cd 0 = w cd 0) (hf : fR w v cd (w cd 0) n) (hn : n ≤ 32 ∧ n ≤ w 1 14) (h1 : v cd 1 = n) (he : ∀ k, v (cd + 1) k = w (cd + 1) k) : codK v cd := by
  obtain ⟨g1, g2, g3, g4⟩ := G
  have hop : ∀ p, 0 ≤ p → p < w cd 0 → v (cd + 2) p % 64 = w (cd + 2) p % 64 := fun p a b => by
    rcases hf p a b with q | q
    · rw [q.1]
    · exact q.2.1
  have hsm : ∀ p, 0 ≤ p → p < w cd 0 → ¬ isCl (w (cd + 2) p % 64) → v (cd + 2) p = w (cd + 2) p := fun p a b c => by
    rcases hf p a b with q | q
    · exact q.1
    · exact absurd q.1 c
  have hcl : ∀ p, 0 ≤ p → p < w cd 0 → isCl (w (cd + 2) p % 64) → 0 ≤ v (cd + 2) p ∧ v (cd + 2) p / 64 < n := fun p a b c => by
    rcases hf p a b with q | q
    · rcases q.2 with k | k
      · omega
      · exact absurd c k
    · exact q.2.2
  have kc : ∀ x, x ≤ w cd 0 → kcl v cd x = kcl w cd x := fun x hx => by
    unfold kcl
    refine colR_eq2 _ (fun p a b => ?_)
    rcases hf p a (by omega) with q | q
    · exact Or.inl q.1
    · exact Or.inr ⟨by have := q.1; unfold isCl at this; omega, q.2.1⟩
  obtain ⟨op, ho⟩ : ∃ f : Int → Int, ∀ p, f p = if 0 ≤ p ∧ p < w cd 0 then v (cd + 2) p % 64 else 43 := ⟨_, fun _ => rfl⟩
  obtain ⟨od, hd⟩ : ∃ f : Int → Int, ∀ p, f p = if 0 ≤ p ∧ p < w cd 0 then v (cd + 2) p / 64 else 0 := ⟨_, fun _ => rfl⟩
  obtain ⟨cl, hl⟩ : ∃ f : Int → Int, ∀ p, f p = if 0 ≤ p ∧ p ≤ w cd 0 then kcl w cd p else 0 := ⟨_, fun _ => rfl⟩
  have o1 : ∀ p, 0 ≤ p ∧ p < w cd 0 → op p = w (cd + 2) p % 64 := fun p a => by rw [ho, if_pos a]; exact hop p a.1 a.2
  have o2 : ∀ p, ¬ (0 ≤ p ∧ p < w cd 0) → op p = 43 := fun p a => by rw [ho, if_neg a]
  have d1 : ∀ p, 0 ≤ p ∧ p < w cd 0 → od p = v (cd + 2) p / 64 := fun p a => by rw [hd, if_pos a]
  have d2 : ∀ p, ¬ (0 ≤ p ∧ p < w cd 0) → od p = 0 := fun p a => by rw [hd, if_neg a]
  have l1 : ∀ p, 0 ≤ p ∧ p ≤ w cd 0 → cl p = kcl w cd p := fun p a => by rw [hl, if_pos a]
  have l2 : ∀ p, ¬ (0 ≤ p ∧ p ≤ w cd 0) → cl p = 0 := fun p a => by rw [hl, if_neg a]
  have in_of : ∀ p, op p ≠ 43 → 0 ≤ p ∧ p < w cd 0 := fun p a => Classical.byContradiction (fun b => a (o2 p b))
  have rf : ∀ q, rfo w cd 0 q → 40 ≤ op q := fun q a => by
    by_cases b : 0 ≤ q ∧ q < w cd 0
    · rw [o1 q b]; exact a.2 b.2
    · rw [o2 q b]; omega
  have sm : ∀ p, 0 ≤ p ∧ p < w cd 0 → ¬ isCl (op p) → od p = w (cd + 2) p / 64 := fun p a b => by
    rw [d1 p a, hsm p a.1 a.2 (by rw [← o1 p a]; exact b)]
  have cD_ : cD op od cl := by
    refine ⟨rf 0 g1, fun q hq => ?_, fun p => ⟨fun h => ?_, fun h => ?_, fun h => ?_, fun h => ?_, fun h => ?_, fun h => ?_, fun h => ?_, fun h => ?_, fun h => ?_, fun h => ?_⟩⟩
    · by_cases a : 0 ≤ q ∧ q ≤ w cd 0
      · rw [l1 q a]
        by_cases b : q < w cd 0
        · rw [o1 q ⟨a.1, b⟩] at hq
          exact (g4 q a.1 b).2.2.2.2.2.2.2.2.2.2 hq
        · rw [show q = w cd 0 by omega, g3]; omega
      · rw [l2 q a]; omega
    · have a := in_of p (by omega)
      have r := (g4 p a.1 a.2).2.1
      by_cases c : isCl (op p)
      · have := hcl p a.1 a.2 (by rw [← o1 p a]; exact c)
        rw [d1 p a]; omega
      · rw [sm p a c]
        exact r (by rw [o1 p a] at h; unfold isCl at c; rw [o1 p a] at c; omega)
    · have a := in_of p (by omega)
      rw [sm p a (by unfold isCl; omega)]
      exact rf _ ((g4 p a.1 a.2).2.2.1 (by rw [o1 p a] at h; exact h))
    · have a := in_of p (by omega)
      exact rf _ ((g4 p a.1 a.2).2.2.2.1 (by rw [o1 p a] at h; exact h))
    · have a := in_of p (by omega)
      obtain ⟨q1, q2, q3, q4⟩ := (g4 p a.1 a.2).2.2.2.2.1 (by rw [o1 p a] at h; exact h)
      exact ⟨by rw [o1 _ (by omega)]; exact q2, by rw [o1 _ (by omega)]; exact q3, by rw [o1 _ (by omega)]; exact q4⟩
    · have a := in_of p (by omega)
      have p0 := (g4 p a.1 a.2).1
      obtain ⟨q1, q2⟩ := (g4 p a.1 a.2).2.2.2.2.2.1 (by rw [o1 p a] at h; exact h)
      rw [sm p a (by unfold isCl; omega), o1 _ (by omega)]
      exact q2
    · have a := in_of p (by omega)
      rw [l1 p (by omega), l1 (p + 1) (by omega), kcl_S a.1]
      rw [o1 p a] at h
      rw [if_neg (by omega), if_pos h]
      omega
    · have a := in_of p (by omega)
      have p0 := (g4 p a.1 a.2).1
      obtain ⟨q1, q2⟩ := (g4 p a.1 a.2).2.2.2.2.2.2.1 (by rw [o1 p a] at h; exact h)
      rw [sm p a (by unfold isCl; omega), l1 p (by omega), l1 _ (by omega)]
      exact q2
    · have a := in_of p (by omega)
      have q := (g4 p a.1 a.2).2.2.2.2.2.2.2.1 (by rw [o1 p a] at h; exact h)
      rw [sm p a (by unfold isCl; omega), l1 p (by omega), l1 (p + 1) (by omega), kcl_S a.1]
      rw [o1 p a] at h
      rw [if_pos h, q]
      exact ⟨Int.le_refl _, rfl⟩
    · have a := in_of p (by omega)
      have q := (g4 p a.1 a.2).2.2.2.2.2.2.2.2.1 (by rw [o1 p a] at h; exact h)
      rw [sm p a (by unfold isCl; omega), l1 p (by omega)]
      exact q
    · have a := in_of p (by omega)
      have p0 := (g4 p a.1 a.2).1
      obtain ⟨q1, q2⟩ := (g4 p a.1 a.2).2.2.2.2.2.2.2.2.2.1 (by rw [o1 p a] at h; exact h)
      rw [sm p a (by unfold isCl; omega), l1 _ (by omega)]
      exact q2
  refine ⟨op, od, cl, ⟨hc, fun p => ⟨fun a b => ?_, fun a => ?_⟩⟩, cD_, ⟨fun k a b => ?_, fun p h => ?_⟩⟩
  · rw [hL] at b
    refine ⟨?_, by rw [ho, if_pos ⟨a, b⟩], d1 p ⟨a, b⟩⟩
    rcases hf p a b with q | q
    · rw [q.1]; exact (g4 p a b).1.1
    · exact q.2.2.1
  · rw [hL] at a
    exact ⟨o2 p a, d2 p a⟩
  · rw [he k]
    exact rf _ (g2 k a (by omega) (by omega))
  · have a := in_of p (by omega)
    have := hcl p a.1 a.2 (by rw [← o1 p a]; exact h)
    rw [d1 p a, h1]
    exact this.2
/-- nothing written yet -/
theorem zGI.zero (h : w cd 0 = 0) (h14 : w 1 14 = 0) : zGI w cd 0 0 := by
  refine ⟨⟨by omega, fun g => by omega⟩, fun n a b c => by omega, ?_, fun p a b => by omega⟩
  rw [h]; rfl
/-- a routine's place and name -/
theorem gS.rt {w' : eW} (h0 : 0 ≤ w cd 0) (hc : isCd cd) (f : e_fr (fun c k => c = cd + 1 ∨ c = 7 ∨ (c = 1 ∧ k = 14)) w w') (h1 : w' 1 14 = w 1 14 + 1) (h2 : w' (cd + 1) (w 1 14) = w cd 0) (h3 : ∀ k, k ≠ w 1 14 → w' (cd + 1) k = w (cd + 1) k) : gS w w' cd 0 0 0 0 0 := fun hn => by
  unfold isCd at hc
  have f1 : w' cd 0 = w cd 0 := f _ _ (by omega)
  have f2 : ∀ p, w' (cd + 2) p = w (cd + 2) p := fun p => f _ _ (by omega)
  have f3 : w' 1 6 = w 1 6 := f _ _ (by omega)
  refine ⟨⟨by rw [← f 1 1 (by omega)]; exact hn.1, by rw [← f 1 9 (by omega)]; exact hn.2⟩, ⟨h0, by omega, by omega⟩, fun _ => ⟨stb.of (fun p _ _ => f2 p), fun G => ?_⟩⟩
  obtain ⟨g1, g2, g3, g4⟩ := G
  have st : stb w w' cd (w cd 0) := stb.of (fun p _ _ => f2 p)
  have hn' : (0 : Int) = 0 → w cd 0 < w' cd 0 → 40 ≤ w' (cd + 2) (w cd 0) % 64 := fun _ g => by omega
  refine ⟨g1.to (by omega) (by omega) st (by omega) hn', fun n a b c => ?_, ?_, fun p a b => ?_⟩
  · by_cases e : n = w 1 14
    · rw [e, h2]; exact ⟨by omega, fun g => by omega⟩
    · rw [h3 n e]; exact (g2 n a b (by omega)).to (by omega) (by omega) st (by omega) hn'
  · rw [f1]; exact (kcl_eq st).trans g3
  · rw [f2 p]; rw [f1] at b
    exact (g4 p a b).to ⟨a, b⟩ (by omega) (by omega) st (by omega) hn'
theorem codK.eq (h : ∀ c k, (c = cd ∨ c = cd + 1 ∨ c = cd + 2) → u c k = v c k) (q : codK v cd) : codK u cd := by
  obtain ⟨op, od, cl, q1, q2, q3⟩ := q
  exact ⟨op, od, cl, q1.eq (fun c k g => h c k (by omega)), q2, q3.eq (fun c k g => h c k (by omega))⟩
/-- what has been read so far, between routines -/
def rtJ (v : eW) (cd : Int) : Prop := nF v → (v cd 0 = 0 ∨ v cd 0 + 1 ≤ v 1 6) ∧ (v cd 0 < 4000 → zGI v cd 0 0)
theorem rtJ.zero (h : v cd 0 = 0) (h14 : v 1 14 = 0) : rtJ v cd := fun _ => ⟨Or.inl h, fun _ => zGI.zero h h14⟩
theorem rtJ.step (J : rtJ v cd) (h6 : 0 ≤ v 1 6) (g : gS v u cd (-1) 0 0 0 0) : rtJ u cd := fun hn => by
  obtain ⟨n0, ⟨b1, b2, b3⟩, b4⟩ := g hn
  obtain ⟨j1, j2⟩ := J n0
  exact ⟨Or.inr (by omega), fun hl => (b4 hl).2 (j2 (by omega))⟩
theorem rtJ.fin (J : rtJ v cd) (hc : isCd cd) (h0 : 0 ≤ v cd 0) (h6 : v 1 6 ≤ 4000) (hn : nF v) (hL : u cd 0 = v cd 0) (hf : fR v u cd (v cd 0) n) (hr : n ≤ 32 ∧ n ≤ v 1 14) (h1 : u cd 1 = n) (he : ∀ k, u (cd + 1) k = v (cd + 1) k) : codK u cd := by
  obtain ⟨j1, j2⟩ := J hn
  exact cod_ok hc (j2 (by omega)) h0 hL hf hr h1 he
end CO
end
