-- part do
section
noncomputable section
/-! the class's reader: a text without a fault gives a program in order -/
def isCl (k : Int) : Prop := k = 33 ∨ k = 34 ∨ k = 39
/-- the names of routines have been looked up below i -/
def fR (w v : eW) (cd i n : Int) : Prop := ∀ p, 0 ≤ p → p < w cd 0 → (v (cd + 2) p = w (cd + 2) p ∧ (i ≤ p ∨ ¬ isCl (w (cd + 2) p % 64))) ∨ (isCl (w (cd + 2) p % 64) ∧ v (cd + 2) p % 64 = w (cd + 2) p % 64 ∧ 0 ≤ v (cd + 2) p ∧ v (cd + 2) p / 64 < n)
def codK (w : eW) (cd : Int) : Prop := ∃ op od cl : Int → Int, kCd w cd op od ∧ cD op od cl ∧ kCe w cd op od
section CO
variable {w v u : eW} {cd i n p x : Int}
theorem fR.start (i : Int) (h : i ≤ 0) : fR w w cd i n := fun p g1 g2 => Or.inl ⟨rfl, Or.inl (by omega)⟩
theorem fR.skip (h : fR w v cd i n) (hp : ¬ isCl (v (cd + 2) i % 64)) : fR w v cd (i + 1) n := fun p g1 g2 => by
  rcases h p g1 g2 with ⟨q1, q2⟩ | q
  · by_cases e : p = i
    · subst e; rw [q1] at hp; exact Or.inl ⟨q1, Or.inr hp⟩
    · refine Or.inl ⟨q1, ?_⟩
      rcases q2 with q2 | q2
      · exact Or.inl (by omega)
      · exact Or.inr q2
  · exact Or.inr q
theorem fR.pat (h : fR w v cd i n) (hp : isCl (v (cd + 2) i % 64)) (q : paQ v u cd i x) (hi : 0 ≤ i ∧ i < v cd 0) (hx : 0 ≤ x ∧ x < n) : fR w u cd (i + 1) n := fun p g1 g2 => by
  rcases q with ⟨a1, a2, a3, a4⟩ | ⟨a1, a2⟩
  · by_cases e : p = i
    · subst e
      have o : v (cd + 2) p % 64 = w (cd + 2) p % 64 := by
        rcases h p g1 g2 with ⟨q1, q2⟩ | q
        · rw [q1]
        · exact q.2.1
      refine Or.inr ⟨by rw [← o]; exact hp, ?_, ?_, ?_⟩
      · rw [a3]; omega
      · rw [a3]; omega
      · rw [a3]; omega
    · rw [a4 p e]
      rcases h p g1 g2 with ⟨q1, q2⟩ | q
      · refine Or.inl ⟨q1, ?_⟩
        rcases q2 with q2 | q2
        · exact Or.inl (by omega)
        · exact Or.inr q2
      · exact Or.inr q
  · omega
theorem cod_ok (hc : isCd cd) (G : zGI w cd 0 0) (h0 : 0 ≤ w cd 0) (hL : v cd 0 = w cd 0) (hf : fR w v cd (w cd 0) n) (hn : n ≤ 32 ∧ n ≤ w 1 14) (h1 : v cd 1 = n) (he : ∀ k, v (cd + 1) k = w (cd + 1) k) : codK v cd := by
  obtain ⟨g1, g2, g3, g4⟩ := G
  have hop : ∀ p, 0 ≤ p → p < w cd 0 → v (cd + 2) p % 64 = w (cd + 2) p % 64 := fun p a b => by
    rcases hf p a b with q | q
    · rw [q.1]
    · exact q.2.1
  have hsm : ∀ p, 0 ≤ p → p < w cd 0 → ¬ isCl (w (cd + 2) p % 64) → v (cd + 2) p = w (cd + 2) p := fun p a b c => by
    rcases hf p a b with q | q
    · exact q.1
    · exact absurd q.1 c
  have hcl : ∀ p, 0 ≤ p → p < w cd 0 → isCl (w (cd + 2) p % 64) → 0 ≤ v (cd + 2) p ∧ v (cd + 2) p / 64 < n := fun p a b c => by
    rcases hf p a b with q | q
    · rcases q.2 with k | k
      · omega
      · exact absurd c k
    · exact q.2.2
  have kc : ∀ x, x ≤ w cd 0 → kcl v cd x = kcl w cd x := fun x hx => by
    unfold kcl
    refine colR_eq2 _ (fun p a b => ?_)
    rcases hf p a (by omega) with q | q
    · exact Or.inl q.1
    · exact Or.inr ⟨by have := q.1; unfold isCl at this; omega, q.2.1⟩
  obtain ⟨op, ho⟩ : ∃ f : Int → Int, ∀ p, f p = if 0 ≤ p ∧ p < w cd 0 then v (cd + 2) p % 64 else 43 := ⟨_, fun _ => rfl⟩
  obtain ⟨od, hd⟩ : ∃ f : Int → Int, ∀ p, f p = if 0 ≤ p ∧ p < w cd 0 then v (cd + 2) p / 64 else 0 := ⟨_, fun _ => rfl⟩
  obtain ⟨cl, hl⟩ : ∃ f : Int → Int, ∀ p, f p = if 0 ≤ p ∧ p ≤ w cd 0 then kcl w cd p else 0 := ⟨_, fun _ => rfl⟩
  have o1 : ∀ p, 0 ≤ p ∧ p < w cd 0 → op p = w (cd + 2) p % 64 := fun p a => by rw [ho, if_pos a]; exact hop p a.1 a.2
  have o2 : ∀ p, ¬ (0 ≤ p ∧ p < w cd 0) → op p = 43 := fun p a => by rw [ho, if_neg a]
  have d1 : ∀ p, 0 ≤ p ∧ p < w cd 0 → od p = v (cd + 2) p / 64 := fun p a => by rw [hd, if_pos a]
  have d2 : ∀ p, ¬ (0 ≤ p ∧ p < w cd 0) → od p = 0 := fun p a => by rw [hd, if_neg a]
  have l1 : ∀ p, 0 ≤ p ∧ p ≤ w cd 0 → cl p = kcl w cd p := fun p a => by rw [hl, if_pos a]
  have l2 : ∀ p, ¬ (0 ≤ p ∧ p ≤ w cd 0) → cl p = 0 := fun p a => by rw [hl, if_neg a]
  have in_of : ∀ p, op p ≠ 43 → 0 ≤ p ∧ p < w cd 0 := fun p a => Classical.byContradiction (fun b => a (o2 p b))
  have rf : ∀ q, rfo w cd 0 q → 40 ≤ op q := fun q a => by
    by_cases b : 0 ≤ q ∧ q < w cd 0
    · rw [o1 q b]; exact a.2 b.2
    · rw [o2 q b]; omega
  have sm : ∀ p, 0 ≤ p ∧ p < w cd 0 → ¬ isCl (op p) → od p = w (cd + 2) p / 64 := fun p a b => by
    rw [d1 p a, hsm p a.1 a.2 (by rw [← o1 p a]; exact b)]
  have cD_ : cD op od cl := by
    refine ⟨rf 0 g1, fun q hq => ?_, fun p => ⟨fun h => ?_, fun h => ?_, fun h => ?_, fun h => ?_, fun h => ?_, fun h => ?_, fun h => ?_, fun h => ?_, fun h => ?_, fun h => ?_⟩⟩
    · by_cases a : 0 ≤ q ∧ q ≤ w cd 0
      · rw [l1 q a]
        by_cases b : q < w cd 0
        · rw [o1 q ⟨a.1, b⟩] at hq
          exact (g4 q a.1 b).2.2.2.2.2.2.2.2.2.2 hq
        · rw [show q = w cd 0 by omega, g3]; omega
      · rw [l2 q a]; omega
    · have a := in_of p (by omega)
      have r := (g4 p a.1 a.2).2.1
      by_cases c : isCl (op p)
      · have := hcl p a.1 a.2 (by rw [← o1 p a]; exact c)
        rw [d1 p a]; omega
      · rw [sm p a c]
        exact r (by rw [o1 p a] at h; unfold isCl at c; rw [o1 p a] at c; omega)
    · have a := in_of p (by omega)
      rw [sm p a (by unfold isCl; omega)]
      exact rf _ ((g4 p a.1 a.2).2.2.1 (by rw [o1 p a] at h; exact h))
    · have a := in_of p (by omega)
      exact rf _ ((g4 p a.1 a.2).2.2.2.1 (by rw [o1 p a] at h; exact h))
    · have a := in_of p (by omega)
      obtain ⟨q1, q2, q3, q4⟩ := (g4 p a.1 a.2).2.2.2.2.1 (by rw [o1 p a] at h; exact h)
      exact ⟨by rw [o1 _ (by omega)]; exact q2, by rw [o1 _ (by omega)]; exact q3, by rw [o1 _ (by omega)]; exact q4⟩
    · have a := in_of p (by omega)
      have p0 := (g4 p a.1 a.2).1
      obtain ⟨q1, q2⟩ := (g4 p a.1 a.2).2.2.2.2.2.1 (by rw [o1 p a] at h; exact h)
      rw [sm p a (by unfold isCl; omega), o1 _ (by omega)]
      exact q2
    · have a := in_of p (by omega)
      rw [l1 p (by omega), l1 (p + 1) (by omega), kcl_S a.1]
      rw [o1 p a] at h
      rw [if_neg (by omega), if_pos h]
      omega
    · have a := in_of p (by omega)
      have p0 := (g4 p a.1 a.2).1
      obtain ⟨q1, q2⟩ := (g4 p a.1 a.2).2.2.2.2.2.2.1 (by rw [o1 p a] at h; exact h)
      rw [sm p a (by unfold isCl; omega), l1 p (by omega), l1 _ (by omega)]
      exact q2
    · have a := in_of p (by omega)
      have q := (g4 p a.1 a.2).2.2.2.2.2.2.2.1 (by rw [o1 p a] at h; exact h)
      rw [sm p a (by unfold isCl; omega), l1 p (by omega), l1 (p + 1) (by omega), kcl_S a.1]
      rw [o1 p a] at h
      rw [if_pos h, q]
      exact ⟨Int.le_refl _, rfl⟩
    · have a := in_of p (by omega)
      have q := (g4 p a.1 a.2).2.2.2.2.2.2.2.2.1 (by rw [o1 p a] at h; exact h)
      rw [sm p a (by unfold isCl; omega), l1 p (by omega)]
      exact q
    · have a := in_of p (by omega)
      have p0 := (g4 p a.1 a.2).1
      obtain ⟨q1, q2⟩ := (g4 p a.1 a.2).2.2.2.2.2.2.2.2.2.1 (by rw [o1 p a] at h; exact h)
      rw [sm p a (by unfold isCl; omega), l1 _ (by omega)]
      exact q2
  refine ⟨op, od, cl, ⟨hc, fun p => ⟨fun a b => ?_, fun a => ?_⟩⟩, cD_, ⟨fun k a b => ?_, fun p h => ?_⟩⟩
  · rw [hL] at b
    refine ⟨?_, by rw [ho, if_pos ⟨a, b⟩], d1 p ⟨a, b⟩⟩
    rcases hf p a b with q | q
    · rw [q.1]; exact (g4 p a b).1.1
    · exact q.2.2.1
  · rw [hL] at a
    exact ⟨o2 p a, d2 p a⟩
  · rw [he k]
    exact rf _ (g2 k a (by omega) (by omega))
  · have a := in_of p (by omega)
    have := hcl p a.1 a.2 (by rw [← o1 p a]; exact h)
    rw [d1 p a, h1]
    exact this.2
/-- nothing written yet -/
theorem zGI.zero (h : w cd 0 = 0) (h14 : w 1 14 = 0) : zGI w cd 0 0 := by
  refine ⟨⟨by omega, fun g => by omega⟩, fun n a b c => by omega, ?_, fun p a b => by omega⟩
  rw [h]; rfl
/-- a routine's place and name -/
theorem gS.rt {w' : eW} (h0 : 0 ≤ w cd 0) (hc : isCd cd) (f : e_fr (fun c k => c = cd + 1 ∨ c = 7 ∨ (c = 1 ∧ k = 14)) w w') (h1 : w' 1 14 = w 1 14 + 1) (h2 : w' (cd + 1) (w 1 14) = w cd 0) (h3 : ∀ k, k ≠ w 1 14 → w' (cd + 1) k = w (cd + 1) k) : gS w w' cd 0 0 0 0 0 := fun hn => by
  unfold isCd at hc
  have f1 : w' cd 0 = w cd 0 := f _ _ (by omega)
  have f2 : ∀ p, w' (cd + 2) p = w (cd + 2) p := fun p => f _ _ (by omega)
  have f3 : w' 1 6 = w 1 6 := f _ _ (by omega)
  refine ⟨⟨by rw [← f 1 1 (by omega)]; exact hn.1, by rw [← f 1 9 (by omega)]; exact hn.2⟩, ⟨h0, by omega, by omega⟩, fun _ => ⟨stb.of (fun p _ _ => f2 p), fun G => ?_⟩⟩
  obtain ⟨g1, g2, g3, g4⟩ := G
  have st : stb w w' cd (w cd 0) := stb.of (fun p _ _ => f2 p)
  have hn' : (0 : Int) = 0 → w cd 0 < w' cd 0 → 40 ≤ w' (cd + 2) (w cd 0) % 64 := fun _ g => by omega
  refine ⟨g1.to (by omega) (by omega) st (by omega) hn', fun n a b c => ?_, ?_, fun p a b => ?_⟩
  · by_cases e : n = w 1 14
    · rw [e, h2]; exact ⟨by omega, fun g => by omega⟩
    · rw [h3 n e]; exact (g2 n a b (by omega)).to (by omega) (by omega) st (by omega) hn'
  · rw [f1]; exact (kcl_eq st).trans g3
  · rw [f2 p]; rw [f1] at b
    exact (g4 p a b).to ⟨a, b⟩ (by omega) (by omega) st (by omega) hn'
theorem codK.eq (h : ∀ c k, (c = cd ∨ c = cd + 1 ∨ c = cd + 2) → u c k = v c k) (q : codK v cd) : codK u cd := by
  obtain ⟨op, od, cl, q1, q2, q3⟩ := q
  exact ⟨op, od, cl, q1.eq (fun c k g => h c k (by omega)), q2, q3.eq (fun c k g => h c k (by omega))⟩
/-- what has been read so far, between routines -/
def rtJ (v : eW) (cd : Int) : Prop := nF v → (v cd 0 = 0 ∨ v cd 0 + 1 ≤ v 1 6) ∧ (v cd 0 < 4000 → zGI v cd 0 0)
theorem rtJ.zero (h : v cd 0 = 0) (h14 : v 1 14 = 0) : rtJ v cd := fun _ => ⟨Or.inl h, fun _ => zGI.zero h h14⟩
theorem rtJ.step (J : rtJ v cd) (h6 : 0 ≤ v 1 6) (g : gS v u cd (-1) 0 0 0 0) : rtJ u cd := fun hn => by
  obtain ⟨n0, ⟨b1, b2, b3⟩, b4⟩ := g hn
  obtain ⟨j1, j2⟩ := J n0
  exact ⟨Or.inr (by omega), fun hl => (b4 hl).2 (j2 (by omega))⟩
theorem rtJ.fin (J : rtJ v cd) (hc : isCd cd) (h0 : 0 ≤ v cd 0) (h6 : v 1 6 ≤ 4000) (hn : nF v) (hL : u cd 0 = v cd 0) (hf : fR v u cd (v cd 0) n) (hr : n ≤ 32 ∧ n ≤ v 1 14) (h1 : u cd 1 = n) (he : ∀ k, u (cd + 1) k = v (cd + 1) k) : codK u cd := by
  obtain ⟨j1, j2⟩ := J hn
  exact cod_ok hc (j2 (by omega)) h0 hL hf hr h1 he
end CO
end
end
-- part dp
section
noncomputable section
/-! the class: the reader, texts -/
def kRv (cd : Int) (c k : Int) : Prop := (c = 1 ∧ (k = 1 ∨ k = 2 ∨ (5 ≤ k ∧ k ≤ 10))) ∨ (c = cd ∧ k = 2) ∨ c = 6
def kRr (cd : Int) (c k : Int) : Prop := (c = 1 ∧ (k = 1 ∨ k = 2 ∨ (5 ≤ k ∧ k ≤ 14))) ∨ (c = cd ∧ 0 ≤ k ∧ k ≤ 2) ∨ c = cd + 1 ∨ c = cd + 2 ∨ c = 6 ∨ c = 7
def kRf (cd : Int) (c k : Int) : Prop := (c = 1 ∧ (k = 9 ∨ k = 10)) ∨ (c = cd ∧ k = 1) ∨ c = cd + 2
def kCl0 (cd : Int) (c k : Int) : Prop := c = cd ∧ 0 ≤ k ∧ k ≤ 2
def kXc (a : Int) (c k : Int) : Prop := c = 17 * a + 86 ∧ k = 7
def kPg (cd a : Int) (c k : Int) : Prop := kRr cd c k ∨ (c = 1 ∧ (k = 0 ∨ k = 3)) ∨ (c = 17 * a + 86 ∧ k = 7)
theorem no_dp_0 : ¬ kRk 1 3 := by unfold kRk; omega
theorem no_dp_1 : ¬ kRc 1 6 := by unfold kRc; omega
theorem no_dp_2 : ¬ kRc 1 3 := by unfold kRc; omega
theorem no_dp_3 : ¬ kRc 1 15 := by unfold kRc; omega
theorem su_dp_23 {cd : Int} {c k : Int} (q : kRk c k) : kRv cd c k := by
  unfold kRk at q
  rcases q with ⟨q, (q | q | ⟨q, q⟩)⟩
  · exact Or.inl ⟨(by omega), Or.inl (by omega)⟩
  · exact Or.inl ⟨(by omega), Or.inr (Or.inl (by omega))⟩
  · exact Or.inl ⟨(by omega), Or.inr (Or.inr ⟨(by omega), (by omega)⟩)⟩
theorem su_dp_24 {cd : Int} {c k : Int} (q : kRc c k) : kRv cd c k := by
  unfold kRc at q
  rcases q with ⟨q, (q | q)⟩
  · exact Or.inl ⟨(by omega), Or.inr (Or.inr ⟨(by omega), (by omega)⟩)⟩
  · exact Or.inl ⟨(by omega), Or.inr (Or.inr ⟨(by omega), (by omega)⟩)⟩
set_option maxHeartbeats 4000000 in
theorem c_141 {d : Nat} (hd : 27 ≤ d) {w : eW} {cd : Int} (hS : rS w cd) : e_Ok 20 elay kcode eI d 141 (0, [(0, (1, 1))], [], w) (fun r w' => r = [] ∧ e_fr (kRv cd) w w' ∧ rS w' cd ∧ (nF w' → nF w ∧ w 1 6 ≤ w' 1 6)) := by
  obtain ⟨d, rfl⟩ : ∃ e, d = e + 1 := ⟨d - 1, by omega⟩
  obtain ⟨hT, hH, hc, hcd, hk⟩ := hS
  have hcd2 := hcd; unfold isCd at hcd2
  have hcd3 : 2 ≤ cd ∧ cd ≤ 145 := by omega
  have p1 := e_Has.get hH (c := 1) (k := 1) (lo := (-2147483648)) (hi := 2147483647) rfl (by decide)
  have p5 := e_Has.get hH (c := 1) (k := 5) (lo := 0) (hi := 53) rfl (by decide)
  have p6 := e_Has.get hH (c := 1) (k := 6) (lo := 0) (hi := 4000) rfl (by decide)
  have p9 := e_Has.get hH (c := 1) (k := 9) (lo := (-2147483648)) (hi := 2147483647) rfl (by decide)
  have p14 := e_Has.get hH (c := 1) (k := 14) (lo := 0) (hi := 500) rfl (by decide)
  have n0 : nF w → nF w ∧ w 1 6 ≤ w 1 6 := fun n => ⟨n, Int.le_refl _⟩
  have pV := e_Has.get hT (c := cd) (k := 2) (lo := 0) (hi := 32) (kD_2 hcd) (by decide)
  refine e_Ok.ps1 (x := (1, 1)) (q := 1) 1 rfl ?_
  have h1 := (e_Has.get hH (c := 1) (k := 5) (lo := 0) (hi := 53) rfl (by decide))
  refine e_Ok.getf (z := w 1 5) rfl (el_o rfl) rfl rfl rfl (e_bq h1 (by decide) (by decide)) ?_
  refine e_Ok.ps1 (x := (0, 1)) (q := 5) 1 rfl ?_
  refine e_Ok.if2 rfl (fun h2 => ?_) (fun h2 => ?_)
  · replace h2 : (w 1 5 : Int) ≠ 1 := h2
    refine e_Ok.ps2 (x := (0, 1)) (y := (1, 1)) (q := 68) 2 rfl ?_
    refine e_Ok.callV rfl (e_dq hd rfl) rfl rfl rfl rfl (c_129 (e_dq hd rfl) hT hH hk (by omega)) (fun r3 w4 h5 => ?_)
    obtain ⟨rfl, q6f, q6T, q6H, q6k, q6x⟩ := h5
    have n8 : nF w4 → nF w ∧ w 1 6 ≤ w4 1 6 := fun n => by have m := hk.a0; have h := q6x n; have g := n0 h.1; exact ⟨g.1, by omega⟩
    refine e_Ok.nrm (q := 71) (st' := []) rfl rfl ?_
    refine e_Ok.rets rfl rfl ?_
    exact ⟨rfl, (show e_fr (kRv cd) w w4 from e_fr.trans (e_fr.refl w) (e_fr.mono q6f (fun c k q => by first | exact su_dp_23 q | (unfold kRk at q; unfold kRv; omega)))), ⟨q6T, q6H, ((q6f 1 3 no_dp_0).trans hc), hcd, q6k⟩, n8⟩
  · replace h2 : (w 1 5 : Int) = 1 := Classical.not_not.mp (show ¬ ((w 1 5 : Int) ≠ 1) from h2)
    refine e_Ok.ps1 (x := (1, 1)) (q := 9) 1 rfl ?_
    refine e_Ok.callV rfl (e_dq hd rfl) rfl rfl rfl rfl (c_139 (e_dq hd rfl) hT hH hk hc hcd) (fun r9 w10 h11 => ?_)
    obtain ⟨rfl, q12f, q12T, q12H, q12k, q12x⟩ := h11
    have f14 : e_fr (kRv cd) w w10 := e_fr.trans (e_fr.refl w) (e_fr.mono q12f (fun c k q => by first | exact su_dp_24 q | (unfold kRc at q; unfold kRv; omega)))
    have n15 : nF w10 → nF w ∧ w 1 6 ≤ w10 1 6 := fun n => by have g := n0 (q12x n); exact ⟨g.1, by rw [q12f 1 6 no_dp_1]; exact g.2⟩
    refine e_Ok.nrm (q := 12) (st' := []) rfl rfl ?_
    refine e_Ok.ps1 (x := (1, 1)) (q := 13) 1 rfl ?_
    refine e_Ok.getr (z := cd) rfl (el_o rfl) rfl rfl ((q12f 1 3 no_dp_2).trans hc) (by omega) ?_
    have h16 := (e_Has.get hT (c := cd) (k := 2) (lo := 0) (hi := 32) (kD_2 hcd) (by decide))
    refine e_Ok.getf (z := w cd 2) rfl (lD0 hcd) rfl rfl ((q12f cd 2 (by unfold kRc; omega)).trans rfl) (e_bq h16 (by decide) (by decide)) ?_
    refine e_Ok.ps1 (x := (0, 32)) (q := 21) 1 rfl ?_
    refine e_Ok.if2 rfl (fun h17 => ?_) (fun h17 => ?_)
    · replace h17 : (w cd 2 : Int) ≥ 32 := h17
      refine e_Ok.ps3 (x := (1, 1)) (y := (0, 7)) (z := (1, 1)) (q := 60) 3 rfl ?_
      have h18 := (e_Has.get hH (c := 1) (k := 6) (lo := 0) (hi := 4000) rfl (by decide))
      refine e_Ok.getf (z := w 1 6) rfl (el_o rfl) rfl rfl ((q12f 1 6 no_dp_1).trans rfl) (e_bq h18 (by decide) (by decide)) ?_
      refine e_Ok.callV rfl (e_dq hd rfl) rfl rfl rfl rfl (c_133 q12T q12H q12k (by omega) (by omega)) (fun r19 w20 h21 => ?_)
      obtain ⟨rfl, q22f, q22T, q22H, q22k, q22n⟩ := h21
      have n24 : nF w20 → nF w ∧ w 1 6 ≤ w20 1 6 := fun n => absurd n q22n
      refine e_Ok.nrm (q := 66) (st' := []) rfl rfl ?_
      refine e_Ok.ps2 (x := (0, 1)) (y := (1, 1)) (q := 68) 2 rfl ?_
      refine e_Ok.callV rfl (e_dq hd rfl) rfl rfl rfl rfl (c_129 (e_dq hd rfl) q22T q22H q22k (by omega)) (fun r25 w26 h27 => ?_)
      obtain ⟨rfl, q28f, q28T, q28H, q28k, q28x⟩ := h27
      have n30 : nF w26 → nF w ∧ w 1 6 ≤ w26 1 6 := fun n => by have m := q22k.a0; have h := q28x n; have g := n24 h.1; exact ⟨g.1, by omega⟩
      refine e_Ok.nrm (q := 71) (st' := []) rfl rfl ?_
      refine e_Ok.rets rfl rfl ?_
      exact ⟨rfl, (show e_fr (kRv cd) w w26 from e_fr.trans (show e_fr (kRv cd) w w20 from e_fr.trans f14 (e_fr.mono q22f (fun c k q => by first | exact su_dp_24 q | (unfold kRc at q; unfold kRv; omega)))) (e_fr.mono q28f (fun c k q => by first | exact su_dp_23 q | (unfold kRk at q; unfold kRv; omega)))), ⟨q28T, q28H, ((q28f 1 3 no_dp_0).trans ((q22f 1 3 no_dp_2).trans ((q12f 1 3 no_dp_2).trans hc))), hcd, q28k⟩, n30⟩
    · replace h17 : (w cd 2 : Int) < 32 := Int.not_le.mp (show ¬ ((w cd 2 : Int) ≥ 32) from h17)
      refine e_Ok.ps1 (x := (1, 1)) (q := 25) 1 rfl ?_
      refine e_Ok.getr (z := 6) rfl (el_o rfl) rfl rfl ((q12f 1 15 no_dp_3).trans (e_Has.eq hT (kt_o rfl))) ⟨by decide, by decide⟩ ?_
      refine e_Ok.ps1 (x := (1, 1)) (q := 29) 1 rfl ?_
      refine e_Ok.getr (z := cd) rfl (el_o rfl) rfl rfl ((q12f 1 3 no_dp_2).trans hc) (by omega) ?_
      refine e_Ok.getf (z := w cd 2) rfl (lD0 hcd) rfl rfl ((q12f cd 2 (by unfold kRc; omega)).trans rfl) (by omega) ?_
      refine e_Ok.ps1 (x := (1, 1)) (q := 36) 1 rfl ?_
      have h31 := (e_Has.get hH (c := 1) (k := 6) (lo := 0) (hi := 4000) rfl (by decide))
      refine e_Ok.getf (z := w 1 6) rfl (el_o rfl) rfl rfl ((q12f 1 6 no_dp_1).trans rfl) (e_bq h31 (by decide) (by decide)) ?_
      refine e_Ok.ast rfl (el_o rfl) rfl rfl (by omega) ?_
      generalize hw32 : e_up w10 6 (w cd 2) (w 1 6) = w32
      have hT34 : e_Has kTy w32 := e_Has.ups q12T hw32 (kt_o rfl)
      have hH35 : e_Has kRy w32 := e_Has.upr q12H hw32 rfl (by omega)
      have n37 : nF w32 → nF w ∧ w 1 6 ≤ w32 1 6 := fun n => by have g := n15 ⟨by rw [← (show w32 1 1 = w10 1 1 from by rw [← hw32]; exact e_up_ne _ _ (by omega))]; exact n.1, by rw [← (show w32 1 9 = w10 1 9 from by rw [← hw32]; exact e_up_ne _ _ (by omega))]; exact n.2⟩; exact ⟨g.1, by rw [show w32 1 6 = w10 1 6 from by rw [← hw32]; exact e_up_ne _ _ (by omega)]; exact g.2⟩
      refine e_Ok.ps1 (x := (1, 1)) (q := 41) 1 rfl ?_
      refine e_Ok.getr (z := cd) rfl (el_o rfl) rfl rfl (e_uq hw32 (Or.inl (by decide)) ((q12f 1 3 no_dp_2).trans hc)) (by omega) ?_
      refine e_Ok.ps1 (x := (1, cd)) (q := 45) 1 rfl ?_
      refine e_Ok.getf (z := w cd 2) rfl (lD0 hcd) rfl rfl (e_uq hw32 (Or.inl (by omega)) ((q12f cd 2 (by unfold kRc; omega)).trans rfl)) (by omega) ?_
      refine e_Ok.ps1 (x := (0, 1)) (q := 49) 1 rfl ?_
      refine e_Ok.add (z := w cd 2 + 1) rfl rfl (by omega) ?_
      refine e_Ok.putf rfl (lD0 hcd) rfl rfl ?_
      generalize hw38 : e_up w32 cd 2 (w cd 2 + 1) = w38
      have hT41 : e_Has kTy w38 := e_Has.upr hT34 hw38 (kD_2 hcd) (by omega)
      have hH42 : e_Has kRy w38 := e_Has.ups hH35 hw38 (kRy_D (by omega) (by omega))
      have t43 : tkR w38 := (show tkR w32 from q12k.eq (fun k g => by rw [← hw32]; exact e_up_ne _ _ (by omega))).eq (fun k g => by rw [← hw38]; exact e_up_ne _ _ (by omega))
      have n44 : nF w38 → nF w ∧ w 1 6 ≤ w38 1 6 := fun n => by have g := n37 ⟨by rw [← (show w38 1 1 = w32 1 1 from by rw [← hw38]; exact e_up_ne _ _ (by omega))]; exact n.1, by rw [← (show w38 1 9 = w32 1 9 from by rw [← hw38]; exact e_up_ne _ _ (by omega))]; exact n.2⟩; exact ⟨g.1, by rw [show w38 1 6 = w32 1 6 from by rw [← hw38]; exact e_up_ne _ _ (by omega)]; exact g.2⟩
      refine e_Ok.ps2 (x := (0, 1)) (y := (1, 1)) (q := 68) 3 rfl ?_
      refine e_Ok.callV rfl (e_dq hd rfl) rfl rfl rfl rfl (c_129 (e_dq hd rfl) hT41 hH42 t43 (by omega)) (fun r45 w46 h47 => ?_)
      obtain ⟨rfl, q48f, q48T, q48H, q48k, q48x⟩ := h47
      have n50 : nF w46 → nF w ∧ w 1 6 ≤ w46 1 6 := fun n => by have m := t43.a0; have h := q48x n; have g := n44 h.1; exact ⟨g.1, by omega⟩
      refine e_Ok.nrm (q := 71) (st' := []) rfl rfl ?_
      refine e_Ok.rets rfl rfl ?_
      exact ⟨rfl, (show e_fr (kRv cd) w w46 from e_fr.trans (show e_fr (kRv cd) w w38 from e_fr.up (show e_fr (kRv cd) w w32 from e_fr.up f14 hw32 (by first | exact Or.inr (Or.inr rfl) | (unfold kRv; omega))) hw38 (by first | exact Or.inr (Or.inl ⟨(by omega), rfl⟩) | (unfold kRv; omega))) (e_fr.mono q48f (fun c k q => by first | exact su_dp_23 q | (unfold kRk at q; unfold kRv; omega)))), ⟨q48T, q48H, ((q48f 1 3 no_dp_0).trans (e_uq hw38 (Or.inr (by first | decide | omega)) (e_uq hw32 (Or.inl (by first | decide | omega)) ((q12f 1 3 no_dp_2).trans hc)))), hcd, q48k⟩, n50⟩
theorem no_dp_4 : ¬ kRa 1 1 := by unfold kRa; omega
theorem no_dp_5 : ¬ kRa 1 9 := by unfold kRa; omega
theorem no_dp_6 : ¬ kRa 1 3 := by unfold kRa; omega
theorem no_dp_7 {cd : Int} : ¬ kRv cd 1 3 := by unfold kRv; omega
theorem su_dp_25 {cd : Int} {c k : Int} (q : kRa c k) : kRv cd c k := by
  unfold kRa at q
  rcases q with ⟨q, ⟨q, q⟩⟩
  · exact Or.inl ⟨(by omega), Or.inr (Or.inr ⟨(by omega), (by omega)⟩)⟩
set_option maxHeartbeats 4000000 in
theorem c_140 {d : Nat} (hd : 28 ≤ d) {w : eW} {cd : Int} (hS : rS w cd) : e_Ok 20 elay kcode eI d 140 (0, [(0, (1, 1))], [], w) (fun r w' => r = [] ∧ e_fr (kRv cd) w w' ∧ rS w' cd ∧ (nF w' → nF w ∧ w 1 6 ≤ w' 1 6)) := by
  obtain ⟨d, rfl⟩ : ∃ e, d = e + 1 := ⟨d - 1, by omega⟩
  obtain ⟨hT, hH, hc, hcd, hk⟩ := hS
  have hcd2 := hcd; unfold isCd at hcd2
  have hcd3 : 2 ≤ cd ∧ cd ≤ 145 := by omega
  have p1 := e_Has.get hH (c := 1) (k := 1) (lo := (-2147483648)) (hi := 2147483647) rfl (by decide)
  have p5 := e_Has.get hH (c := 1) (k := 5) (lo := 0) (hi := 53) rfl (by decide)
  have p6 := e_Has.get hH (c := 1) (k := 6) (lo := 0) (hi := 4000) rfl (by decide)
  have p9 := e_Has.get hH (c := 1) (k := 9) (lo := (-2147483648)) (hi := 2147483647) rfl (by decide)
  have p14 := e_Has.get hH (c := 1) (k := 14) (lo := 0) (hi := 500) rfl (by decide)
  have n0 : nF w → nF w ∧ w 1 6 ≤ w 1 6 := fun n => ⟨n, Int.le_refl _⟩
  have pV := e_Has.get hT (c := cd) (k := 2) (lo := 0) (hi := 32) (kD_2 hcd) (by decide)
  refine e_Ok.ps1 (x := (1, 1)) (q := 1) 1 rfl ?_
  refine e_Ok.callV rfl (e_dq hd rfl) rfl rfl rfl rfl (c_123 (e_dq hd rfl) hT hH hk.1.2) (fun r1 w2 h3 => ?_)
  obtain ⟨rfl, q4f, q4T, q4H, q4k, q4x, q44⟩ := h3
  have n6 : nF w2 → nF w ∧ w 1 6 ≤ w2 1 6 := fun n => by have m := hk.a0; have g := n0 ⟨by rw [← q4f 1 1 no_dp_4]; exact n.1, by rw [← q4f 1 9 no_dp_5]; exact n.2⟩; exact ⟨g.1, by omega⟩
  refine e_Ok.nrm (q := 4) (st' := []) rfl rfl ?_
  refine e_Ok.ps1 (x := (1, 1)) (q := 5) 1 rfl ?_
  refine e_Ok.callV rfl (e_dq hd rfl) rfl rfl rfl rfl (c_141 (e_dq hd rfl) ⟨q4T, q4H, ((q4f 1 3 no_dp_6).trans hc), hcd, q4k⟩) (fun r7 w8 h9 => ?_)
  obtain ⟨rfl, q10f, ⟨q10T, q10H, q10c, -, q10k⟩, q10x⟩ := h9
  have n12 : nF w8 → nF w ∧ w 1 6 ≤ w8 1 6 := fun n => by have h := q10x n; have g := n6 h.1; exact ⟨g.1, by omega⟩
  refine e_Ok.nrm (q := 8) (st' := []) rfl rfl ?_
  refine e_Ok.run (t' := (10, [(1, (0, 0)), (0, (1, 1))], [], w8)) 2 rfl ?_
  have hL13 : ∀ (nn : Nat) (y1 : Int) (v1 : eW), e_fr (kRv cd) w v1 ∧ e_Has kTy v1 ∧ e_Has kRy v1 ∧ tkR v1 ∧ ((nF v1 → nF w ∧ w 1 6 ≤ v1 1 6)) ∧ ((0 ≤ y1 ∧ y1 ≤ 4000)) → 4001 - y1 < nn → e_Ok 20 elay kcode eI (d + 1) 140 (10, [(0, (1, 1)), (1, (0, y1))], [], v1) (fun r w' => r = [] ∧ e_fr (kRv cd) w w' ∧ rS w' cd ∧ (nF w' → nF w ∧ w 1 6 ≤ w' 1 6)) := by
    intro nn
    induction nn with
    | zero => intro y1 v1 hj hm; obtain ⟨j15, j16, j17, j18, j19, j20⟩ := hj; exfalso; omega
    | succ nn ih14 =>
      intro y1 v1 hj hm
      obtain ⟨j15, j16, j17, j18, j19, j20⟩ := hj
      refine e_Ok.run (t' := (14, [(0, (1, 1)), (1, (0, y1))], [(0, 4000), (0, y1)], v1)) 2 rfl ?_
      refine e_Ok.if2 rfl (fun h21 => ?_) (fun h21 => ?_)
      · replace h21 : (y1 : Int) ≥ 4000 := h21
        refine e_Ok.ps2 (x := (0, 19)) (y := (1, 1)) (q := 43) 2 rfl ?_
        refine e_Ok.callV rfl (e_dq hd rfl) rfl rfl rfl rfl (c_129 (e_dq hd rfl) j16 j17 j18 (by omega)) (fun r22 w23 h24 => ?_)
        obtain ⟨rfl, q25f, q25T, q25H, q25k, q25x⟩ := h24
        have n27 : nF w23 → nF w ∧ w 1 6 ≤ w23 1 6 := fun n => by have m := j18.a0; have h := q25x n; have g := j19 h.1; exact ⟨g.1, by omega⟩
        refine e_Ok.nrm (q := 46) (st' := []) rfl rfl ?_
        refine e_Ok.rets rfl rfl ?_
        exact ⟨rfl, (show e_fr (kRv cd) w w23 from e_fr.trans j15 (e_fr.mono q25f (fun c k q => by first | exact su_dp_23 q | (unfold kRk at q; unfold kRv; omega)))), ⟨q25T, q25H, ((q25f 1 3 no_dp_0).trans ((j15 1 3 (by first | exact no_dp_7 | (unfold kRv; omega))).trans hc)), hcd, q25k⟩, n27⟩
      · replace h21 : (y1 : Int) < 4000 := Int.not_le.mp (show ¬ ((y1 : Int) ≥ 4000) from h21)
        refine e_Ok.ps1 (x := (1, 1)) (q := 18) 1 rfl ?_
        have h28 := (e_Has.get j17 (c := 1) (k := 5) (lo := 0) (hi := 53) rfl (by decide))
        refine e_Ok.getf (z := v1 1 5) rfl (el_o rfl) rfl rfl rfl (e_bq h28 (by decide) (by decide)) ?_
        refine e_Ok.ps1 (x := (0, 18)) (q := 23) 1 rfl ?_
        refine e_Ok.if2 rfl (fun h29 => ?_) (fun h29 => ?_)
        · replace h29 : (v1 1 5 : Int) ≠ 18 := h29
          refine e_Ok.ps2 (x := (0, 19)) (y := (1, 1)) (q := 43) 2 rfl ?_
          refine e_Ok.callV rfl (e_dq hd rfl) rfl rfl rfl rfl (c_129 (e_dq hd rfl) j16 j17 j18 (by omega)) (fun r30 w31 h32 => ?_)
          obtain ⟨rfl, q33f, q33T, q33H, q33k, q33x⟩ := h32
          have n35 : nF w31 → nF w ∧ w 1 6 ≤ w31 1 6 := fun n => by have m := j18.a0; have h := q33x n; have g := j19 h.1; exact ⟨g.1, by omega⟩
          refine e_Ok.nrm (q := 46) (st' := []) rfl rfl ?_
          refine e_Ok.rets rfl rfl ?_
          exact ⟨rfl, (show e_fr (kRv cd) w w31 from e_fr.trans j15 (e_fr.mono q33f (fun c k q => by first | exact su_dp_23 q | (unfold kRk at q; unfold kRv; omega)))), ⟨q33T, q33H, ((q33f 1 3 no_dp_0).trans ((j15 1 3 (by first | exact no_dp_7 | (unfold kRv; omega))).trans hc)), hcd, q33k⟩, n35⟩
        · replace h29 : (v1 1 5 : Int) = 18 := Classical.not_not.mp (show ¬ ((v1 1 5 : Int) ≠ 18) from h29)
          refine e_Ok.ps1 (x := (1, 1)) (q := 27) 1 rfl ?_
          refine e_Ok.callV rfl (e_dq hd rfl) rfl rfl rfl rfl (c_123 (e_dq hd rfl) j16 j17 j18.1.2) (fun r36 w37 h38 => ?_)
          obtain ⟨rfl, q40f, q40T, q40H, q40k, q40x, q404⟩ := h38
          have n42 : nF w37 → nF w ∧ w 1 6 ≤ w37 1 6 := fun n => by have m := j18.a0; have g := j19 ⟨by rw [← q40f 1 1 no_dp_4]; exact n.1, by rw [← q40f 1 9 no_dp_5]; exact n.2⟩; exact ⟨g.1, by omega⟩
          refine e_Ok.nrm (q := 30) (st' := []) rfl rfl ?_
          refine e_Ok.ps1 (x := (1, 1)) (q := 31) 1 rfl ?_
          refine e_Ok.callV rfl (e_dq hd rfl) rfl rfl rfl rfl (c_141 (e_dq hd rfl) ⟨q40T, q40H, ((q40f 1 3 no_dp_6).trans ((j15 1 3 (by first | exact no_dp_7 | (unfold kRv; omega))).trans hc)), hcd, q40k⟩) (fun r43 w44 h45 => ?_)
          obtain ⟨rfl, q46f, ⟨q46T, q46H, q46c, -, q46k⟩, q46x⟩ := h45
          have n48 : nF w44 → nF w ∧ w 1 6 ≤ w44 1 6 := fun n => by have h := q46x n; have g := n42 h.1; exact ⟨g.1, by omega⟩
          refine e_Ok.nrm (q := 34) (st' := []) rfl rfl ?_
          refine e_Ok.inc (z := y1 + 1) rfl rfl (by first | with_reducible rfl | omega) (by omega) ?_
          show e_Ok 20 elay kcode eI (d + 1) 140 (37, [(1, (0, y1 + 1)), (0, (1, 1))], [], w44) _
          refine e_Ok.ps0 (q := 10) 1 rfl ?_
          refine e_Ok.sub kAlk (e_sub_of rfl ?_) (ih14 (y1 + 1) w44 ⟨(show e_fr (kRv cd) w w44 from e_fr.trans (show e_fr (kRv cd) w w37 from e_fr.trans j15 (e_fr.mono q40f (fun c k q => by first | exact su_dp_25 q | (unfold kRa at q; unfold kRv; omega)))) (e_fr.mono q46f (fun c k q => by exact q))), q46T, q46H, q46k, n48, (by omega)⟩ (by omega))
          exact ⟨rfl, rfl, trivial⟩
  refine e_Ok.sub kAlk (e_sub_of rfl ?_) (hL13 (4001 + 1 : Int).toNat 0 w8 ⟨(show e_fr (kRv cd) w w8 from e_fr.trans (show e_fr (kRv cd) w w2 from e_fr.trans (e_fr.refl w) (e_fr.mono q4f (fun c k q => by first | exact su_dp_25 q | (unfold kRa at q; unfold kRv; omega)))) (e_fr.mono q10f (fun c k q => by exact q))), q10T, q10H, q10k, n12, (by omega)⟩ (by omega))
  exact ⟨rfl, rfl, trivial⟩
theorem no_dp_8 : ¬ kRk 1 11 := by unfold kRk; omega
theorem no_dp_9 : ¬ kRa 1 11 := by unfold kRa; omega
theorem no_dp_10 : ¬ kRc 1 14 := by unfold kRc; omega
theorem no_dp_11 : ¬ kRa 1 14 := by unfold kRa; omega
theorem no_dp_12 : ¬ kRc 1 11 := by unfold kRc; omega
theorem no_dp_13 : ¬ kRc 1 16 := by unfold kRc; omega
theorem no_dp_14 : ¬ kRa 1 16 := by unfold kRa; omega
theorem su_dp_26 {cd : Int} {c k : Int} (q : kRa c k) : kRr cd c k := by
  unfold kRa at q
  rcases q with ⟨q, ⟨q, q⟩⟩
  · exact Or.inl ⟨(by omega), Or.inr (Or.inr ⟨(by omega), (by omega)⟩)⟩
theorem su_dp_27 {cd : Int} {c k : Int} (q : kRk c k) : kRr cd c k := by
  unfold kRk at q
  rcases q with ⟨q, (q | q | ⟨q, q⟩)⟩
  · exact Or.inl ⟨(by omega), Or.inl (by omega)⟩
  · exact Or.inl ⟨(by omega), Or.inr (Or.inl (by omega))⟩
  · exact Or.inl ⟨(by omega), Or.inr (Or.inr ⟨(by omega), (by omega)⟩)⟩
theorem su_dp_28 {cd : Int} {c k : Int} (q : kRt cd c k) : kRr cd c k := by
  unfold kRt at q
  rcases q with ⟨q, (q | q | ⟨q, q⟩)⟩ | ⟨q, q⟩ | q
  · exact Or.inl ⟨(by omega), Or.inl (by omega)⟩
  · exact Or.inl ⟨(by omega), Or.inr (Or.inl (by omega))⟩
  · exact Or.inl ⟨(by omega), Or.inr (Or.inr ⟨(by omega), (by omega)⟩)⟩
  · exact Or.inr (Or.inl ⟨(by omega), ⟨(by omega), (by omega)⟩⟩)
  · exact Or.inr (Or.inr (Or.inr (Or.inl (by omega))))
theorem su_dp_29 {cd : Int} {c k : Int} (q : kEm cd c k) : kRr cd c k := by
  unfold kEm at q
  rcases q with ⟨q, q⟩ | q
  · exact Or.inr (Or.inl ⟨(by omega), ⟨(by omega), (by omega)⟩⟩)
  · exact Or.inr (Or.inr (Or.inr (Or.inl (by omega))))
theorem su_dp_30 {cd : Int} {c k : Int} (q : kRc c k) : kRr cd c k := by
  unfold kRc at q
  rcases q with ⟨q, (q | q)⟩
  · exact Or.inl ⟨(by omega), Or.inr (Or.inr ⟨(by omega), (by omega)⟩)⟩
  · exact Or.inl ⟨(by omega), Or.inr (Or.inr ⟨(by omega), (by omega)⟩)⟩
set_option maxHeartbeats 4000000 in
theorem c_142 {d : Nat} (hd : 444 ≤ d) {w : eW} {cd o : Int} (hS : rS w cd) (ho : w 1 11 = o) (hor : 0 ≤ o ∧ o ≤ 30) (h5 : w 1 5 = 22) : e_Ok 20 elay kcode eI d 142 (0, [(0, (1, 1))], [], w) (fun r w' => r = [] ∧ e_fr (kRr cd) w w' ∧ rS w' cd ∧ w' 1 11 = o ∧ gS w w' cd (-1) 0 0 0 0) := by
  obtain ⟨d, rfl⟩ : ∃ e, d = e + 1 := ⟨d - 1, by omega⟩
  obtain ⟨hT, hH, hc, hcd, hk⟩ := hS
  have hcd2 := hcd; unfold isCd at hcd2
  have hcd3 : 2 ≤ cd ∧ cd ≤ 145 := by omega
  have pL := e_Has.get hT (c := cd) (k := 0) (lo := 0) (hi := 4000) (kD_0 hcd) (by decide)
  have p1 := e_Has.get hH (c := 1) (k := 1) (lo := (-2147483648)) (hi := 2147483647) rfl (by decide)
  have p5 := e_Has.get hH (c := 1) (k := 5) (lo := 0) (hi := 53) rfl (by decide)
  have p6 := e_Has.get hH (c := 1) (k := 6) (lo := 0) (hi := 4000) rfl (by decide)
  have p9 := e_Has.get hH (c := 1) (k := 9) (lo := (-2147483648)) (hi := 2147483647) rfl (by decide)
  have p7 := e_Has.get hH (c := 1) (k := 7) (lo := 0) (hi := 4000) rfl (by decide)
  have p12 := e_Has.get hH (c := 1) (k := 12) (lo := 0) (hi := 30) rfl (by decide)
  have p13 := e_Has.get hH (c := 1) (k := 13) (lo := (-1)) (hi := 4000) rfl (by decide)
  have p14 := e_Has.get hH (c := 1) (k := 14) (lo := 0) (hi := 500) rfl (by decide)
  refine e_Ok.ps1 (x := (1, 1)) (q := 1) 1 rfl ?_
  refine e_Ok.callV rfl (e_dq hd rfl) rfl rfl rfl rfl (c_123 (e_dq hd rfl) hT hH hk.1.2) (fun r1 w2 h3 => ?_)
  obtain ⟨rfl, q4f, q4T, q4H, q4k, q4x, q44⟩ := h3
  have f5 : e_fr (kRr cd) w w2 := e_fr.trans (e_fr.refl w) (e_fr.mono q4f (fun c k q => by first | exact su_dp_26 q | (unfold kRa at q; unfold kRr; omega)))
  have x7 : gS w w2 cd (-2) 0 0 0 0 := gS.trans (show gS w w cd 0 0 0 0 0 from gS.refl pL.1) (show gS w w2 cd (-2) 0 0 0 0 from gS.adv hcd ((e_Has.get hT (c := cd) (k := 0) (lo := 0) (hi := 4000) (kD_0 hcd) (by decide)).1) (by omega) q4f q4x (hk.a2 (by omega))) (by omega)
  refine e_Ok.nrm (q := 4) (st' := []) rfl rfl ?_
  refine e_Ok.ps1 (x := (1, 1)) (q := 5) 1 rfl ?_
  have h8 := (e_Has.get q4H (c := 1) (k := 5) (lo := 0) (hi := 53) rfl (by decide))
  refine e_Ok.getf (z := w2 1 5) rfl (el_o rfl) rfl rfl rfl (e_bq h8 (by decide) (by decide)) ?_
  refine e_Ok.ps1 (x := (0, 1)) (q := 9) 1 rfl ?_
  refine e_Ok.if2 rfl (fun h9 => ?_) (fun h9 => ?_)
  · replace h9 : (w2 1 5 : Int) ≠ 1 := h9
    refine e_Ok.ps2 (x := (0, 1)) (y := (1, 1)) (q := 92) 2 rfl ?_
    refine e_Ok.callV rfl (e_dq hd rfl) rfl rfl rfl rfl (c_129 (e_dq hd rfl) q4T q4H q4k (by omega)) (fun r10 w11 h12 => ?_)
    obtain ⟨rfl, q13f, q13T, q13H, q13k, q13x⟩ := h12
    refine e_Ok.nrm (q := 95) (st' := []) rfl rfl ?_
    refine e_Ok.ps2 (x := (0, 20)) (y := (1, 1)) (q := 98) 2 rfl ?_
    refine e_Ok.callV rfl (e_dq hd rfl) rfl rfl rfl rfl (c_129 (e_dq hd rfl) q13T q13H q13k (by omega)) (fun r17 w18 h19 => ?_)
    obtain ⟨rfl, q20f, q20T, q20H, q20k, q20x⟩ := h19
    refine e_Ok.nrm (q := 101) (st' := []) rfl rfl ?_
    refine e_Ok.ps2 (x := (0, 0)) (y := (1, 1)) (q := 103) 2 rfl ?_
    refine e_Ok.putf rfl (el_o rfl) rfl rfl ?_
    generalize hw24 : e_up w18 1 12 0 = w24
    have hT26 : e_Has kTy w24 := e_Has.ups q20T hw24 (kt_o rfl)
    have hH27 : e_Has kRy w24 := e_Has.upr q20H hw24 rfl (by omega)
    have g29 : e_fr (fun c k => c = 1 ∧ 11 ≤ k ∧ k ≤ 13) w18 w24 := fun c k g => by have g2 : ¬ (c = 1 ∧ 11 ≤ k ∧ k ≤ 13) := g; rw [← hw24]; exact e_up_ne _ _ (by omega)
    refine e_Ok.ps2 (x := (0, (-1))) (y := (1, 1)) (q := 108) 2 rfl ?_
    refine e_Ok.putf rfl (el_o rfl) rfl rfl ?_
    generalize hw32 : e_up w24 1 13 (-1) = w32
    have hT34 : e_Has kTy w32 := e_Has.ups hT26 hw32 (kt_o rfl)
    have hH35 : e_Has kRy w32 := e_Has.upr hH27 hw32 rfl (by omega)
    have g37 : e_fr (fun c k => c = 1 ∧ 11 ≤ k ∧ k ≤ 13) w24 w32 := fun c k g => by have g2 : ¬ (c = 1 ∧ 11 ≤ k ∧ k ≤ 13) := g; rw [← hw32]; exact e_up_ne _ _ (by omega)
    refine e_Ok.ps1 (x := (1, 1)) (q := 112) 1 rfl ?_
    refine e_Ok.callV rfl (e_dq hd rfl) rfl rfl rfl rfl (g_blk (o := o) (by omega) (by omega) w32 cd 0 (-1) ⟨hT34, hH35, (e_uq hw32 (Or.inr (by first | decide | omega)) (e_uq hw24 (Or.inr (by first | decide | omega)) ((q20f 1 3 no_dp_0).trans ((q13f 1 3 no_dp_0).trans ((q4f 1 3 no_dp_6).trans hc))))), hcd, (show tkR w32 from (show tkR w24 from q20k.eq (fun k g => by rw [← hw24]; exact e_up_ne _ _ (by omega))).eq (fun k g => by rw [← hw32]; exact e_up_ne _ _ (by omega)))⟩ (e_uq hw32 (Or.inr (by first | decide | omega)) (e_uq hw24 (Or.inr (by first | decide | omega)) ((q20f 1 11 no_dp_8).trans ((q13f 1 11 no_dp_8).trans ((q4f 1 11 no_dp_9).trans ho))))) (e_uq hw32 (Or.inr (by first | decide | omega)) (e_ue hw24)) (by omega) (e_ue hw32) (Or.inl rfl) trivial) (fun r41 w42 h43 => ?_)
    obtain ⟨rfl, q44f, ⟨q44T, q44H, q44c, -, q44k⟩, ⟨q44o, q44t, q44l⟩, q44x⟩ := h43
    refine e_Ok.nrm (q := 115) (st' := []) rfl rfl ?_
    refine e_Ok.ps2 (x := (0, 23)) (y := (1, 1)) (q := 118) 2 rfl ?_
    refine e_Ok.callV rfl (e_dq hd rfl) rfl rfl rfl rfl (c_129 (e_dq hd rfl) q44T q44H q44k (by omega)) (fun r48 w49 h50 => ?_)
    obtain ⟨rfl, q51f, q51T, q51H, q51k, q51x⟩ := h50
    refine e_Ok.nrm (q := 121) (st' := []) rfl rfl ?_
    refine e_Ok.ps1 (x := (1, 1)) (q := 122) 1 rfl ?_
    refine e_Ok.getr (z := cd) rfl (el_o rfl) rfl rfl ((q51f 1 3 no_dp_0).trans ((q44f 1 3 (by unfold kRt; omega)).trans (e_uq hw32 (Or.inr (by decide)) (e_uq hw24 (Or.inr (by decide)) ((q20f 1 3 no_dp_0).trans ((q13f 1 3 no_dp_0).trans ((q4f 1 3 no_dp_6).trans hc))))))) (by omega) ?_
    refine e_Ok.ps2 (x := (0, 0)) (y := (0, 43)) (q := 128) 2 rfl ?_
    refine e_Ok.callV rfl (e_dq hd rfl) rfl (lD0 hcd) rfl rfl (c_21 q51T hcd (by omega) (by omega)) (fun r55 w56 h57 => ?_)
    obtain ⟨z59, rfl, q58f, q58T, q58x⟩ := h57
    have q58z : 0 ≤ z59 ∧ z59 ≤ 4000 := by have g := e_Has.get q51T (c := cd) (k := 0) (lo := 0) (hi := 4000) (kD_0 hcd) (by decide); unfold emQ at q58x; omega
    refine e_Ok.nrm (q := 131) (st' := [(0, z59)]) rfl rfl ?_
    refine e_Ok.run (t' := (132, [(0, (1, 1))], [], w56)) 1 rfl ?_
    refine e_Ok.rets rfl rfl ?_
    have yo : w56 1 11 = o := ((q58f 1 11 (by unfold kEm; omega)).trans ((q51f 1 11 no_dp_8).trans (q44o.trans (e_uq hw32 (Or.inr (by decide)) (e_uq hw24 (Or.inr (by decide)) ((q20f 1 11 no_dp_8).trans ((q13f 1 11 no_dp_8).trans ((q4f 1 11 no_dp_9).trans ho))))))))
    exact ⟨rfl, (show e_fr (kRr cd) w w56 from e_fr.trans (show e_fr (kRr cd) w w49 from e_fr.trans (show e_fr (kRr cd) w w42 from e_fr.trans (show e_fr (kRr cd) w w32 from e_fr.up (show e_fr (kRr cd) w w24 from e_fr.up (show e_fr (kRr cd) w w18 from e_fr.trans (show e_fr (kRr cd) w w11 from e_fr.trans f5 (e_fr.mono q13f (fun c k q => by first | exact su_dp_27 q | (unfold kRk at q; unfold kRr; omega)))) (e_fr.mono q20f (fun c k q => by first | exact su_dp_27 q | (unfold kRk at q; unfold kRr; omega)))) hw24 (by first | exact Or.inl ⟨rfl, Or.inr (Or.inr ⟨(by decide), (by decide)⟩)⟩ | (unfold kRr; omega))) hw32 (by first | exact Or.inl ⟨rfl, Or.inr (Or.inr ⟨(by decide), (by decide)⟩)⟩ | (unfold kRr; omega))) (e_fr.mono q44f (fun c k q => by first | exact su_dp_28 q | (unfold kRt at q; unfold kRr; omega)))) (e_fr.mono q51f (fun c k q => by first | exact su_dp_27 q | (unfold kRk at q; unfold kRr; omega)))) (e_fr.mono q58f (fun c k q => by first | exact su_dp_29 q | (unfold kEm at q; unfold kRr; omega)))), ⟨q58T, (show e_Has kRy w56 from H_fr q58f (fun c k g => by unfold kEm at g; omega) q51H), ((q58f 1 3 (by unfold kEm; omega)).trans ((q51f 1 3 no_dp_0).trans ((q44f 1 3 (by unfold kRt; omega)).trans (e_uq hw32 (Or.inr (by first | decide | omega)) (e_uq hw24 (Or.inr (by first | decide | omega)) ((q20f 1 3 no_dp_0).trans ((q13f 1 3 no_dp_0).trans ((q4f 1 3 no_dp_6).trans hc)))))))), hcd, (show tkR w56 from (q51k.fr q58f (fun k g => by unfold kEm; omega)))⟩, yo, (show gS w w56 cd (-6) 0 0 0 0 from gS.trans (show gS w w49 cd (-7) 0 0 0 0 from gS.trans (show gS w w42 cd (-4) 0 0 0 0 from gS.trans (show gS w w32 cd (-4) 0 0 0 0 from gS.trans (show gS w w24 cd (-4) 0 0 0 0 from gS.trans (show gS w w18 cd (-4) 0 0 0 0 from gS.trans (show gS w w11 cd (-3) 0 0 0 0 from gS.trans x7 (show gS w2 w11 cd (-1) 0 0 0 0 from gS.acc hcd ((e_Has.get q4T (c := cd) (k := 0) (lo := 0) (hi := 4000) (kD_0 hcd) (by decide)).1) (by omega) q13f q13x (fun g => q4k.a1 (by omega))) (by omega)) (show gS w11 w18 cd (-1) 0 0 0 0 from gS.acc hcd ((e_Has.get q13T (c := cd) (k := 0) (lo := 0) (hi := 4000) (kD_0 hcd) (by decide)).1) (by omega) q20f q20x (fun g => q13k.a1 (by omega))) (by omega)) (show gS w18 w24 cd 0 0 0 0 0 from gS.wr hcd ((e_Has.get q20T (c := cd) (k := 0) (lo := 0) (hi := 4000) (kD_0 hcd) (by decide)).1) (by omega) g29) (by omega)) (show gS w24 w32 cd 0 0 0 0 0 from gS.wr hcd ((e_Has.get hT26 (c := cd) (k := 0) (lo := 0) (hi := 4000) (kD_0 hcd) (by decide)).1) (by omega) g37) (by omega)) (show gS w32 w42 cd 0 0 0 0 0 from q44x) (by omega)) (show gS w42 w49 cd (-3) 0 0 0 0 from gS.acc hcd ((e_Has.get q44T (c := cd) (k := 0) (lo := 0) (hi := 4000) (kD_0 hcd) (by decide)).1) (by omega) q51f q51x (fun g => q44k.a3 (by omega))) (by omega)) (show gS w49 w56 cd 1 0 0 0 0 from gS.big hcd ((e_Has.get q51T (c := cd) (k := 0) (lo := 0) (hi := 4000) (kD_0 hcd) (by decide)).1) (by omega) q58f q58x (by omega) (by omega) (fun g => by omega) (fun g => by omega)) (by omega)).le (by omega)⟩
  · replace h9 : (w2 1 5 : Int) = 1 := Classical.not_not.mp (show ¬ ((w2 1 5 : Int) ≠ 1) from h9)
    refine e_Ok.ps1 (x := (1, 1)) (q := 13) 1 rfl ?_
    refine e_Ok.callV rfl (e_dq hd rfl) rfl rfl rfl rfl (c_139 (e_dq hd rfl) q4T q4H q4k ((q4f 1 3 no_dp_6).trans hc) hcd) (fun r63 w64 h65 => ?_)
    obtain ⟨rfl, q66f, q66T, q66H, q66k, q66x⟩ := h65
    have f68 : e_fr (kRr cd) w w64 := e_fr.trans f5 (e_fr.mono q66f (fun c k q => by first | exact su_dp_30 q | (unfold kRc at q; unfold kRr; omega)))
    have x70 : gS w w64 cd (-2) 0 0 0 0 := gS.trans x7 (show gS w2 w64 cd 0 0 0 0 0 from gS.cmp hcd ((e_Has.get q4T (c := cd) (k := 0) (lo := 0) (hi := 4000) (kD_0 hcd) (by decide)).1) (by omega) q66f q66x) (by omega)
    refine e_Ok.nrm (q := 16) (st' := []) rfl rfl ?_
    refine e_Ok.ps1 (x := (1, 1)) (q := 17) 1 rfl ?_
    have h71 := (e_Has.get hH (c := 1) (k := 14) (lo := 0) (hi := 500) rfl (by decide))
    refine e_Ok.getf (z := w 1 14) rfl (el_o rfl) rfl rfl ((q66f 1 14 no_dp_10).trans ((q4f 1 14 no_dp_11).trans rfl)) (e_bq h71 (by decide) (by decide)) ?_
    refine e_Ok.ps1 (x := (0, 32)) (q := 22) 1 rfl ?_
    refine e_Ok.if2 rfl (fun h72 => ?_) (fun h72 => ?_)
    · replace h72 : (w 1 14 : Int) ≥ 32 := h72
      refine e_Ok.ps3 (x := (1, 1)) (y := (0, 7)) (z := (1, 1)) (q := 51) 3 rfl ?_
      have h73 := (e_Has.get q4H (c := 1) (k := 6) (lo := 0) (hi := 4000) rfl (by decide))
      refine e_Ok.getf (z := w2 1 6) rfl (el_o rfl) rfl rfl ((q66f 1 6 no_dp_1).trans rfl) (e_bq h73 (by decide) (by decide)) ?_
      refine e_Ok.callV rfl (e_dq hd rfl) rfl rfl rfl rfl (c_133 q66T q66H q66k (by omega) (by omega)) (fun r74 w75 h76 => ?_)
      obtain ⟨rfl, q77f, q77T, q77H, q77k, q77n⟩ := h76
      have f78 : e_fr (kRr cd) w w75 := e_fr.trans f68 (e_fr.mono q77f (fun c k q => by first | exact su_dp_30 q | (unfold kRc at q; unfold kRr; omega)))
      have x80 : gS w w75 cd (-2) 0 0 0 0 := gS.trans x70 (show gS w64 w75 cd 0 0 0 0 0 from gS.dead q77n) (by omega)
      refine e_Ok.nrm (q := 57) (st' := []) rfl rfl ?_
      refine e_Ok.ps1 (x := (1, 1)) (q := 58) 1 rfl ?_
      refine e_Ok.getf (z := w 1 14) rfl (el_o rfl) rfl rfl ((q77f 1 14 no_dp_10).trans ((q66f 1 14 no_dp_10).trans ((q4f 1 14 no_dp_11).trans rfl))) (by omega) ?_
      refine e_Ok.ps1 (x := (0, 500)) (q := 64) 1 rfl ?_
      refine e_Ok.if2 rfl (fun h81 => ?_) (fun h81 => ?_)
      · replace h81 : (w 1 14 : Int) ≥ 500 := h81
        refine e_Ok.ps2 (x := (0, 1)) (y := (1, 1)) (q := 92) 2 rfl ?_
        refine e_Ok.callV rfl (e_dq hd rfl) rfl rfl rfl rfl (c_129 (e_dq hd rfl) q77T q77H q77k (by omega)) (fun r82 w83 h84 => ?_)
        obtain ⟨rfl, q85f, q85T, q85H, q85k, q85x⟩ := h84
        have s87 : gS w75 w83 cd (-1) 0 0 0 0 := gS.acc hcd ((e_Has.get q77T (c := cd) (k := 0) (lo := 0) (hi := 4000) (kD_0 hcd) (by decide)).1) (by omega) q85f q85x (fun g => q77k.a1 (by omega))
        have d89 : ¬ nF w83 := fun n => q77n (s87 n).1
        refine e_Ok.nrm (q := 95) (st' := []) rfl rfl ?_
        refine e_Ok.ps2 (x := (0, 20)) (y := (1, 1)) (q := 98) 2 rfl ?_
        refine e_Ok.callV rfl (e_dq hd rfl) rfl rfl rfl rfl (c_129 (e_dq hd rfl) q85T q85H q85k (by omega)) (fun r90 w91 h92 => ?_)
        obtain ⟨rfl, q93f, q93T, q93H, q93k, q93x⟩ := h92
        have s95 : gS w83 w91 cd (-1) 0 0 0 0 := gS.acc hcd ((e_Has.get q85T (c := cd) (k := 0) (lo := 0) (hi := 4000) (kD_0 hcd) (by decide)).1) (by omega) q93f q93x (fun g => q85k.a1 (by omega))
        have d103 : ¬ nF w91 := fun n => d89 (s95 n).1
        refine e_Ok.nrm (q := 101) (st' := []) rfl rfl ?_
        refine e_Ok.ps2 (x := (0, 0)) (y := (1, 1)) (q := 103) 2 rfl ?_
        refine e_Ok.putf rfl (el_o rfl) rfl rfl ?_
        generalize hw104 : e_up w91 1 12 0 = w104
        have hT106 : e_Has kTy w104 := e_Has.ups q93T hw104 (kt_o rfl)
        have hH107 : e_Has kRy w104 := e_Has.upr q93H hw104 rfl (by omega)
        have g109 : e_fr (fun c k => c = 1 ∧ 11 ≤ k ∧ k ≤ 13) w91 w104 := fun c k g => by have g2 : ¬ (c = 1 ∧ 11 ≤ k ∧ k ≤ 13) := g; rw [← hw104]; exact e_up_ne _ _ (by omega)
        have s110 : gS w91 w104 cd 0 0 0 0 0 := gS.wr hcd ((e_Has.get q93T (c := cd) (k := 0) (lo := 0) (hi := 4000) (kD_0 hcd) (by decide)).1) (by omega) g109
        have d112 : ¬ nF w104 := fun n => d103 (s110 n).1
        refine e_Ok.ps2 (x := (0, (-1))) (y := (1, 1)) (q := 108) 2 rfl ?_
        refine e_Ok.putf rfl (el_o rfl) rfl rfl ?_
        generalize hw113 : e_up w104 1 13 (-1) = w113
        have hT115 : e_Has kTy w113 := e_Has.ups hT106 hw113 (kt_o rfl)
        have hH116 : e_Has kRy w113 := e_Has.upr hH107 hw113 rfl (by omega)
        have g118 : e_fr (fun c k => c = 1 ∧ 11 ≤ k ∧ k ≤ 13) w104 w113 := fun c k g => by have g2 : ¬ (c = 1 ∧ 11 ≤ k ∧ k ≤ 13) := g; rw [← hw113]; exact e_up_ne _ _ (by omega)
        have s119 : gS w104 w113 cd 0 0 0 0 0 := gS.wr hcd ((e_Has.get hT106 (c := cd) (k := 0) (lo := 0) (hi := 4000) (kD_0 hcd) (by decide)).1) (by omega) g118
        have d121 : ¬ nF w113 := fun n => d112 (s119 n).1
        refine e_Ok.ps1 (x := (1, 1)) (q := 112) 1 rfl ?_
        refine e_Ok.callV rfl (e_dq hd rfl) rfl rfl rfl rfl (g_blk (o := o) (by omega) (by omega) w113 cd 0 (-1) ⟨hT115, hH116, (e_uq hw113 (Or.inr (by first | decide | omega)) (e_uq hw104 (Or.inr (by first | decide | omega)) ((q93f 1 3 no_dp_0).trans ((q85f 1 3 no_dp_0).trans ((q77f 1 3 no_dp_2).trans ((q66f 1 3 no_dp_2).trans ((q4f 1 3 no_dp_6).trans hc))))))), hcd, (show tkR w113 from (show tkR w104 from q93k.eq (fun k g => by rw [← hw104]; exact e_up_ne _ _ (by omega))).eq (fun k g => by rw [← hw113]; exact e_up_ne _ _ (by omega)))⟩ (e_uq hw113 (Or.inr (by first | decide | omega)) (e_uq hw104 (Or.inr (by first | decide | omega)) ((q93f 1 11 no_dp_8).trans ((q85f 1 11 no_dp_8).trans ((q77f 1 11 no_dp_12).trans ((q66f 1 11 no_dp_12).trans ((q4f 1 11 no_dp_9).trans ho))))))) (e_uq hw113 (Or.inr (by first | decide | omega)) (e_ue hw104)) (by omega) (e_ue hw113) (Or.inl rfl) trivial) (fun r122 w123 h124 => ?_)
        obtain ⟨rfl, q125f, ⟨q125T, q125H, q125c, -, q125k⟩, ⟨q125o, q125t, q125l⟩, q125x⟩ := h124
        have s127 : gS w113 w123 cd 0 0 0 0 0 := q125x
        have d129 : ¬ nF w123 := fun n => d121 (s127 n).1
        refine e_Ok.nrm (q := 115) (st' := []) rfl rfl ?_
        refine e_Ok.ps2 (x := (0, 23)) (y := (1, 1)) (q := 118) 2 rfl ?_
        refine e_Ok.callV rfl (e_dq hd rfl) rfl rfl rfl rfl (c_129 (e_dq hd rfl) q125T q125H q125k (by omega)) (fun r130 w131 h132 => ?_)
        obtain ⟨rfl, q133f, q133T, q133H, q133k, q133x⟩ := h132
        have s135 : gS w123 w131 cd (-3) 0 0 0 0 := gS.acc hcd ((e_Has.get q125T (c := cd) (k := 0) (lo := 0) (hi := 4000) (kD_0 hcd) (by decide)).1) (by omega) q133f q133x (fun g => q125k.a3 (by omega))
        have d137 : ¬ nF w131 := fun n => d129 (s135 n).1
        refine e_Ok.nrm (q := 121) (st' := []) rfl rfl ?_
        refine e_Ok.ps1 (x := (1, 1)) (q := 122) 1 rfl ?_
        refine e_Ok.getr (z := cd) rfl (el_o rfl) rfl rfl ((q133f 1 3 no_dp_0).trans ((q125f 1 3 (by unfold kRt; omega)).trans (e_uq hw113 (Or.inr (by decide)) (e_uq hw104 (Or.inr (by decide)) ((q93f 1 3 no_dp_0).trans ((q85f 1 3 no_dp_0).trans ((q77f 1 3 no_dp_2).trans ((q66f 1 3 no_dp_2).trans ((q4f 1 3 no_dp_6).trans hc))))))))) (by omega) ?_
        refine e_Ok.ps2 (x := (0, 0)) (y := (0, 43)) (q := 128) 2 rfl ?_
        refine e_Ok.callV rfl (e_dq hd rfl) rfl (lD0 hcd) rfl rfl (c_21 q133T hcd (by omega) (by omega)) (fun r138 w139 h140 => ?_)
        obtain ⟨z142, rfl, q141f, q141T, q141x⟩ := h140
        have q141z : 0 ≤ z142 ∧ z142 ≤ 4000 := by have g := e_Has.get q133T (c := cd) (k := 0) (lo := 0) (hi := 4000) (kD_0 hcd) (by decide); unfold emQ at q141x; omega
        have s144 : gS w131 w139 cd 1 0 0 0 0 := gS.dead (fun n => d137 ⟨by rw [← (fr_e q141f hcd).1]; exact n.1, by rw [← (fr_e q141f hcd).2.1]; exact n.2⟩)
        have d146 : ¬ nF w139 := fun n => d137 (s144 n).1
        refine e_Ok.nrm (q := 131) (st' := [(0, z142)]) rfl rfl ?_
        refine e_Ok.run (t' := (132, [(0, (1, 1))], [], w139)) 1 rfl ?_
        refine e_Ok.rets rfl rfl ?_
        have yo : w139 1 11 = o := ((q141f 1 11 (by unfold kEm; omega)).trans ((q133f 1 11 no_dp_8).trans (q125o.trans (e_uq hw113 (Or.inr (by decide)) (e_uq hw104 (Or.inr (by decide)) ((q93f 1 11 no_dp_8).trans ((q85f 1 11 no_dp_8).trans ((q77f 1 11 no_dp_12).trans ((q66f 1 11 no_dp_12).trans ((q4f 1 11 no_dp_9).trans ho))))))))))
        exact ⟨rfl, (show e_fr (kRr cd) w w139 from e_fr.trans (show e_fr (kRr cd) w w131 from e_fr.trans (show e_fr (kRr cd) w w123 from e_fr.trans (show e_fr (kRr cd) w w113 from e_fr.up (show e_fr (kRr cd) w w104 from e_fr.up (show e_fr (kRr cd) w w91 from e_fr.trans (show e_fr (kRr cd) w w83 from e_fr.trans f78 (e_fr.mono q85f (fun c k q => by first | exact su_dp_27 q | (unfold kRk at q; unfold kRr; omega)))) (e_fr.mono q93f (fun c k q => by first | exact su_dp_27 q | (unfold kRk at q; unfold kRr; omega)))) hw104 (by first | exact Or.inl ⟨rfl, Or.inr (Or.inr ⟨(by decide), (by decide)⟩)⟩ | (unfold kRr; omega))) hw113 (by first | exact Or.inl ⟨rfl, Or.inr (Or.inr ⟨(by decide), (by decide)⟩)⟩ | (unfold kRr; omega))) (e_fr.mono q125f (fun c k q => by first | exact su_dp_28 q | (unfold kRt at q; unfold kRr; omega)))) (e_fr.mono q133f (fun c k q => by first | exact su_dp_27 q | (unfold kRk at q; unfold kRr; omega)))) (e_fr.mono q141f (fun c k q => by first | exact su_dp_29 q | (unfold kEm at q; unfold kRr; omega)))), ⟨q141T, (show e_Has kRy w139 from H_fr q141f (fun c k g => by unfold kEm at g; omega) q133H), ((q141f 1 3 (by unfold kEm; omega)).trans ((q133f 1 3 no_dp_0).trans ((q125f 1 3 (by unfold kRt; omega)).trans (e_uq hw113 (Or.inr (by first | decide | omega)) (e_uq hw104 (Or.inr (by first | decide | omega)) ((q93f 1 3 no_dp_0).trans ((q85f 1 3 no_dp_0).trans ((q77f 1 3 no_dp_2).trans ((q66f 1 3 no_dp_2).trans ((q4f 1 3 no_dp_6).trans hc)))))))))), hcd, (show tkR w139 from (q133k.fr q141f (fun k g => by unfold kEm; omega)))⟩, yo, gS.dead d146⟩
      · replace h81 : (w 1 14 : Int) < 500 := Int.not_le.mp (show ¬ ((w 1 14 : Int) ≥ 500) from h81)
        refine e_Ok.ps1 (x := (1, 1)) (q := 68) 1 rfl ?_
        refine e_Ok.getr (z := 7) rfl (el_o rfl) rfl rfl ((q77f 1 16 no_dp_13).trans ((q66f 1 16 no_dp_13).trans ((q4f 1 16 no_dp_14).trans (e_Has.eq hT (kt_o rfl))))) ⟨by decide, by decide⟩ ?_
        refine e_Ok.ps1 (x := (1, 1)) (q := 72) 1 rfl ?_
        refine e_Ok.getf (z := w 1 14) rfl (el_o rfl) rfl rfl ((q77f 1 14 no_dp_10).trans ((q66f 1 14 no_dp_10).trans ((q4f 1 14 no_dp_11).trans rfl))) (by omega) ?_
        refine e_Ok.ps1 (x := (1, 1)) (q := 76) 1 rfl ?_
        refine e_Ok.getf (z := w2 1 6) rfl (el_o rfl) rfl rfl ((q77f 1 6 no_dp_1).trans ((q66f 1 6 no_dp_1).trans rfl)) (by omega) ?_
        refine e_Ok.ast rfl (el_o rfl) rfl rfl (by omega) ?_
        generalize hw147 : e_up w75 7 (w 1 14) (w2 1 6) = w147
        have hT149 : e_Has kTy w147 := e_Has.ups q77T hw147 (kt_o rfl)
        have hH150 : e_Has kRy w147 := e_Has.upr q77H hw147 rfl (by omega)
        have d152 : ¬ nF w147 := fun n => q77n ⟨by rw [show w75 1 1 = w147 1 1 from by rw [← hw147]; exact (e_up_ne _ _ (by omega)).symm]; exact n.1, by rw [show w75 1 9 = w147 1 9 from by rw [← hw147]; exact (e_up_ne _ _ (by omega)).symm]; exact n.2⟩
        have s153 : gS w75 w147 cd 0 0 0 0 0 := gS.dead d152
        have d155 : ¬ nF w147 := fun n => q77n (s153 n).1
        refine e_Ok.ps2 (x := (1, 1)) (y := (1, 1)) (q := 82) 2 rfl ?_
        refine e_Ok.getf (z := w 1 14) rfl (el_o rfl) rfl rfl (e_uq hw147 (Or.inl (by decide)) ((q77f 1 14 no_dp_10).trans ((q66f 1 14 no_dp_10).trans ((q4f 1 14 no_dp_11).trans rfl)))) (by omega) ?_
        refine e_Ok.ps1 (x := (0, 1)) (q := 86) 1 rfl ?_
        refine e_Ok.add (z := w 1 14 + 1) rfl rfl (by omega) ?_
        refine e_Ok.putf rfl (el_o rfl) rfl rfl ?_
        generalize hw156 : e_up w147 1 14 (w 1 14 + 1) = w156
        have hT158 : e_Has kTy w156 := e_Has.ups hT149 hw156 (kt_o rfl)
        have hH159 : e_Has kRy w156 := e_Has.upr hH150 hw156 rfl (by omega)
        have t160 : tkR w156 := (show tkR w147 from q77k.eq (fun k g => by rw [← hw147]; exact e_up_ne _ _ (by omega))).eq (fun k g => by rw [← hw156]; exact e_up_ne _ _ (by omega))
        have d161 : ¬ nF w156 := fun n => d152 ⟨by rw [show w147 1 1 = w156 1 1 from by rw [← hw156]; exact (e_up_ne _ _ (by omega)).symm]; exact n.1, by rw [show w147 1 9 = w156 1 9 from by rw [← hw156]; exact (e_up_ne _ _ (by omega)).symm]; exact n.2⟩
        have s162 : gS w147 w156 cd 0 0 0 0 0 := gS.dead d161
        have d164 : ¬ nF w156 := fun n => d152 (s162 n).1
        refine e_Ok.ps2 (x := (0, 1)) (y := (1, 1)) (q := 92) 2 rfl ?_
        refine e_Ok.callV rfl (e_dq hd rfl) rfl rfl rfl rfl (c_129 (e_dq hd rfl) hT158 hH159 t160 (by omega)) (fun r165 w166 h167 => ?_)
        obtain ⟨rfl, q168f, q168T, q168H, q168k, q168x⟩ := h167
        have s170 : gS w156 w166 cd (-1) 0 0 0 0 := gS.acc hcd ((e_Has.get hT158 (c := cd) (k := 0) (lo := 0) (hi := 4000) (kD_0 hcd) (by decide)).1) (by omega) q168f q168x (fun g => t160.a1 (by omega))
        have d172 : ¬ nF w166 := fun n => d161 (s170 n).1
        refine e_Ok.nrm (q := 95) (st' := []) rfl rfl ?_
        refine e_Ok.ps2 (x := (0, 20)) (y := (1, 1)) (q := 98) 2 rfl ?_
        refine e_Ok.callV rfl (e_dq hd rfl) rfl rfl rfl rfl (c_129 (e_dq hd rfl) q168T q168H q168k (by omega)) (fun r173 w174 h175 => ?_)
        obtain ⟨rfl, q176f, q176T, q176H, q176k, q176x⟩ := h175
        have s178 : gS w166 w174 cd (-1) 0 0 0 0 := gS.acc hcd ((e_Has.get q168T (c := cd) (k := 0) (lo := 0) (hi := 4000) (kD_0 hcd) (by decide)).1) (by omega) q176f q176x (fun g => q168k.a1 (by omega))
        have d180 : ¬ nF w174 := fun n => d172 (s178 n).1
        refine e_Ok.nrm (q := 101) (st' := []) rfl rfl ?_
        refine e_Ok.ps2 (x := (0, 0)) (y := (1, 1)) (q := 103) 2 rfl ?_
        refine e_Ok.putf rfl (el_o rfl) rfl rfl ?_
        generalize hw181 : e_up w174 1 12 0 = w181
        have hT183 : e_Has kTy w181 := e_Has.ups q176T hw181 (kt_o rfl)
        have hH184 : e_Has kRy w181 := e_Has.upr q176H hw181 rfl (by omega)
        have g186 : e_fr (fun c k => c = 1 ∧ 11 ≤ k ∧ k ≤ 13) w174 w181 := fun c k g => by have g2 : ¬ (c = 1 ∧ 11 ≤ k ∧ k ≤ 13) := g; rw [← hw181]; exact e_up_ne _ _ (by omega)
        have s187 : gS w174 w181 cd 0 0 0 0 0 := gS.wr hcd ((e_Has.get q176T (c := cd) (k := 0) (lo := 0) (hi := 4000) (kD_0 hcd) (by decide)).1) (by omega) g186
        have d189 : ¬ nF w181 := fun n => d180 (s187 n).1
        refine e_Ok.ps2 (x := (0, (-1))) (y := (1, 1)) (q := 108) 2 rfl ?_
        refine e_Ok.putf rfl (el_o rfl) rfl rfl ?_
        generalize hw190 : e_up w181 1 13 (-1) = w190
        have hT192 : e_Has kTy w190 := e_Has.ups hT183 hw190 (kt_o rfl)
        have hH193 : e_Has kRy w190 := e_Has.upr hH184 hw190 rfl (by omega)
        have g195 : e_fr (fun c k => c = 1 ∧ 11 ≤ k ∧ k ≤ 13) w181 w190 := fun c k g => by have g2 : ¬ (c = 1 ∧ 11 ≤ k ∧ k ≤ 13) := g; rw [← hw190]; exact e_up_ne _ _ (by omega)
        have s196 : gS w181 w190 cd 0 0 0 0 0 := gS.wr hcd ((e_Has.get hT183 (c := cd) (k := 0) (lo := 0) (hi := 4000) (kD_0 hcd) (by decide)).1) (by omega) g195
        have d198 : ¬ nF w190 := fun n => d189 (s196 n).1
        refine e_Ok.ps1 (x := (1, 1)) (q := 112) 1 rfl ?_
        refine e_Ok.callV rfl (e_dq hd rfl) rfl rfl rfl rfl (g_blk (o := o) (by omega) (by omega) w190 cd 0 (-1) ⟨hT192, hH193, (e_uq hw190 (Or.inr (by first | decide | omega)) (e_uq hw181 (Or.inr (by first | decide | omega)) ((q176f 1 3 no_dp_0).trans ((q168f 1 3 no_dp_0).trans (e_uq hw156 (Or.inr (by first | decide | omega)) (e_uq hw147 (Or.inl (by first | decide | omega)) ((q77f 1 3 no_dp_2).trans ((q66f 1 3 no_dp_2).trans ((q4f 1 3 no_dp_6).trans hc))))))))), hcd, (show tkR w190 from (show tkR w181 from q176k.eq (fun k g => by rw [← hw181]; exact e_up_ne _ _ (by omega))).eq (fun k g => by rw [← hw190]; exact e_up_ne _ _ (by omega)))⟩ (e_uq hw190 (Or.inr (by first | decide | omega)) (e_uq hw181 (Or.inr (by first | decide | omega)) ((q176f 1 11 no_dp_8).trans ((q168f 1 11 no_dp_8).trans (e_uq hw156 (Or.inr (by first | decide | omega)) (e_uq hw147 (Or.inl (by first | decide | omega)) ((q77f 1 11 no_dp_12).trans ((q66f 1 11 no_dp_12).trans ((q4f 1 11 no_dp_9).trans ho))))))))) (e_uq hw190 (Or.inr (by first | decide | omega)) (e_ue hw181)) (by omega) (e_ue hw190) (Or.inl rfl) trivial) (fun r199 w200 h201 => ?_)
        obtain ⟨rfl, q202f, ⟨q202T, q202H, q202c, -, q202k⟩, ⟨q202o, q202t, q202l⟩, q202x⟩ := h201
        have s204 : gS w190 w200 cd 0 0 0 0 0 := q202x
        have d206 : ¬ nF w200 := fun n => d198 (s204 n).1
        refine e_Ok.nrm (q := 115) (st' := []) rfl rfl ?_
        refine e_Ok.ps2 (x := (0, 23)) (y := (1, 1)) (q := 118) 2 rfl ?_
        refine e_Ok.callV rfl (e_dq hd rfl) rfl rfl rfl rfl (c_129 (e_dq hd rfl) q202T q202H q202k (by omega)) (fun r207 w208 h209 => ?_)
        obtain ⟨rfl, q210f, q210T, q210H, q210k, q210x⟩ := h209
        have s212 : gS w200 w208 cd (-3) 0 0 0 0 := gS.acc hcd ((e_Has.get q202T (c := cd) (k := 0) (lo := 0) (hi := 4000) (kD_0 hcd) (by decide)).1) (by omega) q210f q210x (fun g => q202k.a3 (by omega))
        have d214 : ¬ nF w208 := fun n => d206 (s212 n).1
        refine e_Ok.nrm (q := 121) (st' := []) rfl rfl ?_
        refine e_Ok.ps1 (x := (1, 1)) (q := 122) 1 rfl ?_
        refine e_Ok.getr (z := cd) rfl (el_o rfl) rfl rfl ((q210f 1 3 no_dp_0).trans ((q202f 1 3 (by unfold kRt; omega)).trans (e_uq hw190 (Or.inr (by decide)) (e_uq hw181 (Or.inr (by decide)) ((q176f 1 3 no_dp_0).trans ((q168f 1 3 no_dp_0).trans (e_uq hw156 (Or.inr (by decide)) (e_uq hw147 (Or.inl (by decide)) ((q77f 1 3 no_dp_2).trans ((q66f 1 3 no_dp_2).trans ((q4f 1 3 no_dp_6).trans hc))))))))))) (by omega) ?_
        refine e_Ok.ps2 (x := (0, 0)) (y := (0, 43)) (q := 128) 2 rfl ?_
        refine e_Ok.callV rfl (e_dq hd rfl) rfl (lD0 hcd) rfl rfl (c_21 q210T hcd (by omega) (by omega)) (fun r215 w216 h217 => ?_)
        obtain ⟨z219, rfl, q218f, q218T, q218x⟩ := h217
        have q218z : 0 ≤ z219 ∧ z219 ≤ 4000 := by have g := e_Has.get q210T (c := cd) (k := 0) (lo := 0) (hi := 4000) (kD_0 hcd) (by decide); unfold emQ at q218x; omega
        have s221 : gS w208 w216 cd 1 0 0 0 0 := gS.dead (fun n => d214 ⟨by rw [← (fr_e q218f hcd).1]; exact n.1, by rw [← (fr_e q218f hcd).2.1]; exact n.2⟩)
        have d223 : ¬ nF w216 := fun n => d214 (s221 n).1
        refine e_Ok.nrm (q := 131) (st' := [(0, z219)]) rfl rfl ?_
        refine e_Ok.run (t' := (132, [(0, (1, 1))], [], w216)) 1 rfl ?_
        refine e_Ok.rets rfl rfl ?_
        have yo : w216 1 11 = o := ((q218f 1 11 (by unfold kEm; omega)).trans ((q210f 1 11 no_dp_8).trans (q202o.trans (e_uq hw190 (Or.inr (by decide)) (e_uq hw181 (Or.inr (by decide)) ((q176f 1 11 no_dp_8).trans ((q168f 1 11 no_dp_8).trans (e_uq hw156 (Or.inr (by decide)) (e_uq hw147 (Or.inl (by decide)) ((q77f 1 11 no_dp_12).trans ((q66f 1 11 no_dp_12).trans ((q4f 1 11 no_dp_9).trans ho))))))))))))
        exact ⟨rfl, (show e_fr (kRr cd) w w216 from e_fr.trans (show e_fr (kRr cd) w w208 from e_fr.trans (show e_fr (kRr cd) w w200 from e_fr.trans (show e_fr (kRr cd) w w190 from e_fr.up (show e_fr (kRr cd) w w181 from e_fr.up (show e_fr (kRr cd) w w174 from e_fr.trans (show e_fr (kRr cd) w w166 from e_fr.trans (show e_fr (kRr cd) w w156 from e_fr.up (show e_fr (kRr cd) w w147 from e_fr.up f78 hw147 (by first | exact Or.inr (Or.inr (Or.inr (Or.inr (Or.inr rfl)))) | (unfold kRr; omega))) hw156 (by first | exact Or.inl ⟨rfl, Or.inr (Or.inr ⟨(by decide), (by decide)⟩)⟩ | (unfold kRr; omega))) (e_fr.mono q168f (fun c k q => by first | exact su_dp_27 q | (unfold kRk at q; unfold kRr; omega)))) (e_fr.mono q176f (fun c k q => by first | exact su_dp_27 q | (unfold kRk at q; unfold kRr; omega)))) hw181 (by first | exact Or.inl ⟨rfl, Or.inr (Or.inr ⟨(by decide), (by decide)⟩)⟩ | (unfold kRr; omega))) hw190 (by first | exact Or.inl ⟨rfl, Or.inr (Or.inr ⟨(by decide), (by decide)⟩)⟩ | (unfold kRr; omega))) (e_fr.mono q202f (fun c k q => by first | exact su_dp_28 q | (unfold kRt at q; unfold kRr; omega)))) (e_fr.mono q210f (fun c k q => by first | exact su_dp_27 q | (unfold kRk at q; unfold kRr; omega)))) (e_fr.mono q218f (fun c k q => by first | exact su_dp_29 q | (unfold kEm at q; unfold kRr; omega)))), ⟨q218T, (show e_Has kRy w216 from H_fr q218f (fun c k g => by unfold kEm at g; omega) q210H), ((q218f 1 3 (by unfold kEm; omega)).trans ((q210f 1 3 no_dp_0).trans ((q202f 1 3 (by unfold kRt; omega)).trans (e_uq hw190 (Or.inr (by first | decide | omega)) (e_uq hw181 (Or.inr (by first | decide | omega)) ((q176f 1 3 no_dp_0).trans ((q168f 1 3 no_dp_0).trans (e_uq hw156 (Or.inr (by first | decide | omega)) (e_uq hw147 (Or.inl (by first | decide | omega)) ((q77f 1 3 no_dp_2).trans ((q66f 1 3 no_dp_2).trans ((q4f 1 3 no_dp_6).trans hc)))))))))))), hcd, (show tkR w216 from (q210k.fr q218f (fun k g => by unfold kEm; omega)))⟩, yo, gS.dead d223⟩
    · replace h72 : (w 1 14 : Int) < 32 := Int.not_le.mp (show ¬ ((w 1 14 : Int) ≥ 32) from h72)
      refine e_Ok.ps1 (x := (1, 1)) (q := 26) 1 rfl ?_
      refine e_Ok.getr (z := cd) rfl (el_o rfl) rfl rfl ((q66f 1 3 no_dp_2).trans ((q4f 1 3 no_dp_6).trans hc)) (by omega) ?_
      refine e_Ok.getr (z := cd + 1) rfl (lD0 hcd) rfl rfl ((q66f cd 3 (by unfold kRc; omega)).trans ((q4f cd 3 (by unfold kRa; omega)).trans (Eq.trans (e_Has.eq hT (kD_3 hcd)) (by omega)))) (by omega) ?_
      refine e_Ok.ps1 (x := (1, 1)) (q := 33) 1 rfl ?_
      refine e_Ok.getf (z := w 1 14) rfl (el_o rfl) rfl rfl ((q66f 1 14 no_dp_10).trans ((q4f 1 14 no_dp_11).trans rfl)) (by omega) ?_
      refine e_Ok.ps1 (x := (1, 1)) (q := 37) 1 rfl ?_
      refine e_Ok.getr (z := cd) rfl (el_o rfl) rfl rfl ((q66f 1 3 no_dp_2).trans ((q4f 1 3 no_dp_6).trans hc)) (by omega) ?_
      have h224 := (e_Has.get hT (c := cd) (k := 0) (lo := 0) (hi := 4000) (kD_0 hcd) (by decide))
      refine e_Ok.getf (z := w cd 0) rfl (lD0 hcd) rfl rfl ((q66f cd 0 (by unfold kRc; omega)).trans ((q4f cd 0 (by unfold kRa; omega)).trans rfl)) (e_bq h224 (by decide) (by decide)) ?_
      refine e_Ok.ast rfl (lD1 (d := cd) (by omega) hcd) rfl rfl (by omega) ?_
      generalize hw225 : e_up w64 (cd + 1) (w 1 14) (w cd 0) = w225
      have hT227 : e_Has kTy w225 := e_Has.upr q66T hw225 (kD1 (d := cd) _ (by omega) hcd) (by omega)
      have hH228 : e_Has kRy w225 := e_Has.ups q66H hw225 (kRy_D (by omega) (by omega))
      refine e_Ok.ps1 (x := (1, 1)) (q := 58) 2 rfl ?_
      refine e_Ok.getf (z := w 1 14) rfl (el_o rfl) rfl rfl (e_uq hw225 (Or.inl (by omega)) ((q66f 1 14 no_dp_10).trans ((q4f 1 14 no_dp_11).trans rfl))) (by omega) ?_
      refine e_Ok.ps1 (x := (0, 500)) (q := 64) 1 rfl ?_
      refine e_Ok.if2 rfl (fun h230 => ?_) (fun h230 => ?_)
      · replace h230 : (w 1 14 : Int) ≥ 500 := h230
        exfalso; omega
      · replace h230 : (w 1 14 : Int) < 500 := Int.not_le.mp (show ¬ ((w 1 14 : Int) ≥ 500) from h230)
        refine e_Ok.ps1 (x := (1, 1)) (q := 68) 1 rfl ?_
        refine e_Ok.getr (z := 7) rfl (el_o rfl) rfl rfl (e_uq hw225 (Or.inl (by omega)) ((q66f 1 16 no_dp_13).trans ((q4f 1 16 no_dp_14).trans (e_Has.eq hT (kt_o rfl))))) ⟨by decide, by decide⟩ ?_
        refine e_Ok.ps1 (x := (1, 1)) (q := 72) 1 rfl ?_
        refine e_Ok.getf (z := w 1 14) rfl (el_o rfl) rfl rfl (e_uq hw225 (Or.inl (by omega)) ((q66f 1 14 no_dp_10).trans ((q4f 1 14 no_dp_11).trans rfl))) (by omega) ?_
        refine e_Ok.ps1 (x := (1, 1)) (q := 76) 1 rfl ?_
        have h231 := (e_Has.get q4H (c := 1) (k := 6) (lo := 0) (hi := 4000) rfl (by decide))
        refine e_Ok.getf (z := w2 1 6) rfl (el_o rfl) rfl rfl (e_uq hw225 (Or.inl (by omega)) ((q66f 1 6 no_dp_1).trans rfl)) (e_bq h231 (by decide) (by decide)) ?_
        refine e_Ok.ast rfl (el_o rfl) rfl rfl (by omega) ?_
        generalize hw232 : e_up w225 7 (w 1 14) (w2 1 6) = w232
        have hT234 : e_Has kTy w232 := e_Has.ups hT227 hw232 (kt_o rfl)
        have hH235 : e_Has kRy w232 := e_Has.upr hH228 hw232 rfl (by omega)
        refine e_Ok.ps2 (x := (1, 1)) (y := (1, 1)) (q := 82) 2 rfl ?_
        refine e_Ok.getf (z := w 1 14) rfl (el_o rfl) rfl rfl (e_uq hw232 (Or.inl (by decide)) (e_uq hw225 (Or.inl (by omega)) ((q66f 1 14 no_dp_10).trans ((q4f 1 14 no_dp_11).trans rfl)))) (by omega) ?_
        refine e_Ok.ps1 (x := (0, 1)) (q := 86) 1 rfl ?_
        refine e_Ok.add (z := w 1 14 + 1) rfl rfl (by omega) ?_
        refine e_Ok.putf rfl (el_o rfl) rfl rfl ?_
        generalize hw237 : e_up w232 1 14 (w 1 14 + 1) = w237
        have hT239 : e_Has kTy w237 := e_Has.ups hT234 hw237 (kt_o rfl)
        have hH240 : e_Has kRy w237 := e_Has.upr hH235 hw237 rfl (by omega)
        have t241 : tkR w237 := (show tkR w232 from (show tkR w225 from q66k.eq (fun k g => by rw [← hw225]; exact e_up_ne _ _ (by omega))).eq (fun k g => by rw [← hw232]; exact e_up_ne _ _ (by omega))).eq (fun k g => by rw [← hw237]; exact e_up_ne _ _ (by omega))
        have r14 : w64 1 14 = w 1 14 := ((q66f 1 14 no_dp_10).trans ((q4f 1 14 no_dp_11).trans rfl))
        have rL : w64 cd 0 = w cd 0 := ((q66f cd 0 (by unfold kRc; omega)).trans ((q4f cd 0 (by unfold kRa; omega)).trans rfl))
        have ra : w237 1 14 = w64 1 14 + 1 := by have g : w237 1 14 = w 1 14 + 1 := (e_ue hw237); omega
        have rb : w237 (cd + 1) (w64 1 14) = w64 cd 0 := by rw [r14, rL]; exact (e_uq hw237 (Or.inl (by omega)) (e_uq hw232 (Or.inl (by omega)) (e_ue hw225)))
        refine e_Ok.ps2 (x := (0, 1)) (y := (1, 1)) (q := 92) 2 rfl ?_
        refine e_Ok.callV rfl (e_dq hd rfl) rfl rfl rfl rfl (c_129 (e_dq hd rfl) hT239 hH240 t241 (by omega)) (fun r244 w245 h246 => ?_)
        obtain ⟨rfl, q247f, q247T, q247H, q247k, q247x⟩ := h246
        refine e_Ok.nrm (q := 95) (st' := []) rfl rfl ?_
        refine e_Ok.ps2 (x := (0, 20)) (y := (1, 1)) (q := 98) 2 rfl ?_
        refine e_Ok.callV rfl (e_dq hd rfl) rfl rfl rfl rfl (c_129 (e_dq hd rfl) q247T q247H q247k (by omega)) (fun r251 w252 h253 => ?_)
        obtain ⟨rfl, q254f, q254T, q254H, q254k, q254x⟩ := h253
        refine e_Ok.nrm (q := 101) (st' := []) rfl rfl ?_
        refine e_Ok.ps2 (x := (0, 0)) (y := (1, 1)) (q := 103) 2 rfl ?_
        refine e_Ok.putf rfl (el_o rfl) rfl rfl ?_
        generalize hw258 : e_up w252 1 12 0 = w258
        have hT260 : e_Has kTy w258 := e_Has.ups q254T hw258 (kt_o rfl)
        have hH261 : e_Has kRy w258 := e_Has.upr q254H hw258 rfl (by omega)
        have g263 : e_fr (fun c k => c = 1 ∧ 11 ≤ k ∧ k ≤ 13) w252 w258 := fun c k g => by have g2 : ¬ (c = 1 ∧ 11 ≤ k ∧ k ≤ 13) := g; rw [← hw258]; exact e_up_ne _ _ (by omega)
        refine e_Ok.ps2 (x := (0, (-1))) (y := (1, 1)) (q := 108) 2 rfl ?_
        refine e_Ok.putf rfl (el_o rfl) rfl rfl ?_
        generalize hw266 : e_up w258 1 13 (-1) = w266
        have hT268 : e_Has kTy w266 := e_Has.ups hT260 hw266 (kt_o rfl)
        have hH269 : e_Has kRy w266 := e_Has.upr hH261 hw266 rfl (by omega)
        have g271 : e_fr (fun c k => c = 1 ∧ 11 ≤ k ∧ k ≤ 13) w258 w266 := fun c k g => by have g2 : ¬ (c = 1 ∧ 11 ≤ k ∧ k ≤ 13) := g; rw [← hw266]; exact e_up_ne _ _ (by omega)
        refine e_Ok.ps1 (x := (1, 1)) (q := 112) 1 rfl ?_
        refine e_Ok.callV rfl (e_dq hd rfl) rfl rfl rfl rfl (g_blk (o := o) (by omega) (by omega) w266 cd 0 (-1) ⟨hT268, hH269, (e_uq hw266 (Or.inr (by first | decide | omega)) (e_uq hw258 (Or.inr (by first | decide | omega)) ((q254f 1 3 no_dp_0).trans ((q247f 1 3 no_dp_0).trans (e_uq hw237 (Or.inr (by first | decide | omega)) (e_uq hw232 (Or.inl (by first | decide | omega)) (e_uq hw225 (Or.inl (by omega)) ((q66f 1 3 no_dp_2).trans ((q4f 1 3 no_dp_6).trans hc))))))))), hcd, (show tkR w266 from (show tkR w258 from q254k.eq (fun k g => by rw [← hw258]; exact e_up_ne _ _ (by omega))).eq (fun k g => by rw [← hw266]; exact e_up_ne _ _ (by omega)))⟩ (e_uq hw266 (Or.inr (by first | decide | omega)) (e_uq hw258 (Or.inr (by first | decide | omega)) ((q254f 1 11 no_dp_8).trans ((q247f 1 11 no_dp_8).trans (e_uq hw237 (Or.inr (by first | decide | omega)) (e_uq hw232 (Or.inl (by first | decide | omega)) (e_uq hw225 (Or.inl (by omega)) ((q66f 1 11 no_dp_12).trans ((q4f 1 11 no_dp_9).trans ho))))))))) (e_uq hw266 (Or.inr (by first | decide | omega)) (e_ue hw258)) (by omega) (e_ue hw266) (Or.inl rfl) trivial) (fun r274 w275 h276 => ?_)
        obtain ⟨rfl, q277f, ⟨q277T, q277H, q277c, -, q277k⟩, ⟨q277o, q277t, q277l⟩, q277x⟩ := h276
        refine e_Ok.nrm (q := 115) (st' := []) rfl rfl ?_
        refine e_Ok.ps2 (x := (0, 23)) (y := (1, 1)) (q := 118) 2 rfl ?_
        refine e_Ok.callV rfl (e_dq hd rfl) rfl rfl rfl rfl (c_129 (e_dq hd rfl) q277T q277H q277k (by omega)) (fun r281 w282 h283 => ?_)
        obtain ⟨rfl, q284f, q284T, q284H, q284k, q284x⟩ := h283
        have x287 : gS w w282 cd (-7) 0 0 0 0 := gS.trans (show gS w w275 cd (-4) 0 0 0 0 from gS.trans (show gS w w266 cd (-4) 0 0 0 0 from gS.trans (show gS w w258 cd (-4) 0 0 0 0 from gS.trans (show gS w w252 cd (-4) 0 0 0 0 from gS.trans (show gS w w245 cd (-3) 0 0 0 0 from gS.trans (show gS w w237 cd (-2) 0 0 0 0 from gS.trans x70 (show gS w64 w237 cd 0 0 0 0 0 from gS.rt ((e_Has.get q66T (c := cd) (k := 0) (lo := 0) (hi := 4000) (kD_0 hcd) (by decide)).1) hcd (fun c k g => by have g2 : ¬ (c = cd + 1 ∨ c = 7 ∨ (c = 1 ∧ k = 14)) := g; rw [← hw237, e_up_ne _ _ (by omega), ← hw232, e_up_ne _ _ (by omega), ← hw225, e_up_ne _ _ (by omega)]) ra rb (fun k g => by rw [← hw237, e_up_ne _ _ (by omega), ← hw232, e_up_ne _ _ (by omega), ← hw225, e_up_ne _ _ (by omega)])) (by omega)) (show gS w237 w245 cd (-1) 0 0 0 0 from gS.acc hcd ((e_Has.get hT239 (c := cd) (k := 0) (lo := 0) (hi := 4000) (kD_0 hcd) (by decide)).1) (by omega) q247f q247x (fun g => t241.a1 (by omega))) (by omega)) (show gS w245 w252 cd (-1) 0 0 0 0 from gS.acc hcd ((e_Has.get q247T (c := cd) (k := 0) (lo := 0) (hi := 4000) (kD_0 hcd) (by decide)).1) (by omega) q254f q254x (fun g => q247k.a1 (by omega))) (by omega)) (show gS w252 w258 cd 0 0 0 0 0 from gS.wr hcd ((e_Has.get q254T (c := cd) (k := 0) (lo := 0) (hi := 4000) (kD_0 hcd) (by decide)).1) (by omega) g263) (by omega)) (show gS w258 w266 cd 0 0 0 0 0 from gS.wr hcd ((e_Has.get hT260 (c := cd) (k := 0) (lo := 0) (hi := 4000) (kD_0 hcd) (by decide)).1) (by omega) g271) (by omega)) (show gS w266 w275 cd 0 0 0 0 0 from q277x) (by omega)) (show gS w275 w282 cd (-3) 0 0 0 0 from gS.acc hcd ((e_Has.get q277T (c := cd) (k := 0) (lo := 0) (hi := 4000) (kD_0 hcd) (by decide)).1) (by omega) q284f q284x (fun g => q277k.a3 (by omega))) (by omega)
        refine e_Ok.nrm (q := 121) (st' := []) rfl rfl ?_
        refine e_Ok.ps1 (x := (1, 1)) (q := 122) 1 rfl ?_
        refine e_Ok.getr (z := cd) rfl (el_o rfl) rfl rfl ((q284f 1 3 no_dp_0).trans ((q277f 1 3 (by unfold kRt; omega)).trans (e_uq hw266 (Or.inr (by decide)) (e_uq hw258 (Or.inr (by decide)) ((q254f 1 3 no_dp_0).trans ((q247f 1 3 no_dp_0).trans (e_uq hw237 (Or.inr (by decide)) (e_uq hw232 (Or.inl (by decide)) (e_uq hw225 (Or.inl (by omega)) ((q66f 1 3 no_dp_2).trans ((q4f 1 3 no_dp_6).trans hc))))))))))) (by omega) ?_
        refine e_Ok.ps2 (x := (0, 0)) (y := (0, 43)) (q := 128) 2 rfl ?_
        refine e_Ok.callV rfl (e_dq hd rfl) rfl (lD0 hcd) rfl rfl (c_21 q284T hcd (by omega) (by omega)) (fun r288 w289 h290 => ?_)
        obtain ⟨z292, rfl, q291f, q291T, q291x⟩ := h290
        have q291z : 0 ≤ z292 ∧ z292 ≤ 4000 := by have g := e_Has.get q284T (c := cd) (k := 0) (lo := 0) (hi := 4000) (kD_0 hcd) (by decide); unfold emQ at q291x; omega
        refine e_Ok.nrm (q := 131) (st' := [(0, z292)]) rfl rfl ?_
        refine e_Ok.run (t' := (132, [(0, (1, 1))], [], w289)) 1 rfl ?_
        refine e_Ok.rets rfl rfl ?_
        have yo : w289 1 11 = o := ((q291f 1 11 (by unfold kEm; omega)).trans ((q284f 1 11 no_dp_8).trans (q277o.trans (e_uq hw266 (Or.inr (by decide)) (e_uq hw258 (Or.inr (by decide)) ((q254f 1 11 no_dp_8).trans ((q247f 1 11 no_dp_8).trans (e_uq hw237 (Or.inr (by decide)) (e_uq hw232 (Or.inl (by decide)) (e_uq hw225 (Or.inl (by omega)) ((q66f 1 11 no_dp_12).trans ((q4f 1 11 no_dp_9).trans ho))))))))))))
        exact ⟨rfl, (show e_fr (kRr cd) w w289 from e_fr.trans (show e_fr (kRr cd) w w282 from e_fr.trans (show e_fr (kRr cd) w w275 from e_fr.trans (show e_fr (kRr cd) w w266 from e_fr.up (show e_fr (kRr cd) w w258 from e_fr.up (show e_fr (kRr cd) w w252 from e_fr.trans (show e_fr (kRr cd) w w245 from e_fr.trans (show e_fr (kRr cd) w w237 from e_fr.up (show e_fr (kRr cd) w w232 from e_fr.up (show e_fr (kRr cd) w w225 from e_fr.up f68 hw225 (by first | exact Or.inr (Or.inr (Or.inl (by omega))) | (unfold kRr; omega))) hw232 (by first | exact Or.inr (Or.inr (Or.inr (Or.inr (Or.inr rfl)))) | (unfold kRr; omega))) hw237 (by first | exact Or.inl ⟨rfl, Or.inr (Or.inr ⟨(by decide), (by decide)⟩)⟩ | (unfold kRr; omega))) (e_fr.mono q247f (fun c k q => by first | exact su_dp_27 q | (unfold kRk at q; unfold kRr; omega)))) (e_fr.mono q254f (fun c k q => by first | exact su_dp_27 q | (unfold kRk at q; unfold kRr; omega)))) hw258 (by first | exact Or.inl ⟨rfl, Or.inr (Or.inr ⟨(by decide), (by decide)⟩)⟩ | (unfold kRr; omega))) hw266 (by first | exact Or.inl ⟨rfl, Or.inr (Or.inr ⟨(by decide), (by decide)⟩)⟩ | (unfold kRr; omega))) (e_fr.mono q277f (fun c k q => by first | exact su_dp_28 q | (unfold kRt at q; unfold kRr; omega)))) (e_fr.mono q284f (fun c k q => by first | exact su_dp_27 q | (unfold kRk at q; unfold kRr; omega)))) (e_fr.mono q291f (fun c k q => by first | exact su_dp_29 q | (unfold kEm at q; unfold kRr; omega)))), ⟨q291T, (show e_Has kRy w289 from H_fr q291f (fun c k g => by unfold kEm at g; omega) q284H), ((q291f 1 3 (by unfold kEm; omega)).trans ((q284f 1 3 no_dp_0).trans ((q277f 1 3 (by unfold kRt; omega)).trans (e_uq hw266 (Or.inr (by first | decide | omega)) (e_uq hw258 (Or.inr (by first | decide | omega)) ((q254f 1 3 no_dp_0).trans ((q247f 1 3 no_dp_0).trans (e_uq hw237 (Or.inr (by first | decide | omega)) (e_uq hw232 (Or.inl (by first | decide | omega)) (e_uq hw225 (Or.inl (by omega)) ((q66f 1 3 no_dp_2).trans ((q4f 1 3 no_dp_6).trans hc)))))))))))), hcd, (show tkR w289 from (q284k.fr q291f (fun k g => by unfold kEm; omega)))⟩, yo, (show gS w w289 cd (-6) 0 0 0 0 from gS.trans x287 (show gS w282 w289 cd 1 0 0 0 0 from gS.big hcd ((e_Has.get q284T (c := cd) (k := 0) (lo := 0) (hi := 4000) (kD_0 hcd) (by decide)).1) (by omega) q291f q291x (by omega) (by omega) (fun g => by omega) (fun g => by omega)) (by omega)).le (by omega)⟩
theorem c_23_r {d : Nat} {w : eW} (hT : e_Has kTy w) {cd : Int} (hcd : isCd cd) {p : Int} (g_p : (-2147483648) ≤ p ∧ p ≤ 2147483647) : e_Ok 20 elay kcode eI d 23 (0, [(0, (1, cd)), (1, (0, p))], [], w) (fun r w' => ∃ z : Int, r = [(0, z)] ∧ w = w' ∧ (0 ≤ z ∧ z ≤ 63) ∧ (((0 ≤ p ∧ p < w cd 0) ∧ z = w (cd + 2) p % 64) ∨ ((p < 0 ∨ w cd 0 ≤ p) ∧ z = 43))) := by
  have hcd2 := hcd; unfold isCd at hcd2
  have hcd3 : 2 ≤ cd ∧ cd ≤ 145 := by omega
  have pL := e_Has.get hT (c := cd) (k := 0) (lo := 0) (hi := 4000) (kD_0 hcd) (by decide)
  refine e_Ok.ps1 (x := (0, p)) (q := 1) 1 rfl ?_
  refine e_Ok.if1 rfl (fun h1 => ?_) (fun h1 => ?_)
  · replace h1 : (p : Int) < 0 := h1
    refine e_Ok.ps1 (x := (0, 43)) (q := 26) 1 rfl ?_
    refine e_Ok.rets rfl rfl ?_
    exact ⟨_, rfl, rfl, by omega, Or.inr ⟨by omega, rfl⟩⟩
  · replace h1 : (p : Int) ≥ 0 := Int.not_lt.mp (show ¬ ((p : Int) < 0) from h1)
    refine e_Ok.ps2 (x := (1, cd)) (y := (0, p)) (q := 6) 2 rfl ?_
    have h2 := (e_Has.get hT (c := cd) (k := 0) (lo := 0) (hi := 4000) (kD_0 hcd) (by decide))
    refine e_Ok.getf (z := w cd 0) rfl (lD0 hcd) rfl rfl rfl (e_bq h2 (by decide) (by decide)) ?_
    refine e_Ok.if2 rfl (fun h3 => ?_) (fun h3 => ?_)
    · replace h3 : (p : Int) ≥ w cd 0 := h3
      refine e_Ok.ps1 (x := (0, 43)) (q := 26) 1 rfl ?_
      refine e_Ok.rets rfl rfl ?_
      exact ⟨_, rfl, rfl, by omega, Or.inr ⟨by omega, rfl⟩⟩
    · replace h3 : (p : Int) < w cd 0 := Int.not_le.mp (show ¬ ((p : Int) ≥ w cd 0) from h3)
      refine e_Ok.ps1 (x := (1, cd)) (q := 13) 1 rfl ?_
      refine e_Ok.getr (z := cd + 2) rfl (lD0 hcd) rfl rfl (Eq.trans (e_Has.eq hT (kD_4 hcd)) (by omega)) (by omega) ?_
      refine e_Ok.ps1 (x := (0, p)) (q := 17) 1 rfl ?_
      have h4 := (e_Has.get hT (c := cd + 2) (k := p) (lo := (-2147483648)) (hi := 2147483647) (kD2 (d := cd) _ (by omega) hcd) (by decide))
      refine e_Ok.ald (z := w (cd + 2) p) rfl (lD2 (d := cd) (by omega) hcd) rfl (by omega) rfl (e_bq h4 (by decide) (by decide)) ?_
      refine e_Ok.ps1 (x := (0, 63)) (q := 20) 1 rfl ?_
      refine e_Ok.andm 63 6 rfl (by decide) (fun z5 hz5 => ?_)
      replace hz5 : z5 = (w (cd + 2) p) % 64 := hz5
      have hz5r : 0 ≤ z5 ∧ z5 ≤ 63 := by omega
      refine e_Ok.ps0 (q := 26) 1 rfl ?_
      refine e_Ok.rets rfl rfl ?_
      exact ⟨_, rfl, rfl, by omega, Or.inl ⟨by omega, by omega⟩⟩
theorem c_24_r {d : Nat} {w : eW} (hT : e_Has kTy w) {cd : Int} (hcd : isCd cd) {p : Int} (g_p : (-2147483648) ≤ p ∧ p ≤ 2147483647) : e_Ok 20 elay kcode eI d 24 (0, [(0, (1, cd)), (1, (0, p))], [], w) (fun r w' => ∃ z : Int, r = [(0, z)] ∧ w = w' ∧ (-33554432 ≤ z ∧ z ≤ 33554431) ∧ (((0 ≤ p ∧ p < w cd 0) ∧ z = w (cd + 2) p / 64) ∨ ((p < 0 ∨ w cd 0 ≤ p) ∧ z = 0))) := by
  have hcd2 := hcd; unfold isCd at hcd2
  have hcd3 : 2 ≤ cd ∧ cd ≤ 145 := by omega
  have pL := e_Has.get hT (c := cd) (k := 0) (lo := 0) (hi := 4000) (kD_0 hcd) (by decide)
  refine e_Ok.ps1 (x := (0, p)) (q := 1) 1 rfl ?_
  refine e_Ok.if1 rfl (fun h1 => ?_) (fun h1 => ?_)
  · replace h1 : (p : Int) < 0 := h1
    refine e_Ok.ps1 (x := (0, 0)) (q := 25) 1 rfl ?_
    refine e_Ok.rets rfl rfl ?_
    exact ⟨_, rfl, rfl, by omega, Or.inr ⟨by omega, rfl⟩⟩
  · replace h1 : (p : Int) ≥ 0 := Int.not_lt.mp (show ¬ ((p : Int) < 0) from h1)
    refine e_Ok.ps2 (x := (1, cd)) (y := (0, p)) (q := 6) 2 rfl ?_
    have h2 := (e_Has.get hT (c := cd) (k := 0) (lo := 0) (hi := 4000) (kD_0 hcd) (by decide))
    refine e_Ok.getf (z := w cd 0) rfl (lD0 hcd) rfl rfl rfl (e_bq h2 (by decide) (by decide)) ?_
    refine e_Ok.if2 rfl (fun h3 => ?_) (fun h3 => ?_)
    · replace h3 : (p : Int) ≥ w cd 0 := h3
      refine e_Ok.ps1 (x := (0, 0)) (q := 25) 1 rfl ?_
      refine e_Ok.rets rfl rfl ?_
      exact ⟨_, rfl, rfl, by omega, Or.inr ⟨by omega, rfl⟩⟩
    · replace h3 : (p : Int) < w cd 0 := Int.not_le.mp (show ¬ ((p : Int) ≥ w cd 0) from h3)
      refine e_Ok.ps1 (x := (1, cd)) (q := 13) 1 rfl ?_
      refine e_Ok.getr (z := cd + 2) rfl (lD0 hcd) rfl rfl (Eq.trans (e_Has.eq hT (kD_4 hcd)) (by omega)) (by omega) ?_
      refine e_Ok.ps1 (x := (0, p)) (q := 17) 1 rfl ?_
      have h4 := (e_Has.get hT (c := cd + 2) (k := p) (lo := (-2147483648)) (hi := 2147483647) (kD2 (d := cd) _ (by omega) hcd) (by decide))
      refine e_Ok.ald (z := w (cd + 2) p) rfl (lD2 (d := cd) (by omega) hcd) rfl (by omega) rfl (e_bq h4 (by decide) (by decide)) ?_
      refine e_Ok.ps1 (x := (0, 6)) (q := 20) 1 rfl ?_
      refine e_Ok.shr6 rfl (by omega) (fun z5 hz5 => ?_)
      replace hz5 : z5 = (w (cd + 2) p) / 64 := hz5
      refine e_Ok.ps0 (q := 25) 1 rfl ?_
      refine e_Ok.rets rfl rfl ?_
      exact ⟨_, rfl, rfl, by omega, Or.inl ⟨by omega, by omega⟩⟩
theorem su_dp_31 {cd : Int} {c k : Int} (q : kPa cd c k) : kRf cd c k := by
  unfold kPa at q
  rcases q with q
  · exact Or.inr (Or.inr (by omega))
theorem su_dp_32 {cd : Int} {c k : Int} (q : kRc c k) : kRf cd c k := by
  unfold kRc at q
  rcases q with ⟨q, (q | q)⟩
  · exact Or.inl ⟨(by omega), Or.inl (by omega)⟩
  · exact Or.inl ⟨(by omega), Or.inr (by omega)⟩
set_option maxHeartbeats 4000000 in
theorem c_138 {d : Nat} (hd : 25 ≤ d) {w : eW} {cd : Int} (hS : rS w cd) : e_Ok 20 elay kcode eI d 138 (0, [(0, (1, 1))], [], w) (fun r w' => r = [] ∧ e_fr (kRf cd) w w' ∧ rS w' cd ∧ ∃ n, (n ≤ 32 ∧ n ≤ w 1 14) ∧ w' cd 1 = n ∧ (nF w' → nF w ∧ fR w w' cd (w cd 0) n)) := by
  obtain ⟨d, rfl⟩ : ∃ e, d = e + 1 := ⟨d - 1, by omega⟩
  obtain ⟨hT, hH, hc, hcd, hk⟩ := hS
  have hcd2 := hcd; unfold isCd at hcd2
  have hcd3 : 2 ≤ cd ∧ cd ≤ 145 := by omega
  have pL := e_Has.get hT (c := cd) (k := 0) (lo := 0) (hi := 4000) (kD_0 hcd) (by decide)
  have p1 := e_Has.get hH (c := 1) (k := 1) (lo := (-2147483648)) (hi := 2147483647) rfl (by decide)
  have p5 := e_Has.get hH (c := 1) (k := 5) (lo := 0) (hi := 53) rfl (by decide)
  have p6 := e_Has.get hH (c := 1) (k := 6) (lo := 0) (hi := 4000) rfl (by decide)
  have p9 := e_Has.get hH (c := 1) (k := 9) (lo := (-2147483648)) (hi := 2147483647) rfl (by decide)
  have p14 := e_Has.get hH (c := 1) (k := 14) (lo := 0) (hi := 500) rfl (by decide)
  refine e_Ok.ps1 (x := (1, 1)) (q := 1) 1 rfl ?_
  refine e_Ok.getr (z := cd) rfl (el_o rfl) rfl rfl hc (by omega) ?_
  refine e_Ok.ps1 (x := (1, 1)) (q := 5) 1 rfl ?_
  have h1 := (e_Has.get hH (c := 1) (k := 14) (lo := 0) (hi := 500) rfl (by decide))
  refine e_Ok.getf (z := w 1 14) rfl (el_o rfl) rfl rfl rfl (e_bq h1 (by decide) (by decide)) ?_
  refine e_Ok.ps1 (x := (0, 32)) (q := 10) 1 rfl ?_
  refine e_Ok.mmin rfl rfl (fun z2 hz2 => ?_)
  replace hz2 : (32 < w 1 14 ∧ z2 = 32) ∨ ((w 1 14) ≤ 32 ∧ z2 = w 1 14) := hz2
  obtain ⟨n14, hn14⟩ : ∃ n, n = z2 := ⟨_, rfl⟩
  refine e_Ok.putf rfl (lD0 hcd) rfl rfl ?_
  generalize hw3 : e_up w cd 1 z2 = w3
  have f4 : e_fr (kRf cd) w w3 := e_fr.up (e_fr.refl w) hw3 (by first | exact Or.inr (Or.inl ⟨(by omega), rfl⟩) | (unfold kRf; omega))
  have l5 : w3 1 14 = w 1 14 := f4 1 14 (by unfold kRf; omega)
  have l6 : w3 cd 0 = w cd 0 := f4 cd 0 (by unfold kRf; omega)
  have hT7 : e_Has kTy w3 := e_Has.upr hT hw3 (kD_1 hcd) (by omega)
  have hH8 : e_Has kRy w3 := e_Has.ups hH hw3 (kRy_D (by omega) (by omega))
  have y0 : nF w3 → nF w ∧ fR w w3 cd 0 n14 := fun n => ⟨⟨by rw [show w 1 1 = w3 1 1 from by rw [← hw3]; exact (e_up_ne _ _ (by omega)).symm]; exact n.1, by rw [show w 1 9 = w3 1 9 from by rw [← hw3]; exact (e_up_ne _ _ (by omega)).symm]; exact n.2⟩, fun p g1 g2 => Or.inl ⟨by rw [← hw3]; exact e_up_ne _ _ (by omega), Or.inl g1⟩⟩
  refine e_Ok.run (t' := (18, [(1, (0, 0)), (0, (1, 1))], [], w3)) 2 rfl ?_
  have hL10 : ∀ (nn : Nat) (y1 : Int) (v1 : eW), e_fr (kRf cd) w v1 ∧ e_Has kTy v1 ∧ e_Has kRy v1 ∧ tkR v1 ∧ ((nF v1 → nF w ∧ fR w v1 cd y1 n14)) ∧ ((0 ≤ y1 ∧ y1 ≤ w cd 0)) ∧ v1 cd 1 = n14 → 4001 - y1 < nn → e_Ok 20 elay kcode eI (d + 1) 138 (18, [(0, (1, 1)), (1, (0, y1))], [], v1) (fun r w' => r = [] ∧ e_fr (kRf cd) w w' ∧ rS w' cd ∧ ∃ n, (n ≤ 32 ∧ n ≤ w 1 14) ∧ w' cd 1 = n ∧ (nF w' → nF w ∧ fR w w' cd (w cd 0) n)) := by
    intro nn
    induction nn with
    | zero => intro y1 v1 hj hm; obtain ⟨j12, j13, j14, j15, j16, j17, j18⟩ := hj; exfalso; omega
    | succ nn ih11 =>
      intro y1 v1 hj hm
      obtain ⟨j12, j13, j14, j15, j16, j17, j18⟩ := hj
      have l19 : v1 1 14 = w 1 14 := j12 1 14 (by unfold kRf; omega)
      have l20 : v1 cd 0 = w cd 0 := j12 cd 0 (by unfold kRf; omega)
      refine e_Ok.run (t' := (20, [(0, (1, 1)), (1, (0, y1))], [(1, 1), (0, y1)], v1)) 2 rfl ?_
      refine e_Ok.getr (z := cd) rfl (el_o rfl) rfl rfl ((j12 1 3 (by unfold kRf; omega)).trans hc) (by omega) ?_
      refine e_Ok.getf (z := w cd 0) rfl (lD0 hcd) rfl rfl ((j12 cd 0 (by unfold kRf; omega)).trans rfl) (by omega) ?_
      refine e_Ok.if2 rfl (fun h21 => ?_) (fun h21 => ?_)
      · replace h21 : (y1 : Int) ≥ w cd 0 := h21
        refine e_Ok.rets rfl rfl ?_
        exact ⟨rfl, j12, ⟨j13, j14, ((j12 1 3 (by unfold kRf; omega)).trans hc), hcd, j15⟩, n14, by omega, j18, fun n => ⟨(j16 n).1, by have g := (j16 n).2; rw [show y1 = w cd 0 by have g2 : v1 cd 0 = w cd 0 := ((j12 cd 0 (by unfold kRf; omega)).trans rfl); omega] at g; exact g⟩⟩
      · replace h21 : (y1 : Int) < w cd 0 := Int.not_le.mp (show ¬ ((y1 : Int) ≥ w cd 0) from h21)
        refine e_Ok.ps1 (x := (1, 1)) (q := 30) 1 rfl ?_
        refine e_Ok.getr (z := cd) rfl (el_o rfl) rfl rfl ((j12 1 3 (by unfold kRf; omega)).trans hc) (by omega) ?_
        refine e_Ok.ps1 (x := (0, y1)) (q := 34) 1 rfl ?_
        refine e_Ok.callV rfl (e_dq hd rfl) rfl (lD0 hcd) rfl rfl (c_23_r j13 hcd (by omega)) (fun r22 w23 h24 => ?_)
        obtain ⟨z25, rfl, rfl, q26r, q26⟩ := h24
        refine e_Ok.nrm (q := 37) (st' := [(0, z25)]) rfl rfl ?_
        refine e_Ok.run (t' := (41, [(2, (0, z25)), (0, (1, 1)), (1, (0, y1))], [(0, 33), (0, z25)], v1)) 3 rfl ?_
        refine e_Ok.if2 rfl (fun h27 => ?_) (fun h27 => ?_)
        · replace h27 : (z25 : Int) = 33 := h27
          refine e_Ok.ps2 (x := (1, 1)) (y := (1, 1)) (q := 61) 2 rfl ?_
          refine e_Ok.getr (z := cd) rfl (el_o rfl) rfl rfl ((j12 1 3 (by unfold kRf; omega)).trans hc) (by omega) ?_
          refine e_Ok.ps1 (x := (0, y1)) (q := 65) 1 rfl ?_
          refine e_Ok.callV rfl (e_dq hd rfl) rfl (lD0 hcd) rfl rfl (c_24_r j13 hcd (by omega)) (fun r28 w29 h30 => ?_)
          obtain ⟨z31, rfl, rfl, q32r, q32⟩ := h30
          refine e_Ok.nrm (q := 68) (st' := [(0, z31), (1, 1)]) rfl rfl ?_
          refine e_Ok.callV rfl (e_dq hd rfl) rfl rfl rfl rfl (c_136 (e_dq hd rfl) j13 j14 (by omega)) (fun r33 w34 h35 => ?_)
          obtain ⟨z36, rfl, rfl, q37⟩ := h35
          refine e_Ok.nrm (q := 71) (st' := [(0, z36)]) rfl rfl ?_
          refine e_Ok.run (t' := (73, [(3, (0, z36)), (2, (0, z25)), (0, (1, 1)), (1, (0, y1))], [(0, z36)], v1)) 2 rfl ?_
          refine e_Ok.if1 rfl (fun h38 => ?_) (fun h38 => ?_)
          · replace h38 : (z36 : Int) ≥ 0 := h38
            refine e_Ok.ps1 (x := (1, 1)) (q := 93) 1 rfl ?_
            refine e_Ok.getr (z := cd) rfl (el_o rfl) rfl rfl ((j12 1 3 (by unfold kRf; omega)).trans hc) (by omega) ?_
            refine e_Ok.ps3 (x := (0, 31)) (y := (0, z36)) (z := (0, y1)) (q := 100) 3 rfl ?_
            refine e_Ok.mmin rfl rfl (fun z40 hz40 => ?_)
            replace hz40 : (31 < z36 ∧ z40 = 31) ∨ (z36 ≤ 31 ∧ z40 = z36) := hz40
            refine e_Ok.callV rfl (e_dq hd rfl) rfl (lD0 hcd) rfl rfl (c_22 j13 hcd (by omega) (by have g := e_Has.get j13 (c := cd) (k := 0) (lo := 0) (hi := 4000) (kD_0 hcd) (by decide); omega)) (fun r41 w42 h43 => ?_)
            obtain ⟨rfl, q44f, q44T, q44x⟩ := h43
            have f45 : e_fr (kRf cd) w w42 := e_fr.trans j12 (e_fr.mono q44f (fun c k q => by first | exact su_dp_31 q | (unfold kPa at q; unfold kRf; omega)))
            have l46 : w42 1 14 = w 1 14 := f45 1 14 (by unfold kRf; omega)
            have l47 : w42 cd 0 = w cd 0 := f45 cd 0 (by unfold kRf; omega)
            have y48 : nF w42 → nF w ∧ fR w w42 cd (y1 + 1) n14 := fun n => by have g := j16 ⟨by rw [← (fr_p q44f hcd).1]; exact n.1, by rw [← (fr_p q44f hcd).2.1]; exact n.2⟩; exact ⟨g.1, g.2.pat (by unfold isCl; omega) q44x (by have g2 : v1 cd 0 = w cd 0 := ((j12 cd 0 (by unfold kRf; omega)).trans rfl); omega) (by omega)⟩
            refine e_Ok.nrm (q := 106) (st' := []) rfl rfl ?_
            refine e_Ok.inc (z := y1 + 1) rfl rfl (by first | with_reducible rfl | omega) (by omega) ?_
            show e_Ok 20 elay kcode eI (d + 1) 138 (109, [(1, (0, y1 + 1)), (3, (0, z36)), (2, (0, z25)), (0, (1, 1))], [], w42) _
            refine e_Ok.ps0 (q := 18) 1 rfl ?_
            refine e_Ok.sub kAlk (e_sub_of rfl ?_) (ih11 (y1 + 1) w42 ⟨f45, q44T, (show e_Has kRy w42 from H_fr q44f (fun c k g => by unfold kPa at g; omega) j14), (show tkR w42 from j15.fr q44f (fun k g => by unfold kPa; omega)), y48, (by omega), ((q44f cd 1 (by unfold kPa; omega)).trans j18)⟩ (by omega))
            exact ⟨rfl, rfl, trivial⟩
          · replace h38 : (z36 : Int) < 0 := Int.not_le.mp (show ¬ ((z36 : Int) ≥ 0) from h38)
            refine e_Ok.ps3 (x := (1, 1)) (y := (0, 5)) (z := (1, 1)) (q := 79) 3 rfl ?_
            refine e_Ok.getr (z := cd) rfl (el_o rfl) rfl rfl ((j12 1 3 (by unfold kRf; omega)).trans hc) (by omega) ?_
            refine e_Ok.ps1 (x := (0, y1)) (q := 83) 1 rfl ?_
            refine e_Ok.callV rfl (e_dq hd rfl) rfl (lD0 hcd) rfl rfl (c_24_r j13 hcd (by omega)) (fun r49 w50 h51 => ?_)
            obtain ⟨z52, rfl, rfl, q53r, q53⟩ := h51
            refine e_Ok.nrm (q := 86) (st' := [(0, z52), (0, 5), (1, 1)]) rfl rfl ?_
            refine e_Ok.callV rfl (e_dq hd rfl) rfl rfl rfl rfl (c_133 j13 j14 j15 (by omega) (by omega)) (fun r54 w55 h56 => ?_)
            obtain ⟨rfl, q57f, q57T, q57H, q57k, q57n⟩ := h56
            have f58 : e_fr (kRf cd) w w55 := e_fr.trans j12 (e_fr.mono q57f (fun c k q => by first | exact su_dp_32 q | (unfold kRc at q; unfold kRf; omega)))
            have l59 : w55 1 14 = w 1 14 := f58 1 14 (by unfold kRf; omega)
            have l60 : w55 cd 0 = w cd 0 := f58 cd 0 (by unfold kRf; omega)
            have y61 : nF w55 → nF w ∧ fR w w55 cd (y1 + 1) n14 := fun n => absurd n q57n
            refine e_Ok.nrm (q := 89) (st' := []) rfl rfl ?_
            refine e_Ok.ps0 (q := 106) 1 rfl ?_
            refine e_Ok.inc (z := y1 + 1) rfl rfl (by first | with_reducible rfl | omega) (by omega) ?_
            show e_Ok 20 elay kcode eI (d + 1) 138 (109, [(1, (0, y1 + 1)), (3, (0, z36)), (2, (0, z25)), (0, (1, 1))], [], w55) _
            refine e_Ok.ps0 (q := 18) 1 rfl ?_
            refine e_Ok.sub kAlk (e_sub_of rfl ?_) (ih11 (y1 + 1) w55 ⟨f58, q57T, q57H, q57k, y61, (by omega), ((q57f cd 1 (by unfold kRc; omega)).trans j18)⟩ (by omega))
            exact ⟨rfl, rfl, trivial⟩
        · replace h27 : (z25 : Int) ≠ 33 := (show ¬ ((z25 : Int) = 33) from h27)
          refine e_Ok.ps2 (x := (0, 34)) (y := (0, z25)) (q := 47) 2 rfl ?_
          refine e_Ok.if2 rfl (fun h62 => ?_) (fun h62 => ?_)
          · replace h62 : (z25 : Int) = 34 := h62
            refine e_Ok.ps2 (x := (1, 1)) (y := (1, 1)) (q := 61) 2 rfl ?_
            refine e_Ok.getr (z := cd) rfl (el_o rfl) rfl rfl ((j12 1 3 (by unfold kRf; omega)).trans hc) (by omega) ?_
            refine e_Ok.ps1 (x := (0, y1)) (q := 65) 1 rfl ?_
            refine e_Ok.callV rfl (e_dq hd rfl) rfl (lD0 hcd) rfl rfl (c_24_r j13 hcd (by omega)) (fun r63 w64 h65 => ?_)
            obtain ⟨z66, rfl, rfl, q67r, q67⟩ := h65
            refine e_Ok.nrm (q := 68) (st' := [(0, z66), (1, 1)]) rfl rfl ?_
            refine e_Ok.callV rfl (e_dq hd rfl) rfl rfl rfl rfl (c_136 (e_dq hd rfl) j13 j14 (by omega)) (fun r68 w69 h70 => ?_)
            obtain ⟨z71, rfl, rfl, q72⟩ := h70
            refine e_Ok.nrm (q := 71) (st' := [(0, z71)]) rfl rfl ?_
            refine e_Ok.run (t' := (73, [(3, (0, z71)), (2, (0, z25)), (0, (1, 1)), (1, (0, y1))], [(0, z71)], v1)) 2 rfl ?_
            refine e_Ok.if1 rfl (fun h73 => ?_) (fun h73 => ?_)
            · replace h73 : (z71 : Int) ≥ 0 := h73
              refine e_Ok.ps1 (x := (1, 1)) (q := 93) 1 rfl ?_
              refine e_Ok.getr (z := cd) rfl (el_o rfl) rfl rfl ((j12 1 3 (by unfold kRf; omega)).trans hc) (by omega) ?_
              refine e_Ok.ps3 (x := (0, 31)) (y := (0, z71)) (z := (0, y1)) (q := 100) 3 rfl ?_
              refine e_Ok.mmin rfl rfl (fun z74 hz74 => ?_)
              replace hz74 : (31 < z71 ∧ z74 = 31) ∨ (z71 ≤ 31 ∧ z74 = z71) := hz74
              refine e_Ok.callV rfl (e_dq hd rfl) rfl (lD0 hcd) rfl rfl (c_22 j13 hcd (by omega) (by have g := e_Has.get j13 (c := cd) (k := 0) (lo := 0) (hi := 4000) (kD_0 hcd) (by decide); omega)) (fun r75 w76 h77 => ?_)
              obtain ⟨rfl, q78f, q78T, q78x⟩ := h77
              have f79 : e_fr (kRf cd) w w76 := e_fr.trans j12 (e_fr.mono q78f (fun c k q => by first | exact su_dp_31 q | (unfold kPa at q; unfold kRf; omega)))
              have l80 : w76 1 14 = w 1 14 := f79 1 14 (by unfold kRf; omega)
              have l81 : w76 cd 0 = w cd 0 := f79 cd 0 (by unfold kRf; omega)
              have y82 : nF w76 → nF w ∧ fR w w76 cd (y1 + 1) n14 := fun n => by have g := j16 ⟨by rw [← (fr_p q78f hcd).1]; exact n.1, by rw [← (fr_p q78f hcd).2.1]; exact n.2⟩; exact ⟨g.1, g.2.pat (by unfold isCl; omega) q78x (by have g2 : v1 cd 0 = w cd 0 := ((j12 cd 0 (by unfold kRf; omega)).trans rfl); omega) (by omega)⟩
              refine e_Ok.nrm (q := 106) (st' := []) rfl rfl ?_
              refine e_Ok.inc (z := y1 + 1) rfl rfl (by first | with_reducible rfl | omega) (by omega) ?_
              show e_Ok 20 elay kcode eI (d + 1) 138 (109, [(1, (0, y1 + 1)), (3, (0, z71)), (2, (0, z25)), (0, (1, 1))], [], w76) _
              refine e_Ok.ps0 (q := 18) 1 rfl ?_
              refine e_Ok.sub kAlk (e_sub_of rfl ?_) (ih11 (y1 + 1) w76 ⟨f79, q78T, (show e_Has kRy w76 from H_fr q78f (fun c k g => by unfold kPa at g; omega) j14), (show tkR w76 from j15.fr q78f (fun k g => by unfold kPa; omega)), y82, (by omega), ((q78f cd 1 (by unfold kPa; omega)).trans j18)⟩ (by omega))
              exact ⟨rfl, rfl, trivial⟩
            · replace h73 : (z71 : Int) < 0 := Int.not_le.mp (show ¬ ((z71 : Int) ≥ 0) from h73)
              refine e_Ok.ps3 (x := (1, 1)) (y := (0, 5)) (z := (1, 1)) (q := 79) 3 rfl ?_
              refine e_Ok.getr (z := cd) rfl (el_o rfl) rfl rfl ((j12 1 3 (by unfold kRf; omega)).trans hc) (by omega) ?_
              refine e_Ok.ps1 (x := (0, y1)) (q := 83) 1 rfl ?_
              refine e_Ok.callV rfl (e_dq hd rfl) rfl (lD0 hcd) rfl rfl (c_24_r j13 hcd (by omega)) (fun r83 w84 h85 => ?_)
              obtain ⟨z86, rfl, rfl, q87r, q87⟩ := h85
              refine e_Ok.nrm (q := 86) (st' := [(0, z86), (0, 5), (1, 1)]) rfl rfl ?_
              refine e_Ok.callV rfl (e_dq hd rfl) rfl rfl rfl rfl (c_133 j13 j14 j15 (by omega) (by omega)) (fun r88 w89 h90 => ?_)
              obtain ⟨rfl, q91f, q91T, q91H, q91k, q91n⟩ := h90
              have f92 : e_fr (kRf cd) w w89 := e_fr.trans j12 (e_fr.mono q91f (fun c k q => by first | exact su_dp_32 q | (unfold kRc at q; unfold kRf; omega)))
              have l93 : w89 1 14 = w 1 14 := f92 1 14 (by unfold kRf; omega)
              have l94 : w89 cd 0 = w cd 0 := f92 cd 0 (by unfold kRf; omega)
              have y95 : nF w89 → nF w ∧ fR w w89 cd (y1 + 1) n14 := fun n => absurd n q91n
              refine e_Ok.nrm (q := 89) (st' := []) rfl rfl ?_
              refine e_Ok.ps0 (q := 106) 1 rfl ?_
              refine e_Ok.inc (z := y1 + 1) rfl rfl (by first | with_reducible rfl | omega) (by omega) ?_
              show e_Ok 20 elay kcode eI (d + 1) 138 (109, [(1, (0, y1 + 1)), (3, (0, z71)), (2, (0, z25)), (0, (1, 1))], [], w89) _
              refine e_Ok.ps0 (q := 18) 1 rfl ?_
              refine e_Ok.sub kAlk (e_sub_of rfl ?_) (ih11 (y1 + 1) w89 ⟨f92, q91T, q91H, q91k, y95, (by omega), ((q91f cd 1 (by unfold kRc; omega)).trans j18)⟩ (by omega))
              exact ⟨rfl, rfl, trivial⟩
          · replace h62 : (z25 : Int) ≠ 34 := (show ¬ ((z25 : Int) = 34) from h62)
            refine e_Ok.ps2 (x := (0, 39)) (y := (0, z25)) (q := 53) 2 rfl ?_
            refine e_Ok.if2 rfl (fun h101 => ?_) (fun h101 => ?_)
            · replace h101 : (z25 : Int) = 39 := h101
              refine e_Ok.ps2 (x := (1, 1)) (y := (1, 1)) (q := 61) 2 rfl ?_
              refine e_Ok.getr (z := cd) rfl (el_o rfl) rfl rfl ((j12 1 3 (by unfold kRf; omega)).trans hc) (by omega) ?_
              refine e_Ok.ps1 (x := (0, y1)) (q := 65) 1 rfl ?_
              refine e_Ok.callV rfl (e_dq hd rfl) rfl (lD0 hcd) rfl rfl (c_24_r j13 hcd (by omega)) (fun r103 w104 h105 => ?_)
              obtain ⟨z106, rfl, rfl, q107r, q107⟩ := h105
              refine e_Ok.nrm (q := 68) (st' := [(0, z106), (1, 1)]) rfl rfl ?_
              refine e_Ok.callV rfl (e_dq hd rfl) rfl rfl rfl rfl (c_136 (e_dq hd rfl) j13 j14 (by omega)) (fun r108 w109 h110 => ?_)
              obtain ⟨z111, rfl, rfl, q112⟩ := h110
              refine e_Ok.nrm (q := 71) (st' := [(0, z111)]) rfl rfl ?_
              refine e_Ok.run (t' := (73, [(3, (0, z111)), (2, (0, z25)), (0, (1, 1)), (1, (0, y1))], [(0, z111)], v1)) 2 rfl ?_
              refine e_Ok.if1 rfl (fun h113 => ?_) (fun h113 => ?_)
              · replace h113 : (z111 : Int) ≥ 0 := h113
                refine e_Ok.ps1 (x := (1, 1)) (q := 93) 1 rfl ?_
                refine e_Ok.getr (z := cd) rfl (el_o rfl) rfl rfl ((j12 1 3 (by unfold kRf; omega)).trans hc) (by omega) ?_
                refine e_Ok.ps3 (x := (0, 31)) (y := (0, z111)) (z := (0, y1)) (q := 100) 3 rfl ?_
                refine e_Ok.mmin rfl rfl (fun z114 hz114 => ?_)
                replace hz114 : (31 < z111 ∧ z114 = 31) ∨ (z111 ≤ 31 ∧ z114 = z111) := hz114
                refine e_Ok.callV rfl (e_dq hd rfl) rfl (lD0 hcd) rfl rfl (c_22 j13 hcd (by omega) (by have g := e_Has.get j13 (c := cd) (k := 0) (lo := 0) (hi := 4000) (kD_0 hcd) (by decide); omega)) (fun r115 w116 h117 => ?_)
                obtain ⟨rfl, q118f, q118T, q118x⟩ := h117
                have f119 : e_fr (kRf cd) w w116 := e_fr.trans j12 (e_fr.mono q118f (fun c k q => by first | exact su_dp_31 q | (unfold kPa at q; unfold kRf; omega)))
                have l120 : w116 1 14 = w 1 14 := f119 1 14 (by unfold kRf; omega)
                have l121 : w116 cd 0 = w cd 0 := f119 cd 0 (by unfold kRf; omega)
                have y122 : nF w116 → nF w ∧ fR w w116 cd (y1 + 1) n14 := fun n => by have g := j16 ⟨by rw [← (fr_p q118f hcd).1]; exact n.1, by rw [← (fr_p q118f hcd).2.1]; exact n.2⟩; exact ⟨g.1, g.2.pat (by unfold isCl; omega) q118x (by have g2 : v1 cd 0 = w cd 0 := ((j12 cd 0 (by unfold kRf; omega)).trans rfl); omega) (by omega)⟩
                refine e_Ok.nrm (q := 106) (st' := []) rfl rfl ?_
                refine e_Ok.inc (z := y1 + 1) rfl rfl (by first | with_reducible rfl | omega) (by omega) ?_
                show e_Ok 20 elay kcode eI (d + 1) 138 (109, [(1, (0, y1 + 1)), (3, (0, z111)), (2, (0, z25)), (0, (1, 1))], [], w116) _
                refine e_Ok.ps0 (q := 18) 1 rfl ?_
                refine e_Ok.sub kAlk (e_sub_of rfl ?_) (ih11 (y1 + 1) w116 ⟨f119, q118T, (show e_Has kRy w116 from H_fr q118f (fun c k g => by unfold kPa at g; omega) j14), (show tkR w116 from j15.fr q118f (fun k g => by unfold kPa; omega)), y122, (by omega), ((q118f cd 1 (by unfold kPa; omega)).trans j18)⟩ (by omega))
                exact ⟨rfl, rfl, trivial⟩
              · replace h113 : (z111 : Int) < 0 := Int.not_le.mp (show ¬ ((z111 : Int) ≥ 0) from h113)
                refine e_Ok.ps3 (x := (1, 1)) (y := (0, 5)) (z := (1, 1)) (q := 79) 3 rfl ?_
                refine e_Ok.getr (z := cd) rfl (el_o rfl) rfl rfl ((j12 1 3 (by unfold kRf; omega)).trans hc) (by omega) ?_
                refine e_Ok.ps1 (x := (0, y1)) (q := 83) 1 rfl ?_
                refine e_Ok.callV rfl (e_dq hd rfl) rfl (lD0 hcd) rfl rfl (c_24_r j13 hcd (by omega)) (fun r123 w124 h125 => ?_)
                obtain ⟨z126, rfl, rfl, q127r, q127⟩ := h125
                refine e_Ok.nrm (q := 86) (st' := [(0, z126), (0, 5), (1, 1)]) rfl rfl ?_
                refine e_Ok.callV rfl (e_dq hd rfl) rfl rfl rfl rfl (c_133 j13 j14 j15 (by omega) (by omega)) (fun r128 w129 h130 => ?_)
                obtain ⟨rfl, q131f, q131T, q131H, q131k, q131n⟩ := h130
                have f132 : e_fr (kRf cd) w w129 := e_fr.trans j12 (e_fr.mono q131f (fun c k q => by first | exact su_dp_32 q | (unfold kRc at q; unfold kRf; omega)))
                have l133 : w129 1 14 = w 1 14 := f132 1 14 (by unfold kRf; omega)
                have l134 : w129 cd 0 = w cd 0 := f132 cd 0 (by unfold kRf; omega)
                have y135 : nF w129 → nF w ∧ fR w w129 cd (y1 + 1) n14 := fun n => absurd n q131n
                refine e_Ok.nrm (q := 89) (st' := []) rfl rfl ?_
                refine e_Ok.ps0 (q := 106) 1 rfl ?_
                refine e_Ok.inc (z := y1 + 1) rfl rfl (by first | with_reducible rfl | omega) (by omega) ?_
                show e_Ok 20 elay kcode eI (d + 1) 138 (109, [(1, (0, y1 + 1)), (3, (0, z111)), (2, (0, z25)), (0, (1, 1))], [], w129) _
                refine e_Ok.ps0 (q := 18) 1 rfl ?_
                refine e_Ok.sub kAlk (e_sub_of rfl ?_) (ih11 (y1 + 1) w129 ⟨f132, q131T, q131H, q131k, y135, (by omega), ((q131f cd 1 (by unfold kRc; omega)).trans j18)⟩ (by omega))
                exact ⟨rfl, rfl, trivial⟩
            · replace h101 : (z25 : Int) ≠ 39 := (show ¬ ((z25 : Int) = 39) from h101)
              refine e_Ok.ps0 (q := 106) 1 rfl ?_
              refine e_Ok.inc (z := y1 + 1) rfl rfl (by first | with_reducible rfl | omega) (by omega) ?_
              show e_Ok 20 elay kcode eI (d + 1) 138 (109, [(1, (0, y1 + 1)), (2, (0, z25)), (0, (1, 1))], [], v1) _
              refine e_Ok.ps0 (q := 18) 1 rfl ?_
              refine e_Ok.sub kAlk (e_sub_of rfl ?_) (ih11 (y1 + 1) v1 ⟨j12, j13, j14, j15, (fun n => ⟨(j16 n).1, (j16 n).2.skip (by unfold isCl; omega)⟩), (by omega), j18⟩ (by omega))
              exact ⟨rfl, rfl, trivial⟩
  refine e_Ok.sub kAlk (e_sub_of rfl ?_) (hL10 (4001 + 1 : Int).toNat 0 w3 ⟨f4, hT7, hH8, (show tkR w3 from hk.eq (fun k g => by rw [← hw3]; exact e_up_ne _ _ (by omega))), y0, (by omega), (by rw [hn14]; exact (e_ue hw3))⟩ (by omega))
  exact ⟨rfl, rfl, trivial⟩
theorem c_20 {d : Nat} {w : eW} (hT : e_Has kTy w) {cd : Int} (hcd : isCd cd) : e_Ok 20 elay kcode eI d 20 (0, [(0, (1, cd))], [], w) (fun r w' => r = [] ∧ e_fr (kCl0 cd) w w' ∧ e_Has kTy w' ∧ (w' cd 0 = 0 ∧ w' cd 1 = 0 ∧ w' cd 2 = 0)) := by
  have hcd2 := hcd; unfold isCd at hcd2
  have hcd3 : 2 ≤ cd ∧ cd ≤ 145 := by omega
  refine e_Ok.ps2 (x := (0, 0)) (y := (1, cd)) (q := 2) 2 rfl ?_
  refine e_Ok.putf rfl (lD0 hcd) rfl rfl ?_
  generalize hw1 : e_up w cd 0 0 = w1
  have hT3 : e_Has kTy w1 := e_Has.upr hT hw1 (kD_0 hcd) (by omega)
  refine e_Ok.ps2 (x := (0, 0)) (y := (1, cd)) (q := 7) 2 rfl ?_
  refine e_Ok.putf rfl (lD0 hcd) rfl rfl ?_
  generalize hw4 : e_up w1 cd 1 0 = w4
  have hT6 : e_Has kTy w4 := e_Has.upr hT3 hw4 (kD_1 hcd) (by omega)
  refine e_Ok.ps2 (x := (0, 0)) (y := (1, cd)) (q := 12) 2 rfl ?_
  refine e_Ok.putf rfl (lD0 hcd) rfl rfl ?_
  generalize hw7 : e_up w4 cd 2 0 = w7
  have hT9 : e_Has kTy w7 := e_Has.upr hT6 hw7 (kD_2 hcd) (by omega)
  refine e_Ok.rets rfl rfl ?_
  exact ⟨rfl, (show e_fr (kCl0 cd) w w7 from e_fr.up (show e_fr (kCl0 cd) w w4 from e_fr.up (show e_fr (kCl0 cd) w w1 from e_fr.up (e_fr.refl w) hw1 (by first | exact ⟨(by omega), ⟨(by decide), (by decide)⟩⟩ | (unfold kCl0; omega))) hw4 (by first | exact ⟨(by omega), ⟨(by decide), (by decide)⟩⟩ | (unfold kCl0; omega))) hw7 (by first | exact ⟨(by omega), ⟨(by decide), (by decide)⟩⟩ | (unfold kCl0; omega))), hT9, ⟨(e_uq hw7 (Or.inr (by first | decide | omega)) (e_uq hw4 (Or.inr (by first | decide | omega)) (e_ue hw1))), (e_uq hw7 (Or.inr (by first | decide | omega)) (e_ue hw4)), (e_ue hw7)⟩⟩
theorem no_dp_15 {cd : Int} : ¬ kCl0 cd 1 7 := by unfold kCl0; omega
theorem no_dp_16 {cd : Int} : ¬ kRv cd 1 14 := by unfold kRv; omega
theorem no_dp_17 {cd : Int} : ¬ kRv cd 1 11 := by unfold kRv; omega
theorem no_dp_18 {cd : Int} : ¬ kCl0 cd 1 14 := by unfold kCl0; omega
theorem no_dp_19 {cd : Int} : ¬ kCl0 cd 1 11 := by unfold kCl0; omega
theorem su_dp_33 {cd : Int} {c k : Int} (q : kCl0 cd c k) : kRr cd c k := by
  unfold kCl0 at q
  rcases q with ⟨q, ⟨q, q⟩⟩
  · exact Or.inr (Or.inl ⟨(by omega), ⟨(by omega), (by omega)⟩⟩)
theorem su_dp_34 {cd : Int} {c k : Int} (q : kRf cd c k) : kRr cd c k := by
  unfold kRf at q
  rcases q with ⟨q, (q | q)⟩ | ⟨q, q⟩ | q
  · exact Or.inl ⟨(by omega), Or.inr (Or.inr ⟨(by omega), (by omega)⟩)⟩
  · exact Or.inl ⟨(by omega), Or.inr (Or.inr ⟨(by omega), (by omega)⟩)⟩
  · exact Or.inr (Or.inl ⟨(by omega), ⟨(by omega), (by omega)⟩⟩)
  · exact Or.inr (Or.inr (Or.inr (Or.inl (by omega))))
theorem su_dp_35 {cd : Int} {c k : Int} (q : kRv cd c k) : kRr cd c k := by
  unfold kRv at q
  rcases q with ⟨q, (q | q | ⟨q, q⟩)⟩ | ⟨q, q⟩ | q
  · exact Or.inl ⟨(by omega), Or.inl (by omega)⟩
  · exact Or.inl ⟨(by omega), Or.inr (Or.inl (by omega))⟩
  · exact Or.inl ⟨(by omega), Or.inr (Or.inr ⟨(by omega), (by omega)⟩)⟩
  · exact Or.inr (Or.inl ⟨(by omega), ⟨(by omega), (by omega)⟩⟩)
  · exact Or.inr (Or.inr (Or.inr (Or.inr (Or.inl (by omega)))))
set_option maxHeartbeats 4000000 in
theorem c_119 {d : Nat} (hd : 449 ≤ d) {w : eW} (hT : e_Has kTy w) (hH : e_Has kRy w) {cd : Int} (hc : w 1 3 = cd) (hcd : isCd cd) : e_Ok 20 elay kcode eI d 119 (0, [(0, (1, 1))], [], w) (fun r w' => r = [] ∧ e_fr (kRr cd) w w' ∧ e_Has kTy w' ∧ e_Has kRy w' ∧ w' 1 3 = cd ∧ (w' 1 1 = 0 → codK w' cd)) := by
  obtain ⟨d, rfl⟩ : ∃ e, d = e + 1 := ⟨d - 1, by omega⟩
  have hcd2 := hcd; unfold isCd at hcd2
  have hcd3 : 2 ≤ cd ∧ cd ≤ 145 := by omega
  have p0 := e_Has.get hH (c := 1) (k := 0) (lo := 0) (hi := 4000) rfl (by decide)
  have p6 := e_Has.get hH (c := 1) (k := 6) (lo := 0) (hi := 4000) rfl (by decide)
  have p7 := e_Has.get hH (c := 1) (k := 7) (lo := 0) (hi := 4000) rfl (by decide)
  have p1 := e_Has.get hH (c := 1) (k := 1) (lo := (-2147483648)) (hi := 2147483647) rfl (by decide)
  have p5 := e_Has.get hH (c := 1) (k := 5) (lo := 0) (hi := 53) rfl (by decide)
  have p6 := e_Has.get hH (c := 1) (k := 6) (lo := 0) (hi := 4000) rfl (by decide)
  have p9 := e_Has.get hH (c := 1) (k := 9) (lo := (-2147483648)) (hi := 2147483647) rfl (by decide)
  refine e_Ok.ps2 (x := (0, 0)) (y := (1, 1)) (q := 2) 2 rfl ?_
  refine e_Ok.putf rfl (el_o rfl) rfl rfl ?_
  generalize hw1 : e_up w 1 1 0 = w1
  have hT3 : e_Has kTy w1 := e_Has.ups hT hw1 (kt_o rfl)
  have hH4 : e_Has kRy w1 := e_Has.upr hH hw1 rfl (by omega)
  refine e_Ok.ps2 (x := (0, (-1))) (y := (1, 1)) (q := 7) 2 rfl ?_
  refine e_Ok.putf rfl (el_o rfl) rfl rfl ?_
  generalize hw5 : e_up w1 1 2 (-1) = w5
  have hT7 : e_Has kTy w5 := e_Has.ups hT3 hw5 (kt_o rfl)
  have hH8 : e_Has kRy w5 := e_Has.upr hH4 hw5 rfl (by omega)
  refine e_Ok.ps2 (x := (0, 0)) (y := (1, 1)) (q := 12) 2 rfl ?_
  refine e_Ok.putf rfl (el_o rfl) rfl rfl ?_
  generalize hw9 : e_up w5 1 9 0 = w9
  have hT11 : e_Has kTy w9 := e_Has.ups hT7 hw9 (kt_o rfl)
  have hH12 : e_Has kRy w9 := e_Has.upr hH8 hw9 rfl (by omega)
  refine e_Ok.ps2 (x := (0, 0)) (y := (1, 1)) (q := 17) 2 rfl ?_
  refine e_Ok.putf rfl (el_o rfl) rfl rfl ?_
  generalize hw13 : e_up w9 1 11 0 = w13
  have hT15 : e_Has kTy w13 := e_Has.ups hT11 hw13 (kt_o rfl)
  have hH16 : e_Has kRy w13 := e_Has.upr hH12 hw13 rfl (by omega)
  refine e_Ok.ps2 (x := (0, 0)) (y := (1, 1)) (q := 22) 2 rfl ?_
  refine e_Ok.putf rfl (el_o rfl) rfl rfl ?_
  generalize hw17 : e_up w13 1 14 0 = w17
  have hT19 : e_Has kTy w17 := e_Has.ups hT15 hw17 (kt_o rfl)
  have hH20 : e_Has kRy w17 := e_Has.upr hH16 hw17 rfl (by omega)
  refine e_Ok.ps2 (x := (0, 0)) (y := (1, 1)) (q := 27) 2 rfl ?_
  refine e_Ok.putf rfl (el_o rfl) rfl rfl ?_
  generalize hw21 : e_up w17 1 7 0 = w21
  have hT23 : e_Has kTy w21 := e_Has.ups hT19 hw21 (kt_o rfl)
  have hH24 : e_Has kRy w21 := e_Has.upr hH20 hw21 rfl (by omega)
  refine e_Ok.ps1 (x := (1, 1)) (q := 31) 1 rfl ?_
  refine e_Ok.getr (z := cd) rfl (el_o rfl) rfl rfl (e_uq hw21 (Or.inr (by decide)) (e_uq hw17 (Or.inr (by decide)) (e_uq hw13 (Or.inr (by decide)) (e_uq hw9 (Or.inr (by decide)) (e_uq hw5 (Or.inr (by decide)) (e_uq hw1 (Or.inr (by decide)) hc)))))) (by omega) ?_
  refine e_Ok.callV rfl (e_dq hd rfl) rfl (lD0 hcd) rfl rfl (c_20 hT23 hcd) (fun r25 w26 h27 => ?_)
  obtain ⟨rfl, q28f, q28T, q280, q281, q282⟩ := h27
  refine e_Ok.nrm (q := 37) (st' := []) rfl rfl ?_
  refine e_Ok.ps1 (x := (1, 1)) (q := 38) 1 rfl ?_
  have a7 : w26 1 7 = 0 := ((q28f 1 7 (by first | exact no_dp_15 | (unfold kCl0; omega))).trans (e_ue hw21))
  have a0 : w26 1 0 = w 1 0 := ((q28f 1 0 (by unfold kCl0; omega)).trans (e_uq hw21 (Or.inr (by decide)) (e_uq hw17 (Or.inr (by decide)) (e_uq hw13 (Or.inr (by decide)) (e_uq hw9 (Or.inr (by decide)) (e_uq hw5 (Or.inr (by decide)) (e_uq hw1 (Or.inr (by decide)) rfl)))))))
  refine e_Ok.callV rfl (e_dq hd rfl) rfl rfl rfl rfl (c_123 (e_dq hd rfl) q28T (show e_Has kRy w26 from H_fr q28f (fun c k g => by unfold kCl0 at g; omega) hH24) (by omega)) (fun r30 w31 h32 => ?_)
  obtain ⟨rfl, q33f, q33T, q33H, q33k, q33x, q334⟩ := h32
  refine e_Ok.nrm (q := 41) (st' := []) rfl rfl ?_
  refine e_Ok.run (t' := (43, [(1, (0, 0)), (0, (1, 1))], [], w31)) 2 rfl ?_
  have hL35 : ∀ (nn : Nat) (y1 : Int) (v1 : eW), e_fr (kRr cd) w v1 ∧ e_Has kTy v1 ∧ e_Has kRy v1 ∧ tkR v1 ∧ v1 cd 0 = 0 ∧ v1 1 14 = 0 ∧ v1 1 11 = 0 ∧ ((0 ≤ y1 ∧ y1 ≤ 4000)) → 4001 - y1 < nn → e_Ok 20 elay kcode eI (d + 1) 119 (43, [(0, (1, 1)), (1, (0, y1))], [], v1) (fun r w' => r = [] ∧ e_fr (kRr cd) w w' ∧ e_Has kTy w' ∧ e_Has kRy w' ∧ w' 1 3 = cd ∧ (w' 1 1 = 0 → codK w' cd)) := by
    intro nn
    induction nn with
    | zero => intro y1 v1 hj hm; obtain ⟨j37, j38, j40, j41, j42, j43, j44, j45⟩ := hj; exfalso; omega
    | succ nn ih36 =>
      intro y1 v1 hj hm
      obtain ⟨j37, j38, j40, j41, j42, j43, j44, j45⟩ := hj
      refine e_Ok.run (t' := (47, [(0, (1, 1)), (1, (0, y1))], [(0, 4000), (0, y1)], v1)) 2 rfl ?_
      refine e_Ok.if2 rfl (fun h46 => ?_) (fun h46 => ?_)
      · replace h46 : (y1 : Int) ≥ 4000 := h46
        refine e_Ok.run (t' := (71, [(1, (0, 0)), (0, (1, 1))], [], v1)) 2 rfl ?_
        have hL47 : ∀ (nn : Nat) (x1 : Int) (v2 : eW), e_fr (kRr cd) w v2 ∧ e_Has kTy v2 ∧ e_Has kRy v2 ∧ tkR v2 ∧ v2 1 11 = 0 ∧ rtJ v2 cd ∧ ((0 ≤ x1 ∧ x1 ≤ 4000)) → 4001 - x1 < nn → e_Ok 20 elay kcode eI (d + 1) 119 (71, [(0, (1, 1)), (1, (0, x1))], [], v2) (fun r w' => r = [] ∧ e_fr (kRr cd) w w' ∧ e_Has kTy w' ∧ e_Has kRy w' ∧ w' 1 3 = cd ∧ (w' 1 1 = 0 → codK w' cd)) := by
          intro nn
          induction nn with
          | zero => intro x1 v2 hj hm; obtain ⟨j49, j50, j51, j52, j53, j54, j55⟩ := hj; exfalso; omega
          | succ nn ih48 =>
            intro x1 v2 hj hm
            obtain ⟨j49, j50, j51, j52, j53, j54, j55⟩ := hj
            refine e_Ok.run (t' := (75, [(0, (1, 1)), (1, (0, x1))], [(0, 4000), (0, x1)], v2)) 2 rfl ?_
            refine e_Ok.if2 rfl (fun h56 => ?_) (fun h56 => ?_)
            · replace h56 : (x1 : Int) ≥ 4000 := h56
              refine e_Ok.ps1 (x := (1, 1)) (q := 98) 1 rfl ?_
              have h57 := (e_Has.get j51 (c := 1) (k := 5) (lo := 0) (hi := 53) rfl (by decide))
              refine e_Ok.getf (z := v2 1 5) rfl (el_o rfl) rfl rfl rfl (e_bq h57 (by decide) (by decide)) ?_
              refine e_Ok.if1 rfl (fun h58 => ?_) (fun h58 => ?_)
              · replace h58 : (v2 1 5 : Int) = 0 := h58
                refine e_Ok.ps1 (x := (1, 1)) (q := 109) 1 rfl ?_
                have h59 := (e_Has.get j51 (c := 1) (k := 1) (lo := (-2147483648)) (hi := 2147483647) rfl (by decide))
                refine e_Ok.getf (z := v2 1 1) rfl (el_o rfl) rfl rfl rfl (e_bq h59 (by decide) (by decide)) ?_
                refine e_Ok.if1 rfl (fun h60 => ?_) (fun h60 => ?_)
                · replace h60 : (v2 1 1 : Int) = 0 := h60
                  refine e_Ok.ps1 (x := (1, 1)) (q := 117) 1 rfl ?_
                  refine e_Ok.callV rfl (e_dq hd rfl) rfl rfl rfl rfl (c_138 (e_dq hd rfl) ⟨j50, j51, ((j49 1 3 (by unfold kRr; omega)).trans hc), hcd, j52⟩) (fun r61 w62 h63 => ?_)
                  obtain ⟨rfl, q64f, ⟨q64T, q64H, q64c, -, q64k⟩, q64n, q64r, q641, q64x⟩ := h63
                  have f1 : v2 1 1 = v2 1 1 := rfl
                  refine e_Ok.nrm (q := 120) (st' := []) rfl rfl ?_
                  refine e_Ok.ps2 (x := (1, 1)) (y := (1, 1)) (q := 122) 2 rfl ?_
                  have h66 := (e_Has.get q64H (c := 1) (k := 9) (lo := (-2147483648)) (hi := 2147483647) rfl (by decide))
                  refine e_Ok.getf (z := w62 1 9) rfl (el_o rfl) rfl rfl rfl (e_bq h66 (by decide) (by decide)) ?_
                  refine e_Ok.putf rfl (el_o rfl) rfl rfl ?_
                  generalize hw67 : e_up w62 1 1 (w62 1 9) = w67
                  have f68 : e_fr (kRr cd) w w67 := e_fr.up (show e_fr (kRr cd) w w62 from e_fr.trans j49 (e_fr.mono q64f (fun c k q => by first | exact su_dp_34 q | (unfold kRf at q; unfold kRr; omega)))) hw67 (by first | exact Or.inl ⟨rfl, Or.inl rfl⟩ | (unfold kRr; omega))
                  have hT69 : e_Has kTy w67 := e_Has.ups q64T hw67 (kt_o rfl)
                  have hH70 : e_Has kRy w67 := e_Has.upr q64H hw67 rfl (by omega)
                  refine e_Ok.ps1 (x := (1, 1)) (q := 129) 1 rfl ?_
                  refine e_Ok.getf (z := w62 1 9) rfl (el_o rfl) rfl rfl (e_uq hw67 (Or.inr (by decide)) rfl) (by omega) ?_
                  refine e_Ok.if1 rfl (fun h71 => ?_) (fun h71 => ?_)
                  · replace h71 : (w62 1 9 : Int) = 0 := h71
                    refine e_Ok.rets rfl rfl ?_
                    have g1 : w67 1 1 = w62 1 9 := (e_ue hw67)
                    have f0 : w62 1 1 = v2 1 1 := q64f 1 1 (by unfold kRf; omega)
                    exact ⟨rfl, f68, hT69, hH70, (e_uq hw67 (Or.inr (by first | decide | omega)) ((q64f 1 3 (by unfold kRf; omega)).trans ((j49 1 3 (by unfold kRr; omega)).trans hc))), fun h => by
                        have nw : nF w62 := ⟨by omega, by omega⟩
                        have fx := q64x nw
                        have cK : codK w62 cd := rtJ.fin j54 hcd ((e_Has.get j50 (c := cd) (k := 0) (lo := 0) (hi := 4000) (kD_0 hcd) (by decide)).1) (e_Has.get j51 (c := 1) (k := 6) (lo := 0) (hi := 4000) rfl (by decide)).2 fx.1 (q64f _ _ (by unfold kRf; omega)) fx.2 q64r q641 (fun k => q64f _ _ (by unfold kRf; omega))
                        exact cK.eq (fun c k g => by rw [← hw67, e_up_ne _ _ (by omega)])⟩
                  · replace h71 : (w62 1 9 : Int) ≠ 0 := (show ¬ ((w62 1 9 : Int) = 0) from h71)
                    refine e_Ok.ps2 (x := (1, 1)) (y := (1, 1)) (q := 137) 2 rfl ?_
                    have h72 := (e_Has.get q64H (c := 1) (k := 10) (lo := (-2147483648)) (hi := 2147483647) rfl (by decide))
                    refine e_Ok.getf (z := w62 1 10) rfl (el_o rfl) rfl rfl (e_uq hw67 (Or.inr (by decide)) rfl) (e_bq h72 (by decide) (by decide)) ?_
                    refine e_Ok.putf rfl (el_o rfl) rfl rfl ?_
                    generalize hw73 : e_up w67 1 2 (w62 1 10) = w73
                    have hT75 : e_Has kTy w73 := e_Has.ups hT69 hw73 (kt_o rfl)
                    have hH76 : e_Has kRy w73 := e_Has.upr hH70 hw73 rfl (by omega)
                    refine e_Ok.rets rfl rfl ?_
                    have g1 : w73 1 1 = w62 1 9 := (e_uq hw73 (Or.inr (by decide)) (e_ue hw67))
                    have f0 : w62 1 1 = v2 1 1 := q64f 1 1 (by unfold kRf; omega)
                    exact ⟨rfl, (show e_fr (kRr cd) w w73 from e_fr.up f68 hw73 (by first | exact Or.inl ⟨rfl, Or.inr (Or.inl rfl)⟩ | (unfold kRr; omega))), hT75, hH76, (e_uq hw73 (Or.inr (by first | decide | omega)) (e_uq hw67 (Or.inr (by first | decide | omega)) ((q64f 1 3 (by unfold kRf; omega)).trans ((j49 1 3 (by unfold kRr; omega)).trans hc)))), fun h => by
                        have nw : nF w62 := ⟨by omega, by omega⟩
                        have fx := q64x nw
                        have cK : codK w62 cd := rtJ.fin j54 hcd ((e_Has.get j50 (c := cd) (k := 0) (lo := 0) (hi := 4000) (kD_0 hcd) (by decide)).1) (e_Has.get j51 (c := 1) (k := 6) (lo := 0) (hi := 4000) rfl (by decide)).2 fx.1 (q64f _ _ (by unfold kRf; omega)) fx.2 q64r q641 (fun k => q64f _ _ (by unfold kRf; omega))
                        exact cK.eq (fun c k g => by rw [← hw73, e_up_ne _ _ (by omega), ← hw67, e_up_ne _ _ (by omega)])⟩
                · replace h60 : (v2 1 1 : Int) ≠ 0 := (show ¬ ((v2 1 1 : Int) = 0) from h60)
                  refine e_Ok.rets rfl rfl ?_
                  have g1 : v2 1 1 = v2 1 1 := rfl
                  exact ⟨rfl, j49, j50, j51, ((j49 1 3 (by unfold kRr; omega)).trans hc), fun h => by omega⟩
              · replace h58 : (v2 1 5 : Int) ≠ 0 := (show ¬ ((v2 1 5 : Int) = 0) from h58)
                refine e_Ok.ps1 (x := (1, 1)) (q := 105) 1 rfl ?_
                refine e_Ok.callV rfl (e_dq hd rfl) rfl rfl rfl rfl (c_130 (e_dq hd rfl) j50 j51 j52) (fun r77 w78 h79 => ?_)
                obtain ⟨rfl, q80f, q80T, q80H, q80k, q80n, q805⟩ := h79
                have f81 : e_fr (kRr cd) w w78 := e_fr.trans j49 (e_fr.mono q80f (fun c k q => by first | exact su_dp_27 q | (unfold kRk at q; unfold kRr; omega)))
                refine e_Ok.nrm (q := 108) (st' := []) rfl rfl ?_
                refine e_Ok.ps1 (x := (1, 1)) (q := 109) 1 rfl ?_
                have h82 := (e_Has.get q80H (c := 1) (k := 1) (lo := (-2147483648)) (hi := 2147483647) rfl (by decide))
                refine e_Ok.getf (z := w78 1 1) rfl (el_o rfl) rfl rfl rfl (e_bq h82 (by decide) (by decide)) ?_
                refine e_Ok.if1 rfl (fun h83 => ?_) (fun h83 => ?_)
                · replace h83 : (w78 1 1 : Int) = 0 := h83
                  refine e_Ok.ps1 (x := (1, 1)) (q := 117) 1 rfl ?_
                  refine e_Ok.callV rfl (e_dq hd rfl) rfl rfl rfl rfl (c_138 (e_dq hd rfl) ⟨q80T, q80H, ((q80f 1 3 no_dp_0).trans ((j49 1 3 (by unfold kRr; omega)).trans hc)), hcd, q80k⟩) (fun r84 w85 h86 => ?_)
                  obtain ⟨rfl, q87f, ⟨q87T, q87H, q87c, -, q87k⟩, q87n, q87r, q871, q87x⟩ := h86
                  have f1 : w78 1 1 = w78 1 1 := rfl
                  refine e_Ok.nrm (q := 120) (st' := []) rfl rfl ?_
                  refine e_Ok.ps2 (x := (1, 1)) (y := (1, 1)) (q := 122) 2 rfl ?_
                  have h89 := (e_Has.get q87H (c := 1) (k := 9) (lo := (-2147483648)) (hi := 2147483647) rfl (by decide))
                  refine e_Ok.getf (z := w85 1 9) rfl (el_o rfl) rfl rfl rfl (e_bq h89 (by decide) (by decide)) ?_
                  refine e_Ok.putf rfl (el_o rfl) rfl rfl ?_
                  generalize hw90 : e_up w85 1 1 (w85 1 9) = w90
                  have f91 : e_fr (kRr cd) w w90 := e_fr.up (show e_fr (kRr cd) w w85 from e_fr.trans f81 (e_fr.mono q87f (fun c k q => by first | exact su_dp_34 q | (unfold kRf at q; unfold kRr; omega)))) hw90 (by first | exact Or.inl ⟨rfl, Or.inl rfl⟩ | (unfold kRr; omega))
                  have hT92 : e_Has kTy w90 := e_Has.ups q87T hw90 (kt_o rfl)
                  have hH93 : e_Has kRy w90 := e_Has.upr q87H hw90 rfl (by omega)
                  refine e_Ok.ps1 (x := (1, 1)) (q := 129) 1 rfl ?_
                  refine e_Ok.getf (z := w85 1 9) rfl (el_o rfl) rfl rfl (e_uq hw90 (Or.inr (by decide)) rfl) (by omega) ?_
                  refine e_Ok.if1 rfl (fun h94 => ?_) (fun h94 => ?_)
                  · replace h94 : (w85 1 9 : Int) = 0 := h94
                    refine e_Ok.rets rfl rfl ?_
                    have g1 : w90 1 1 = w85 1 9 := (e_ue hw90)
                    have f0 : w85 1 1 = w78 1 1 := q87f 1 1 (by unfold kRf; omega)
                    exact ⟨rfl, f91, hT92, hH93, (e_uq hw90 (Or.inr (by first | decide | omega)) ((q87f 1 3 (by unfold kRf; omega)).trans ((q80f 1 3 no_dp_0).trans ((j49 1 3 (by unfold kRr; omega)).trans hc)))), fun h => by
                        have nw : nF w85 := ⟨by omega, by omega⟩
                        have fx := q87x nw
                        have cK : codK w85 cd := rtJ.fin (fun n => absurd n q80n) hcd ((e_Has.get q80T (c := cd) (k := 0) (lo := 0) (hi := 4000) (kD_0 hcd) (by decide)).1) (e_Has.get q80H (c := 1) (k := 6) (lo := 0) (hi := 4000) rfl (by decide)).2 fx.1 (q87f _ _ (by unfold kRf; omega)) fx.2 q87r q871 (fun k => q87f _ _ (by unfold kRf; omega))
                        exact cK.eq (fun c k g => by rw [← hw90, e_up_ne _ _ (by omega)])⟩
                  · replace h94 : (w85 1 9 : Int) ≠ 0 := (show ¬ ((w85 1 9 : Int) = 0) from h94)
                    refine e_Ok.ps2 (x := (1, 1)) (y := (1, 1)) (q := 137) 2 rfl ?_
                    have h95 := (e_Has.get q87H (c := 1) (k := 10) (lo := (-2147483648)) (hi := 2147483647) rfl (by decide))
                    refine e_Ok.getf (z := w85 1 10) rfl (el_o rfl) rfl rfl (e_uq hw90 (Or.inr (by decide)) rfl) (e_bq h95 (by decide) (by decide)) ?_
                    refine e_Ok.putf rfl (el_o rfl) rfl rfl ?_
                    generalize hw101 : e_up w90 1 2 (w85 1 10) = w101
                    have hT104 : e_Has kTy w101 := e_Has.ups hT92 hw101 (kt_o rfl)
                    have hH105 : e_Has kRy w101 := e_Has.upr hH93 hw101 rfl (by omega)
                    refine e_Ok.rets rfl rfl ?_
                    have g1 : w101 1 1 = w85 1 9 := (e_uq hw101 (Or.inr (by decide)) (e_ue hw90))
                    have f0 : w85 1 1 = w78 1 1 := q87f 1 1 (by unfold kRf; omega)
                    exact ⟨rfl, (show e_fr (kRr cd) w w101 from e_fr.up f91 hw101 (by first | exact Or.inl ⟨rfl, Or.inr (Or.inl rfl)⟩ | (unfold kRr; omega))), hT104, hH105, (e_uq hw101 (Or.inr (by first | decide | omega)) (e_uq hw90 (Or.inr (by first | decide | omega)) ((q87f 1 3 (by unfold kRf; omega)).trans ((q80f 1 3 no_dp_0).trans ((j49 1 3 (by unfold kRr; omega)).trans hc))))), fun h => by
                        have nw : nF w85 := ⟨by omega, by omega⟩
                        have fx := q87x nw
                        have cK : codK w85 cd := rtJ.fin (fun n => absurd n q80n) hcd ((e_Has.get q80T (c := cd) (k := 0) (lo := 0) (hi := 4000) (kD_0 hcd) (by decide)).1) (e_Has.get q80H (c := 1) (k := 6) (lo := 0) (hi := 4000) rfl (by decide)).2 fx.1 (q87f _ _ (by unfold kRf; omega)) fx.2 q87r q871 (fun k => q87f _ _ (by unfold kRf; omega))
                        exact cK.eq (fun c k g => by rw [← hw101, e_up_ne _ _ (by omega), ← hw90, e_up_ne _ _ (by omega)])⟩
                · replace h83 : (w78 1 1 : Int) ≠ 0 := (show ¬ ((w78 1 1 : Int) = 0) from h83)
                  refine e_Ok.rets rfl rfl ?_
                  have g1 : w78 1 1 = w78 1 1 := rfl
                  exact ⟨rfl, f81, q80T, q80H, ((q80f 1 3 no_dp_0).trans ((j49 1 3 (by unfold kRr; omega)).trans hc)), fun h => by omega⟩
            · replace h56 : (x1 : Int) < 4000 := Int.not_le.mp (show ¬ ((x1 : Int) ≥ 4000) from h56)
              refine e_Ok.ps1 (x := (1, 1)) (q := 79) 1 rfl ?_
              have h106 := (e_Has.get j51 (c := 1) (k := 5) (lo := 0) (hi := 53) rfl (by decide))
              refine e_Ok.getf (z := v2 1 5) rfl (el_o rfl) rfl rfl rfl (e_bq h106 (by decide) (by decide)) ?_
              refine e_Ok.ps1 (x := (0, 22)) (q := 84) 1 rfl ?_
              refine e_Ok.if2 rfl (fun h107 => ?_) (fun h107 => ?_)
              · replace h107 : (v2 1 5 : Int) ≠ 22 := h107
                refine e_Ok.ps1 (x := (1, 1)) (q := 98) 1 rfl ?_
                refine e_Ok.getf (z := v2 1 5) rfl (el_o rfl) rfl rfl rfl (by omega) ?_
                refine e_Ok.if1 rfl (fun h108 => ?_) (fun h108 => ?_)
                · replace h108 : (v2 1 5 : Int) = 0 := h108
                  refine e_Ok.ps1 (x := (1, 1)) (q := 109) 1 rfl ?_
                  have h109 := (e_Has.get j51 (c := 1) (k := 1) (lo := (-2147483648)) (hi := 2147483647) rfl (by decide))
                  refine e_Ok.getf (z := v2 1 1) rfl (el_o rfl) rfl rfl rfl (e_bq h109 (by decide) (by decide)) ?_
                  refine e_Ok.if1 rfl (fun h110 => ?_) (fun h110 => ?_)
                  · replace h110 : (v2 1 1 : Int) = 0 := h110
                    refine e_Ok.ps1 (x := (1, 1)) (q := 117) 1 rfl ?_
                    refine e_Ok.callV rfl (e_dq hd rfl) rfl rfl rfl rfl (c_138 (e_dq hd rfl) ⟨j50, j51, ((j49 1 3 (by unfold kRr; omega)).trans hc), hcd, j52⟩) (fun r111 w112 h113 => ?_)
                    obtain ⟨rfl, q114f, ⟨q114T, q114H, q114c, -, q114k⟩, q114n, q114r, q1141, q114x⟩ := h113
                    have f1 : v2 1 1 = v2 1 1 := rfl
                    refine e_Ok.nrm (q := 120) (st' := []) rfl rfl ?_
                    refine e_Ok.ps2 (x := (1, 1)) (y := (1, 1)) (q := 122) 2 rfl ?_
                    have h116 := (e_Has.get q114H (c := 1) (k := 9) (lo := (-2147483648)) (hi := 2147483647) rfl (by decide))
                    refine e_Ok.getf (z := w112 1 9) rfl (el_o rfl) rfl rfl rfl (e_bq h116 (by decide) (by decide)) ?_
                    refine e_Ok.putf rfl (el_o rfl) rfl rfl ?_
                    generalize hw117 : e_up w112 1 1 (w112 1 9) = w117
                    have f118 : e_fr (kRr cd) w w117 := e_fr.up (show e_fr (kRr cd) w w112 from e_fr.trans j49 (e_fr.mono q114f (fun c k q => by first | exact su_dp_34 q | (unfold kRf at q; unfold kRr; omega)))) hw117 (by first | exact Or.inl ⟨rfl, Or.inl rfl⟩ | (unfold kRr; omega))
                    have hT119 : e_Has kTy w117 := e_Has.ups q114T hw117 (kt_o rfl)
                    have hH120 : e_Has kRy w117 := e_Has.upr q114H hw117 rfl (by omega)
                    refine e_Ok.ps1 (x := (1, 1)) (q := 129) 1 rfl ?_
                    refine e_Ok.getf (z := w112 1 9) rfl (el_o rfl) rfl rfl (e_uq hw117 (Or.inr (by decide)) rfl) (by omega) ?_
                    refine e_Ok.if1 rfl (fun h121 => ?_) (fun h121 => ?_)
                    · replace h121 : (w112 1 9 : Int) = 0 := h121
                      refine e_Ok.rets rfl rfl ?_
                      have g1 : w117 1 1 = w112 1 9 := (e_ue hw117)
                      have f0 : w112 1 1 = v2 1 1 := q114f 1 1 (by unfold kRf; omega)
                      exact ⟨rfl, f118, hT119, hH120, (e_uq hw117 (Or.inr (by first | decide | omega)) ((q114f 1 3 (by unfold kRf; omega)).trans ((j49 1 3 (by unfold kRr; omega)).trans hc))), fun h => by
                          have nw : nF w112 := ⟨by omega, by omega⟩
                          have fx := q114x nw
                          have cK : codK w112 cd := rtJ.fin j54 hcd ((e_Has.get j50 (c := cd) (k := 0) (lo := 0) (hi := 4000) (kD_0 hcd) (by decide)).1) (e_Has.get j51 (c := 1) (k := 6) (lo := 0) (hi := 4000) rfl (by decide)).2 fx.1 (q114f _ _ (by unfold kRf; omega)) fx.2 q114r q1141 (fun k => q114f _ _ (by unfold kRf; omega))
                          exact cK.eq (fun c k g => by rw [← hw117, e_up_ne _ _ (by omega)])⟩
                    · replace h121 : (w112 1 9 : Int) ≠ 0 := (show ¬ ((w112 1 9 : Int) = 0) from h121)
                      refine e_Ok.ps2 (x := (1, 1)) (y := (1, 1)) (q := 137) 2 rfl ?_
                      have h122 := (e_Has.get q114H (c := 1) (k := 10) (lo := (-2147483648)) (hi := 2147483647) rfl (by decide))
                      refine e_Ok.getf (z := w112 1 10) rfl (el_o rfl) rfl rfl (e_uq hw117 (Or.inr (by decide)) rfl) (e_bq h122 (by decide) (by decide)) ?_
                      refine e_Ok.putf rfl (el_o rfl) rfl rfl ?_
                      generalize hw123 : e_up w117 1 2 (w112 1 10) = w123
                      have hT125 : e_Has kTy w123 := e_Has.ups hT119 hw123 (kt_o rfl)
                      have hH126 : e_Has kRy w123 := e_Has.upr hH120 hw123 rfl (by omega)
                      refine e_Ok.rets rfl rfl ?_
                      have g1 : w123 1 1 = w112 1 9 := (e_uq hw123 (Or.inr (by decide)) (e_ue hw117))
                      have f0 : w112 1 1 = v2 1 1 := q114f 1 1 (by unfold kRf; omega)
                      exact ⟨rfl, (show e_fr (kRr cd) w w123 from e_fr.up f118 hw123 (by first | exact Or.inl ⟨rfl, Or.inr (Or.inl rfl)⟩ | (unfold kRr; omega))), hT125, hH126, (e_uq hw123 (Or.inr (by first | decide | omega)) (e_uq hw117 (Or.inr (by first | decide | omega)) ((q114f 1 3 (by unfold kRf; omega)).trans ((j49 1 3 (by unfold kRr; omega)).trans hc)))), fun h => by
                          have nw : nF w112 := ⟨by omega, by omega⟩
                          have fx := q114x nw
                          have cK : codK w112 cd := rtJ.fin j54 hcd ((e_Has.get j50 (c := cd) (k := 0) (lo := 0) (hi := 4000) (kD_0 hcd) (by decide)).1) (e_Has.get j51 (c := 1) (k := 6) (lo := 0) (hi := 4000) rfl (by decide)).2 fx.1 (q114f _ _ (by unfold kRf; omega)) fx.2 q114r q1141 (fun k => q114f _ _ (by unfold kRf; omega))
                          exact cK.eq (fun c k g => by rw [← hw123, e_up_ne _ _ (by omega), ← hw117, e_up_ne _ _ (by omega)])⟩
                  · replace h110 : (v2 1 1 : Int) ≠ 0 := (show ¬ ((v2 1 1 : Int) = 0) from h110)
                    refine e_Ok.rets rfl rfl ?_
                    have g1 : v2 1 1 = v2 1 1 := rfl
                    exact ⟨rfl, j49, j50, j51, ((j49 1 3 (by unfold kRr; omega)).trans hc), fun h => by omega⟩
                · replace h108 : (v2 1 5 : Int) ≠ 0 := (show ¬ ((v2 1 5 : Int) = 0) from h108)
                  refine e_Ok.ps1 (x := (1, 1)) (q := 105) 1 rfl ?_
                  refine e_Ok.callV rfl (e_dq hd rfl) rfl rfl rfl rfl (c_130 (e_dq hd rfl) j50 j51 j52) (fun r127 w128 h129 => ?_)
                  obtain ⟨rfl, q130f, q130T, q130H, q130k, q130n, q1305⟩ := h129
                  have f131 : e_fr (kRr cd) w w128 := e_fr.trans j49 (e_fr.mono q130f (fun c k q => by first | exact su_dp_27 q | (unfold kRk at q; unfold kRr; omega)))
                  refine e_Ok.nrm (q := 108) (st' := []) rfl rfl ?_
                  refine e_Ok.ps1 (x := (1, 1)) (q := 109) 1 rfl ?_
                  have h132 := (e_Has.get q130H (c := 1) (k := 1) (lo := (-2147483648)) (hi := 2147483647) rfl (by decide))
                  refine e_Ok.getf (z := w128 1 1) rfl (el_o rfl) rfl rfl rfl (e_bq h132 (by decide) (by decide)) ?_
                  refine e_Ok.if1 rfl (fun h133 => ?_) (fun h133 => ?_)
                  · replace h133 : (w128 1 1 : Int) = 0 := h133
                    refine e_Ok.ps1 (x := (1, 1)) (q := 117) 1 rfl ?_
                    refine e_Ok.callV rfl (e_dq hd rfl) rfl rfl rfl rfl (c_138 (e_dq hd rfl) ⟨q130T, q130H, ((q130f 1 3 no_dp_0).trans ((j49 1 3 (by unfold kRr; omega)).trans hc)), hcd, q130k⟩) (fun r134 w135 h136 => ?_)
                    obtain ⟨rfl, q137f, ⟨q137T, q137H, q137c, -, q137k⟩, q137n, q137r, q1371, q137x⟩ := h136
                    have f1 : w128 1 1 = w128 1 1 := rfl
                    refine e_Ok.nrm (q := 120) (st' := []) rfl rfl ?_
                    refine e_Ok.ps2 (x := (1, 1)) (y := (1, 1)) (q := 122) 2 rfl ?_
                    have h139 := (e_Has.get q137H (c := 1) (k := 9) (lo := (-2147483648)) (hi := 2147483647) rfl (by decide))
                    refine e_Ok.getf (z := w135 1 9) rfl (el_o rfl) rfl rfl rfl (e_bq h139 (by decide) (by decide)) ?_
                    refine e_Ok.putf rfl (el_o rfl) rfl rfl ?_
                    generalize hw140 : e_up w135 1 1 (w135 1 9) = w140
                    have f141 : e_fr (kRr cd) w w140 := e_fr.up (show e_fr (kRr cd) w w135 from e_fr.trans f131 (e_fr.mono q137f (fun c k q => by first | exact su_dp_34 q | (unfold kRf at q; unfold kRr; omega)))) hw140 (by first | exact Or.inl ⟨rfl, Or.inl rfl⟩ | (unfold kRr; omega))
                    have hT142 : e_Has kTy w140 := e_Has.ups q137T hw140 (kt_o rfl)
                    have hH143 : e_Has kRy w140 := e_Has.upr q137H hw140 rfl (by omega)
                    refine e_Ok.ps1 (x := (1, 1)) (q := 129) 1 rfl ?_
                    refine e_Ok.getf (z := w135 1 9) rfl (el_o rfl) rfl rfl (e_uq hw140 (Or.inr (by decide)) rfl) (by omega) ?_
                    refine e_Ok.if1 rfl (fun h144 => ?_) (fun h144 => ?_)
                    · replace h144 : (w135 1 9 : Int) = 0 := h144
                      refine e_Ok.rets rfl rfl ?_
                      have g1 : w140 1 1 = w135 1 9 := (e_ue hw140)
                      have f0 : w135 1 1 = w128 1 1 := q137f 1 1 (by unfold kRf; omega)
                      exact ⟨rfl, f141, hT142, hH143, (e_uq hw140 (Or.inr (by first | decide | omega)) ((q137f 1 3 (by unfold kRf; omega)).trans ((q130f 1 3 no_dp_0).trans ((j49 1 3 (by unfold kRr; omega)).trans hc)))), fun h => by
                          have nw : nF w135 := ⟨by omega, by omega⟩
                          have fx := q137x nw
                          have cK : codK w135 cd := rtJ.fin (fun n => absurd n q130n) hcd ((e_Has.get q130T (c := cd) (k := 0) (lo := 0) (hi := 4000) (kD_0 hcd) (by decide)).1) (e_Has.get q130H (c := 1) (k := 6) (lo := 0) (hi := 4000) rfl (by decide)).2 fx.1 (q137f _ _ (by unfold kRf; omega)) fx.2 q137r q1371 (fun k => q137f _ _ (by unfold kRf; omega))
                          exact cK.eq (fun c k g => by rw [← hw140, e_up_ne _ _ (by omega)])⟩
                    · replace h144 : (w135 1 9 : Int) ≠ 0 := (show ¬ ((w135 1 9 : Int) = 0) from h144)
                      refine e_Ok.ps2 (x := (1, 1)) (y := (1, 1)) (q := 137) 2 rfl ?_
                      have h145 := (e_Has.get q137H (c := 1) (k := 10) (lo := (-2147483648)) (hi := 2147483647) rfl (by decide))
                      refine e_Ok.getf (z := w135 1 10) rfl (el_o rfl) rfl rfl (e_uq hw140 (Or.inr (by decide)) rfl) (e_bq h145 (by decide) (by decide)) ?_
                      refine e_Ok.putf rfl (el_o rfl) rfl rfl ?_
                      generalize hw146 : e_up w140 1 2 (w135 1 10) = w146
                      have hT148 : e_Has kTy w146 := e_Has.ups hT142 hw146 (kt_o rfl)
                      have hH149 : e_Has kRy w146 := e_Has.upr hH143 hw146 rfl (by omega)
                      refine e_Ok.rets rfl rfl ?_
                      have g1 : w146 1 1 = w135 1 9 := (e_uq hw146 (Or.inr (by decide)) (e_ue hw140))
                      have f0 : w135 1 1 = w128 1 1 := q137f 1 1 (by unfold kRf; omega)
                      exact ⟨rfl, (show e_fr (kRr cd) w w146 from e_fr.up f141 hw146 (by first | exact Or.inl ⟨rfl, Or.inr (Or.inl rfl)⟩ | (unfold kRr; omega))), hT148, hH149, (e_uq hw146 (Or.inr (by first | decide | omega)) (e_uq hw140 (Or.inr (by first | decide | omega)) ((q137f 1 3 (by unfold kRf; omega)).trans ((q130f 1 3 no_dp_0).trans ((j49 1 3 (by unfold kRr; omega)).trans hc))))), fun h => by
                          have nw : nF w135 := ⟨by omega, by omega⟩
                          have fx := q137x nw
                          have cK : codK w135 cd := rtJ.fin (fun n => absurd n q130n) hcd ((e_Has.get q130T (c := cd) (k := 0) (lo := 0) (hi := 4000) (kD_0 hcd) (by decide)).1) (e_Has.get q130H (c := 1) (k := 6) (lo := 0) (hi := 4000) rfl (by decide)).2 fx.1 (q137f _ _ (by unfold kRf; omega)) fx.2 q137r q1371 (fun k => q137f _ _ (by unfold kRf; omega))
                          exact cK.eq (fun c k g => by rw [← hw146, e_up_ne _ _ (by omega), ← hw140, e_up_ne _ _ (by omega)])⟩
                  · replace h133 : (w128 1 1 : Int) ≠ 0 := (show ¬ ((w128 1 1 : Int) = 0) from h133)
                    refine e_Ok.rets rfl rfl ?_
                    have g1 : w128 1 1 = w128 1 1 := rfl
                    exact ⟨rfl, f131, q130T, q130H, ((q130f 1 3 no_dp_0).trans ((j49 1 3 (by unfold kRr; omega)).trans hc)), fun h => by omega⟩
              · replace h107 : (v2 1 5 : Int) = 22 := Classical.not_not.mp (show ¬ ((v2 1 5 : Int) ≠ 22) from h107)
                refine e_Ok.ps1 (x := (1, 1)) (q := 88) 1 rfl ?_
                refine e_Ok.callV rfl (e_dq hd rfl) rfl rfl rfl rfl (c_142 (e_dq hd rfl) ⟨j50, j51, ((j49 1 3 (by unfold kRr; omega)).trans hc), hcd, j52⟩ j53 (by omega) (by omega)) (fun r150 w151 h152 => ?_)
                obtain ⟨rfl, q153f, ⟨q153T, q153H, q153c, -, q153k⟩, q153o, q153x⟩ := h152
                refine e_Ok.nrm (q := 91) (st' := []) rfl rfl ?_
                refine e_Ok.inc (z := x1 + 1) rfl rfl (by first | with_reducible rfl | omega) (by omega) ?_
                show e_Ok 20 elay kcode eI (d + 1) 119 (94, [(1, (0, x1 + 1)), (0, (1, 1))], [], w151) _
                refine e_Ok.ps0 (q := 71) 1 rfl ?_
                refine e_Ok.sub kAlk (e_sub_of rfl ?_) (ih48 (x1 + 1) w151 ⟨(show e_fr (kRr cd) w w151 from e_fr.trans j49 (e_fr.mono q153f (fun c k q => by exact q))), q153T, q153H, q153k, q153o, (show rtJ w151 cd from rtJ.step j54 (e_Has.get j51 (c := 1) (k := 6) (lo := 0) (hi := 4000) rfl (by decide)).1 q153x), (by omega)⟩ (by omega))
                exact ⟨rfl, rfl, trivial⟩
        refine e_Ok.sub kAlk (e_sub_of rfl ?_) (hL47 (4001 + 1 : Int).toNat 0 v1 ⟨j37, j38, j40, j41, j44, rtJ.zero j42 j43, (by omega)⟩ (by omega))
        exact ⟨rfl, rfl, trivial⟩
      · replace h46 : (y1 : Int) < 4000 := Int.not_le.mp (show ¬ ((y1 : Int) ≥ 4000) from h46)
        refine e_Ok.ps1 (x := (1, 1)) (q := 51) 1 rfl ?_
        have h155 := (e_Has.get j40 (c := 1) (k := 5) (lo := 0) (hi := 53) rfl (by decide))
        refine e_Ok.getf (z := v1 1 5) rfl (el_o rfl) rfl rfl rfl (e_bq h155 (by decide) (by decide)) ?_
        refine e_Ok.ps1 (x := (0, 21)) (q := 56) 1 rfl ?_
        refine e_Ok.if2 rfl (fun h156 => ?_) (fun h156 => ?_)
        · replace h156 : (v1 1 5 : Int) ≠ 21 := h156
          refine e_Ok.run (t' := (71, [(1, (0, 0)), (0, (1, 1))], [], v1)) 2 rfl ?_
          have hL157 : ∀ (nn : Nat) (x1 : Int) (v2 : eW), e_fr (kRr cd) w v2 ∧ e_Has kTy v2 ∧ e_Has kRy v2 ∧ tkR v2 ∧ v2 1 11 = 0 ∧ rtJ v2 cd ∧ ((0 ≤ x1 ∧ x1 ≤ 4000)) → 4001 - x1 < nn → e_Ok 20 elay kcode eI (d + 1) 119 (71, [(0, (1, 1)), (1, (0, x1))], [], v2) (fun r w' => r = [] ∧ e_fr (kRr cd) w w' ∧ e_Has kTy w' ∧ e_Has kRy w' ∧ w' 1 3 = cd ∧ (w' 1 1 = 0 → codK w' cd)) := by
            intro nn
            induction nn with
            | zero => intro x1 v2 hj hm; obtain ⟨j159, j160, j161, j162, j163, j164, j165⟩ := hj; exfalso; omega
            | succ nn ih158 =>
              intro x1 v2 hj hm
              obtain ⟨j159, j160, j161, j162, j163, j164, j165⟩ := hj
              refine e_Ok.run (t' := (75, [(0, (1, 1)), (1, (0, x1))], [(0, 4000), (0, x1)], v2)) 2 rfl ?_
              refine e_Ok.if2 rfl (fun h166 => ?_) (fun h166 => ?_)
              · replace h166 : (x1 : Int) ≥ 4000 := h166
                refine e_Ok.ps1 (x := (1, 1)) (q := 98) 1 rfl ?_
                have h167 := (e_Has.get j161 (c := 1) (k := 5) (lo := 0) (hi := 53) rfl (by decide))
                refine e_Ok.getf (z := v2 1 5) rfl (el_o rfl) rfl rfl rfl (e_bq h167 (by decide) (by decide)) ?_
                refine e_Ok.if1 rfl (fun h168 => ?_) (fun h168 => ?_)
                · replace h168 : (v2 1 5 : Int) = 0 := h168
                  refine e_Ok.ps1 (x := (1, 1)) (q := 109) 1 rfl ?_
                  have h169 := (e_Has.get j161 (c := 1) (k := 1) (lo := (-2147483648)) (hi := 2147483647) rfl (by decide))
                  refine e_Ok.getf (z := v2 1 1) rfl (el_o rfl) rfl rfl rfl (e_bq h169 (by decide) (by decide)) ?_
                  refine e_Ok.if1 rfl (fun h170 => ?_) (fun h170 => ?_)
                  · replace h170 : (v2 1 1 : Int) = 0 := h170
                    refine e_Ok.ps1 (x := (1, 1)) (q := 117) 1 rfl ?_
                    refine e_Ok.callV rfl (e_dq hd rfl) rfl rfl rfl rfl (c_138 (e_dq hd rfl) ⟨j160, j161, ((j159 1 3 (by unfold kRr; omega)).trans hc), hcd, j162⟩) (fun r171 w172 h173 => ?_)
                    obtain ⟨rfl, q174f, ⟨q174T, q174H, q174c, -, q174k⟩, q174n, q174r, q1741, q174x⟩ := h173
                    have f1 : v2 1 1 = v2 1 1 := rfl
                    refine e_Ok.nrm (q := 120) (st' := []) rfl rfl ?_
                    refine e_Ok.ps2 (x := (1, 1)) (y := (1, 1)) (q := 122) 2 rfl ?_
                    have h176 := (e_Has.get q174H (c := 1) (k := 9) (lo := (-2147483648)) (hi := 2147483647) rfl (by decide))
                    refine e_Ok.getf (z := w172 1 9) rfl (el_o rfl) rfl rfl rfl (e_bq h176 (by decide) (by decide)) ?_
                    refine e_Ok.putf rfl (el_o rfl) rfl rfl ?_
                    generalize hw177 : e_up w172 1 1 (w172 1 9) = w177
                    have f178 : e_fr (kRr cd) w w177 := e_fr.up (show e_fr (kRr cd) w w172 from e_fr.trans j159 (e_fr.mono q174f (fun c k q => by first | exact su_dp_34 q | (unfold kRf at q; unfold kRr; omega)))) hw177 (by first | exact Or.inl ⟨rfl, Or.inl rfl⟩ | (unfold kRr; omega))
                    have hT179 : e_Has kTy w177 := e_Has.ups q174T hw177 (kt_o rfl)
                    have hH180 : e_Has kRy w177 := e_Has.upr q174H hw177 rfl (by omega)
                    refine e_Ok.ps1 (x := (1, 1)) (q := 129) 1 rfl ?_
                    refine e_Ok.getf (z := w172 1 9) rfl (el_o rfl) rfl rfl (e_uq hw177 (Or.inr (by decide)) rfl) (by omega) ?_
                    refine e_Ok.if1 rfl (fun h181 => ?_) (fun h181 => ?_)
                    · replace h181 : (w172 1 9 : Int) = 0 := h181
                      refine e_Ok.rets rfl rfl ?_
                      have g1 : w177 1 1 = w172 1 9 := (e_ue hw177)
                      have f0 : w172 1 1 = v2 1 1 := q174f 1 1 (by unfold kRf; omega)
                      exact ⟨rfl, f178, hT179, hH180, (e_uq hw177 (Or.inr (by first | decide | omega)) ((q174f 1 3 (by unfold kRf; omega)).trans ((j159 1 3 (by unfold kRr; omega)).trans hc))), fun h => by
                          have nw : nF w172 := ⟨by omega, by omega⟩
                          have fx := q174x nw
                          have cK : codK w172 cd := rtJ.fin j164 hcd ((e_Has.get j160 (c := cd) (k := 0) (lo := 0) (hi := 4000) (kD_0 hcd) (by decide)).1) (e_Has.get j161 (c := 1) (k := 6) (lo := 0) (hi := 4000) rfl (by decide)).2 fx.1 (q174f _ _ (by unfold kRf; omega)) fx.2 q174r q1741 (fun k => q174f _ _ (by unfold kRf; omega))
                          exact cK.eq (fun c k g => by rw [← hw177, e_up_ne _ _ (by omega)])⟩
                    · replace h181 : (w172 1 9 : Int) ≠ 0 := (show ¬ ((w172 1 9 : Int) = 0) from h181)
                      refine e_Ok.ps2 (x := (1, 1)) (y := (1, 1)) (q := 137) 2 rfl ?_
                      have h182 := (e_Has.get q174H (c := 1) (k := 10) (lo := (-2147483648)) (hi := 2147483647) rfl (by decide))
                      refine e_Ok.getf (z := w172 1 10) rfl (el_o rfl) rfl rfl (e_uq hw177 (Or.inr (by decide)) rfl) (e_bq h182 (by decide) (by decide)) ?_
                      refine e_Ok.putf rfl (el_o rfl) rfl rfl ?_
                      generalize hw183 : e_up w177 1 2 (w172 1 10) = w183
                      have hT185 : e_Has kTy w183 := e_Has.ups hT179 hw183 (kt_o rfl)
                      have hH186 : e_Has kRy w183 := e_Has.upr hH180 hw183 rfl (by omega)
                      refine e_Ok.rets rfl rfl ?_
                      have g1 : w183 1 1 = w172 1 9 := (e_uq hw183 (Or.inr (by decide)) (e_ue hw177))
                      have f0 : w172 1 1 = v2 1 1 := q174f 1 1 (by unfold kRf; omega)
                      exact ⟨rfl, (show e_fr (kRr cd) w w183 from e_fr.up f178 hw183 (by first | exact Or.inl ⟨rfl, Or.inr (Or.inl rfl)⟩ | (unfold kRr; omega))), hT185, hH186, (e_uq hw183 (Or.inr (by first | decide | omega)) (e_uq hw177 (Or.inr (by first | decide | omega)) ((q174f 1 3 (by unfold kRf; omega)).trans ((j159 1 3 (by unfold kRr; omega)).trans hc)))), fun h => by
                          have nw : nF w172 := ⟨by omega, by omega⟩
                          have fx := q174x nw
                          have cK : codK w172 cd := rtJ.fin j164 hcd ((e_Has.get j160 (c := cd) (k := 0) (lo := 0) (hi := 4000) (kD_0 hcd) (by decide)).1) (e_Has.get j161 (c := 1) (k := 6) (lo := 0) (hi := 4000) rfl (by decide)).2 fx.1 (q174f _ _ (by unfold kRf; omega)) fx.2 q174r q1741 (fun k => q174f _ _ (by unfold kRf; omega))
                          exact cK.eq (fun c k g => by rw [← hw183, e_up_ne _ _ (by omega), ← hw177, e_up_ne _ _ (by omega)])⟩
                  · replace h170 : (v2 1 1 : Int) ≠ 0 := (show ¬ ((v2 1 1 : Int) = 0) from h170)
                    refine e_Ok.rets rfl rfl ?_
                    have g1 : v2 1 1 = v2 1 1 := rfl
                    exact ⟨rfl, j159, j160, j161, ((j159 1 3 (by unfold kRr; omega)).trans hc), fun h => by omega⟩
                · replace h168 : (v2 1 5 : Int) ≠ 0 := (show ¬ ((v2 1 5 : Int) = 0) from h168)
                  refine e_Ok.ps1 (x := (1, 1)) (q := 105) 1 rfl ?_
                  refine e_Ok.callV rfl (e_dq hd rfl) rfl rfl rfl rfl (c_130 (e_dq hd rfl) j160 j161 j162) (fun r187 w188 h189 => ?_)
                  obtain ⟨rfl, q190f, q190T, q190H, q190k, q190n, q1905⟩ := h189
                  have f191 : e_fr (kRr cd) w w188 := e_fr.trans j159 (e_fr.mono q190f (fun c k q => by first | exact su_dp_27 q | (unfold kRk at q; unfold kRr; omega)))
                  refine e_Ok.nrm (q := 108) (st' := []) rfl rfl ?_
                  refine e_Ok.ps1 (x := (1, 1)) (q := 109) 1 rfl ?_
                  have h192 := (e_Has.get q190H (c := 1) (k := 1) (lo := (-2147483648)) (hi := 2147483647) rfl (by decide))
                  refine e_Ok.getf (z := w188 1 1) rfl (el_o rfl) rfl rfl rfl (e_bq h192 (by decide) (by decide)) ?_
                  refine e_Ok.if1 rfl (fun h193 => ?_) (fun h193 => ?_)
                  · replace h193 : (w188 1 1 : Int) = 0 := h193
                    refine e_Ok.ps1 (x := (1, 1)) (q := 117) 1 rfl ?_
                    refine e_Ok.callV rfl (e_dq hd rfl) rfl rfl rfl rfl (c_138 (e_dq hd rfl) ⟨q190T, q190H, ((q190f 1 3 no_dp_0).trans ((j159 1 3 (by unfold kRr; omega)).trans hc)), hcd, q190k⟩) (fun r194 w195 h196 => ?_)
                    obtain ⟨rfl, q197f, ⟨q197T, q197H, q197c, -, q197k⟩, q197n, q197r, q1971, q197x⟩ := h196
                    have f1 : w188 1 1 = w188 1 1 := rfl
                    refine e_Ok.nrm (q := 120) (st' := []) rfl rfl ?_
                    refine e_Ok.ps2 (x := (1, 1)) (y := (1, 1)) (q := 122) 2 rfl ?_
                    have h199 := (e_Has.get q197H (c := 1) (k := 9) (lo := (-2147483648)) (hi := 2147483647) rfl (by decide))
                    refine e_Ok.getf (z := w195 1 9) rfl (el_o rfl) rfl rfl rfl (e_bq h199 (by decide) (by decide)) ?_
                    refine e_Ok.putf rfl (el_o rfl) rfl rfl ?_
                    generalize hw200 : e_up w195 1 1 (w195 1 9) = w200
                    have f201 : e_fr (kRr cd) w w200 := e_fr.up (show e_fr (kRr cd) w w195 from e_fr.trans f191 (e_fr.mono q197f (fun c k q => by first | exact su_dp_34 q | (unfold kRf at q; unfold kRr; omega)))) hw200 (by first | exact Or.inl ⟨rfl, Or.inl rfl⟩ | (unfold kRr; omega))
                    have hT202 : e_Has kTy w200 := e_Has.ups q197T hw200 (kt_o rfl)
                    have hH203 : e_Has kRy w200 := e_Has.upr q197H hw200 rfl (by omega)
                    refine e_Ok.ps1 (x := (1, 1)) (q := 129) 1 rfl ?_
                    refine e_Ok.getf (z := w195 1 9) rfl (el_o rfl) rfl rfl (e_uq hw200 (Or.inr (by decide)) rfl) (by omega) ?_
                    refine e_Ok.if1 rfl (fun h204 => ?_) (fun h204 => ?_)
                    · replace h204 : (w195 1 9 : Int) = 0 := h204
                      refine e_Ok.rets rfl rfl ?_
                      have g1 : w200 1 1 = w195 1 9 := (e_ue hw200)
                      have f0 : w195 1 1 = w188 1 1 := q197f 1 1 (by unfold kRf; omega)
                      exact ⟨rfl, f201, hT202, hH203, (e_uq hw200 (Or.inr (by first | decide | omega)) ((q197f 1 3 (by unfold kRf; omega)).trans ((q190f 1 3 no_dp_0).trans ((j159 1 3 (by unfold kRr; omega)).trans hc)))), fun h => by
                          have nw : nF w195 := ⟨by omega, by omega⟩
                          have fx := q197x nw
                          have cK : codK w195 cd := rtJ.fin (fun n => absurd n q190n) hcd ((e_Has.get q190T (c := cd) (k := 0) (lo := 0) (hi := 4000) (kD_0 hcd) (by decide)).1) (e_Has.get q190H (c := 1) (k := 6) (lo := 0) (hi := 4000) rfl (by decide)).2 fx.1 (q197f _ _ (by unfold kRf; omega)) fx.2 q197r q1971 (fun k => q197f _ _ (by unfold kRf; omega))
                          exact cK.eq (fun c k g => by rw [← hw200, e_up_ne _ _ (by omega)])⟩
                    · replace h204 : (w195 1 9 : Int) ≠ 0 := (show ¬ ((w195 1 9 : Int) = 0) from h204)
                      refine e_Ok.ps2 (x := (1, 1)) (y := (1, 1)) (q := 137) 2 rfl ?_
                      have h205 := (e_Has.get q197H (c := 1) (k := 10) (lo := (-2147483648)) (hi := 2147483647) rfl (by decide))
                      refine e_Ok.getf (z := w195 1 10) rfl (el_o rfl) rfl rfl (e_uq hw200 (Or.inr (by decide)) rfl) (e_bq h205 (by decide) (by decide)) ?_
                      refine e_Ok.putf rfl (el_o rfl) rfl rfl ?_
                      generalize hw206 : e_up w200 1 2 (w195 1 10) = w206
                      have hT208 : e_Has kTy w206 := e_Has.ups hT202 hw206 (kt_o rfl)
                      have hH209 : e_Has kRy w206 := e_Has.upr hH203 hw206 rfl (by omega)
                      refine e_Ok.rets rfl rfl ?_
                      have g1 : w206 1 1 = w195 1 9 := (e_uq hw206 (Or.inr (by decide)) (e_ue hw200))
                      have f0 : w195 1 1 = w188 1 1 := q197f 1 1 (by unfold kRf; omega)
                      exact ⟨rfl, (show e_fr (kRr cd) w w206 from e_fr.up f201 hw206 (by first | exact Or.inl ⟨rfl, Or.inr (Or.inl rfl)⟩ | (unfold kRr; omega))), hT208, hH209, (e_uq hw206 (Or.inr (by first | decide | omega)) (e_uq hw200 (Or.inr (by first | decide | omega)) ((q197f 1 3 (by unfold kRf; omega)).trans ((q190f 1 3 no_dp_0).trans ((j159 1 3 (by unfold kRr; omega)).trans hc))))), fun h => by
                          have nw : nF w195 := ⟨by omega, by omega⟩
                          have fx := q197x nw
                          have cK : codK w195 cd := rtJ.fin (fun n => absurd n q190n) hcd ((e_Has.get q190T (c := cd) (k := 0) (lo := 0) (hi := 4000) (kD_0 hcd) (by decide)).1) (e_Has.get q190H (c := 1) (k := 6) (lo := 0) (hi := 4000) rfl (by decide)).2 fx.1 (q197f _ _ (by unfold kRf; omega)) fx.2 q197r q1971 (fun k => q197f _ _ (by unfold kRf; omega))
                          exact cK.eq (fun c k g => by rw [← hw206, e_up_ne _ _ (by omega), ← hw200, e_up_ne _ _ (by omega)])⟩
                  · replace h193 : (w188 1 1 : Int) ≠ 0 := (show ¬ ((w188 1 1 : Int) = 0) from h193)
                    refine e_Ok.rets rfl rfl ?_
                    have g1 : w188 1 1 = w188 1 1 := rfl
                    exact ⟨rfl, f191, q190T, q190H, ((q190f 1 3 no_dp_0).trans ((j159 1 3 (by unfold kRr; omega)).trans hc)), fun h => by omega⟩
              · replace h166 : (x1 : Int) < 4000 := Int.not_le.mp (show ¬ ((x1 : Int) ≥ 4000) from h166)
                refine e_Ok.ps1 (x := (1, 1)) (q := 79) 1 rfl ?_
                have h210 := (e_Has.get j161 (c := 1) (k := 5) (lo := 0) (hi := 53) rfl (by decide))
                refine e_Ok.getf (z := v2 1 5) rfl (el_o rfl) rfl rfl rfl (e_bq h210 (by decide) (by decide)) ?_
                refine e_Ok.ps1 (x := (0, 22)) (q := 84) 1 rfl ?_
                refine e_Ok.if2 rfl (fun h211 => ?_) (fun h211 => ?_)
                · replace h211 : (v2 1 5 : Int) ≠ 22 := h211
                  refine e_Ok.ps1 (x := (1, 1)) (q := 98) 1 rfl ?_
                  refine e_Ok.getf (z := v2 1 5) rfl (el_o rfl) rfl rfl rfl (by omega) ?_
                  refine e_Ok.if1 rfl (fun h212 => ?_) (fun h212 => ?_)
                  · replace h212 : (v2 1 5 : Int) = 0 := h212
                    refine e_Ok.ps1 (x := (1, 1)) (q := 109) 1 rfl ?_
                    have h213 := (e_Has.get j161 (c := 1) (k := 1) (lo := (-2147483648)) (hi := 2147483647) rfl (by decide))
                    refine e_Ok.getf (z := v2 1 1) rfl (el_o rfl) rfl rfl rfl (e_bq h213 (by decide) (by decide)) ?_
                    refine e_Ok.if1 rfl (fun h214 => ?_) (fun h214 => ?_)
                    · replace h214 : (v2 1 1 : Int) = 0 := h214
                      refine e_Ok.ps1 (x := (1, 1)) (q := 117) 1 rfl ?_
                      refine e_Ok.callV rfl (e_dq hd rfl) rfl rfl rfl rfl (c_138 (e_dq hd rfl) ⟨j160, j161, ((j159 1 3 (by unfold kRr; omega)).trans hc), hcd, j162⟩) (fun r215 w216 h217 => ?_)
                      obtain ⟨rfl, q218f, ⟨q218T, q218H, q218c, -, q218k⟩, q218n, q218r, q2181, q218x⟩ := h217
                      have f1 : v2 1 1 = v2 1 1 := rfl
                      refine e_Ok.nrm (q := 120) (st' := []) rfl rfl ?_
                      refine e_Ok.ps2 (x := (1, 1)) (y := (1, 1)) (q := 122) 2 rfl ?_
                      have h220 := (e_Has.get q218H (c := 1) (k := 9) (lo := (-2147483648)) (hi := 2147483647) rfl (by decide))
                      refine e_Ok.getf (z := w216 1 9) rfl (el_o rfl) rfl rfl rfl (e_bq h220 (by decide) (by decide)) ?_
                      refine e_Ok.putf rfl (el_o rfl) rfl rfl ?_
                      generalize hw221 : e_up w216 1 1 (w216 1 9) = w221
                      have f222 : e_fr (kRr cd) w w221 := e_fr.up (show e_fr (kRr cd) w w216 from e_fr.trans j159 (e_fr.mono q218f (fun c k q => by first | exact su_dp_34 q | (unfold kRf at q; unfold kRr; omega)))) hw221 (by first | exact Or.inl ⟨rfl, Or.inl rfl⟩ | (unfold kRr; omega))
                      have hT223 : e_Has kTy w221 := e_Has.ups q218T hw221 (kt_o rfl)
                      have hH224 : e_Has kRy w221 := e_Has.upr q218H hw221 rfl (by omega)
                      refine e_Ok.ps1 (x := (1, 1)) (q := 129) 1 rfl ?_
                      refine e_Ok.getf (z := w216 1 9) rfl (el_o rfl) rfl rfl (e_uq hw221 (Or.inr (by decide)) rfl) (by omega) ?_
                      refine e_Ok.if1 rfl (fun h225 => ?_) (fun h225 => ?_)
                      · replace h225 : (w216 1 9 : Int) = 0 := h225
                        refine e_Ok.rets rfl rfl ?_
                        have g1 : w221 1 1 = w216 1 9 := (e_ue hw221)
                        have f0 : w216 1 1 = v2 1 1 := q218f 1 1 (by unfold kRf; omega)
                        exact ⟨rfl, f222, hT223, hH224, (e_uq hw221 (Or.inr (by first | decide | omega)) ((q218f 1 3 (by unfold kRf; omega)).trans ((j159 1 3 (by unfold kRr; omega)).trans hc))), fun h => by
                            have nw : nF w216 := ⟨by omega, by omega⟩
                            have fx := q218x nw
                            have cK : codK w216 cd := rtJ.fin j164 hcd ((e_Has.get j160 (c := cd) (k := 0) (lo := 0) (hi := 4000) (kD_0 hcd) (by decide)).1) (e_Has.get j161 (c := 1) (k := 6) (lo := 0) (hi := 4000) rfl (by decide)).2 fx.1 (q218f _ _ (by unfold kRf; omega)) fx.2 q218r q2181 (fun k => q218f _ _ (by unfold kRf; omega))
                            exact cK.eq (fun c k g => by rw [← hw221, e_up_ne _ _ (by omega)])⟩
                      · replace h225 : (w216 1 9 : Int) ≠ 0 := (show ¬ ((w216 1 9 : Int) = 0) from h225)
                        refine e_Ok.ps2 (x := (1, 1)) (y := (1, 1)) (q := 137) 2 rfl ?_
                        have h226 := (e_Has.get q218H (c := 1) (k := 10) (lo := (-2147483648)) (hi := 2147483647) rfl (by decide))
                        refine e_Ok.getf (z := w216 1 10) rfl (el_o rfl) rfl rfl (e_uq hw221 (Or.inr (by decide)) rfl) (e_bq h226 (by decide) (by decide)) ?_
                        refine e_Ok.putf rfl (el_o rfl) rfl rfl ?_
                        generalize hw227 : e_up w221 1 2 (w216 1 10) = w227
                        have hT229 : e_Has kTy w227 := e_Has.ups hT223 hw227 (kt_o rfl)
                        have hH230 : e_Has kRy w227 := e_Has.upr hH224 hw227 rfl (by omega)
                        refine e_Ok.rets rfl rfl ?_
                        have g1 : w227 1 1 = w216 1 9 := (e_uq hw227 (Or.inr (by decide)) (e_ue hw221))
                        have f0 : w216 1 1 = v2 1 1 := q218f 1 1 (by unfold kRf; omega)
                        exact ⟨rfl, (show e_fr (kRr cd) w w227 from e_fr.up f222 hw227 (by first | exact Or.inl ⟨rfl, Or.inr (Or.inl rfl)⟩ | (unfold kRr; omega))), hT229, hH230, (e_uq hw227 (Or.inr (by first | decide | omega)) (e_uq hw221 (Or.inr (by first | decide | omega)) ((q218f 1 3 (by unfold kRf; omega)).trans ((j159 1 3 (by unfold kRr; omega)).trans hc)))), fun h => by
                            have nw : nF w216 := ⟨by omega, by omega⟩
                            have fx := q218x nw
                            have cK : codK w216 cd := rtJ.fin j164 hcd ((e_Has.get j160 (c := cd) (k := 0) (lo := 0) (hi := 4000) (kD_0 hcd) (by decide)).1) (e_Has.get j161 (c := 1) (k := 6) (lo := 0) (hi := 4000) rfl (by decide)).2 fx.1 (q218f _ _ (by unfold kRf; omega)) fx.2 q218r q2181 (fun k => q218f _ _ (by unfold kRf; omega))
                            exact cK.eq (fun c k g => by rw [← hw227, e_up_ne _ _ (by omega), ← hw221, e_up_ne _ _ (by omega)])⟩
                    · replace h214 : (v2 1 1 : Int) ≠ 0 := (show ¬ ((v2 1 1 : Int) = 0) from h214)
                      refine e_Ok.rets rfl rfl ?_
                      have g1 : v2 1 1 = v2 1 1 := rfl
                      exact ⟨rfl, j159, j160, j161, ((j159 1 3 (by unfold kRr; omega)).trans hc), fun h => by omega⟩
                  · replace h212 : (v2 1 5 : Int) ≠ 0 := (show ¬ ((v2 1 5 : Int) = 0) from h212)
                    refine e_Ok.ps1 (x := (1, 1)) (q := 105) 1 rfl ?_
                    refine e_Ok.callV rfl (e_dq hd rfl) rfl rfl rfl rfl (c_130 (e_dq hd rfl) j160 j161 j162) (fun r231 w232 h233 => ?_)
                    obtain ⟨rfl, q234f, q234T, q234H, q234k, q234n, q2345⟩ := h233
                    have f235 : e_fr (kRr cd) w w232 := e_fr.trans j159 (e_fr.mono q234f (fun c k q => by first | exact su_dp_27 q | (unfold kRk at q; unfold kRr; omega)))
                    refine e_Ok.nrm (q := 108) (st' := []) rfl rfl ?_
                    refine e_Ok.ps1 (x := (1, 1)) (q := 109) 1 rfl ?_
                    have h236 := (e_Has.get q234H (c := 1) (k := 1) (lo := (-2147483648)) (hi := 2147483647) rfl (by decide))
                    refine e_Ok.getf (z := w232 1 1) rfl (el_o rfl) rfl rfl rfl (e_bq h236 (by decide) (by decide)) ?_
                    refine e_Ok.if1 rfl (fun h237 => ?_) (fun h237 => ?_)
                    · replace h237 : (w232 1 1 : Int) = 0 := h237
                      refine e_Ok.ps1 (x := (1, 1)) (q := 117) 1 rfl ?_
                      refine e_Ok.callV rfl (e_dq hd rfl) rfl rfl rfl rfl (c_138 (e_dq hd rfl) ⟨q234T, q234H, ((q234f 1 3 no_dp_0).trans ((j159 1 3 (by unfold kRr; omega)).trans hc)), hcd, q234k⟩) (fun r238 w239 h240 => ?_)
                      obtain ⟨rfl, q241f, ⟨q241T, q241H, q241c, -, q241k⟩, q241n, q241r, q2411, q241x⟩ := h240
                      have f1 : w232 1 1 = w232 1 1 := rfl
                      refine e_Ok.nrm (q := 120) (st' := []) rfl rfl ?_
                      refine e_Ok.ps2 (x := (1, 1)) (y := (1, 1)) (q := 122) 2 rfl ?_
                      have h243 := (e_Has.get q241H (c := 1) (k := 9) (lo := (-2147483648)) (hi := 2147483647) rfl (by decide))
                      refine e_Ok.getf (z := w239 1 9) rfl (el_o rfl) rfl rfl rfl (e_bq h243 (by decide) (by decide)) ?_
                      refine e_Ok.putf rfl (el_o rfl) rfl rfl ?_
                      generalize hw244 : e_up w239 1 1 (w239 1 9) = w244
                      have f245 : e_fr (kRr cd) w w244 := e_fr.up (show e_fr (kRr cd) w w239 from e_fr.trans f235 (e_fr.mono q241f (fun c k q => by first | exact su_dp_34 q | (unfold kRf at q; unfold kRr; omega)))) hw244 (by first | exact Or.inl ⟨rfl, Or.inl rfl⟩ | (unfold kRr; omega))
                      have hT246 : e_Has kTy w244 := e_Has.ups q241T hw244 (kt_o rfl)
                      have hH247 : e_Has kRy w244 := e_Has.upr q241H hw244 rfl (by omega)
                      refine e_Ok.ps1 (x := (1, 1)) (q := 129) 1 rfl ?_
                      refine e_Ok.getf (z := w239 1 9) rfl (el_o rfl) rfl rfl (e_uq hw244 (Or.inr (by decide)) rfl) (by omega) ?_
                      refine e_Ok.if1 rfl (fun h248 => ?_) (fun h248 => ?_)
                      · replace h248 : (w239 1 9 : Int) = 0 := h248
                        refine e_Ok.rets rfl rfl ?_
                        have g1 : w244 1 1 = w239 1 9 := (e_ue hw244)
                        have f0 : w239 1 1 = w232 1 1 := q241f 1 1 (by unfold kRf; omega)
                        exact ⟨rfl, f245, hT246, hH247, (e_uq hw244 (Or.inr (by first | decide | omega)) ((q241f 1 3 (by unfold kRf; omega)).trans ((q234f 1 3 no_dp_0).trans ((j159 1 3 (by unfold kRr; omega)).trans hc)))), fun h => by
                            have nw : nF w239 := ⟨by omega, by omega⟩
                            have fx := q241x nw
                            have cK : codK w239 cd := rtJ.fin (fun n => absurd n q234n) hcd ((e_Has.get q234T (c := cd) (k := 0) (lo := 0) (hi := 4000) (kD_0 hcd) (by decide)).1) (e_Has.get q234H (c := 1) (k := 6) (lo := 0) (hi := 4000) rfl (by decide)).2 fx.1 (q241f _ _ (by unfold kRf; omega)) fx.2 q241r q2411 (fun k => q241f _ _ (by unfold kRf; omega))
                            exact cK.eq (fun c k g => by rw [← hw244, e_up_ne _ _ (by omega)])⟩
                      · replace h248 : (w239 1 9 : Int) ≠ 0 := (show ¬ ((w239 1 9 : Int) = 0) from h248)
                        refine e_Ok.ps2 (x := (1, 1)) (y := (1, 1)) (q := 137) 2 rfl ?_
                        have h249 := (e_Has.get q241H (c := 1) (k := 10) (lo := (-2147483648)) (hi := 2147483647) rfl (by decide))
                        refine e_Ok.getf (z := w239 1 10) rfl (el_o rfl) rfl rfl (e_uq hw244 (Or.inr (by decide)) rfl) (e_bq h249 (by decide) (by decide)) ?_
                        refine e_Ok.putf rfl (el_o rfl) rfl rfl ?_
                        generalize hw250 : e_up w244 1 2 (w239 1 10) = w250
                        have hT252 : e_Has kTy w250 := e_Has.ups hT246 hw250 (kt_o rfl)
                        have hH253 : e_Has kRy w250 := e_Has.upr hH247 hw250 rfl (by omega)
                        refine e_Ok.rets rfl rfl ?_
                        have g1 : w250 1 1 = w239 1 9 := (e_uq hw250 (Or.inr (by decide)) (e_ue hw244))
                        have f0 : w239 1 1 = w232 1 1 := q241f 1 1 (by unfold kRf; omega)
                        exact ⟨rfl, (show e_fr (kRr cd) w w250 from e_fr.up f245 hw250 (by first | exact Or.inl ⟨rfl, Or.inr (Or.inl rfl)⟩ | (unfold kRr; omega))), hT252, hH253, (e_uq hw250 (Or.inr (by first | decide | omega)) (e_uq hw244 (Or.inr (by first | decide | omega)) ((q241f 1 3 (by unfold kRf; omega)).trans ((q234f 1 3 no_dp_0).trans ((j159 1 3 (by unfold kRr; omega)).trans hc))))), fun h => by
                            have nw : nF w239 := ⟨by omega, by omega⟩
                            have fx := q241x nw
                            have cK : codK w239 cd := rtJ.fin (fun n => absurd n q234n) hcd ((e_Has.get q234T (c := cd) (k := 0) (lo := 0) (hi := 4000) (kD_0 hcd) (by decide)).1) (e_Has.get q234H (c := 1) (k := 6) (lo := 0) (hi := 4000) rfl (by decide)).2 fx.1 (q241f _ _ (by unfold kRf; omega)) fx.2 q241r q2411 (fun k => q241f _ _ (by unfold kRf; omega))
                            exact cK.eq (fun c k g => by rw [← hw250, e_up_ne _ _ (by omega), ← hw244, e_up_ne _ _ (by omega)])⟩
                    · replace h237 : (w232 1 1 : Int) ≠ 0 := (show ¬ ((w232 1 1 : Int) = 0) from h237)
                      refine e_Ok.rets rfl rfl ?_
                      have g1 : w232 1 1 = w232 1 1 := rfl
                      exact ⟨rfl, f235, q234T, q234H, ((q234f 1 3 no_dp_0).trans ((j159 1 3 (by unfold kRr; omega)).trans hc)), fun h => by omega⟩
                · replace h211 : (v2 1 5 : Int) = 22 := Classical.not_not.mp (show ¬ ((v2 1 5 : Int) ≠ 22) from h211)
                  refine e_Ok.ps1 (x := (1, 1)) (q := 88) 1 rfl ?_
                  refine e_Ok.callV rfl (e_dq hd rfl) rfl rfl rfl rfl (c_142 (e_dq hd rfl) ⟨j160, j161, ((j159 1 3 (by unfold kRr; omega)).trans hc), hcd, j162⟩ j163 (by omega) (by omega)) (fun r254 w255 h256 => ?_)
                  obtain ⟨rfl, q257f, ⟨q257T, q257H, q257c, -, q257k⟩, q257o, q257x⟩ := h256
                  refine e_Ok.nrm (q := 91) (st' := []) rfl rfl ?_
                  refine e_Ok.inc (z := x1 + 1) rfl rfl (by first | with_reducible rfl | omega) (by omega) ?_
                  show e_Ok 20 elay kcode eI (d + 1) 119 (94, [(1, (0, x1 + 1)), (0, (1, 1))], [], w255) _
                  refine e_Ok.ps0 (q := 71) 1 rfl ?_
                  refine e_Ok.sub kAlk (e_sub_of rfl ?_) (ih158 (x1 + 1) w255 ⟨(show e_fr (kRr cd) w w255 from e_fr.trans j159 (e_fr.mono q257f (fun c k q => by exact q))), q257T, q257H, q257k, q257o, (show rtJ w255 cd from rtJ.step j164 (e_Has.get j161 (c := 1) (k := 6) (lo := 0) (hi := 4000) rfl (by decide)).1 q257x), (by omega)⟩ (by omega))
                  exact ⟨rfl, rfl, trivial⟩
          refine e_Ok.sub kAlk (e_sub_of rfl ?_) (hL157 (4001 + 1 : Int).toNat 0 v1 ⟨j37, j38, j40, j41, j44, rtJ.zero j42 j43, (by omega)⟩ (by omega))
          exact ⟨rfl, rfl, trivial⟩
        · replace h156 : (v1 1 5 : Int) = 21 := Classical.not_not.mp (show ¬ ((v1 1 5 : Int) ≠ 21) from h156)
          refine e_Ok.ps1 (x := (1, 1)) (q := 60) 1 rfl ?_
          refine e_Ok.callV rfl (e_dq hd rfl) rfl rfl rfl rfl (c_140 (e_dq hd rfl) ⟨j38, j40, ((j37 1 3 (by unfold kRr; omega)).trans hc), hcd, j41⟩) (fun r259 w260 h261 => ?_)
          obtain ⟨rfl, q262f, ⟨q262T, q262H, q262c, -, q262k⟩, q262x⟩ := h261
          refine e_Ok.nrm (q := 63) (st' := []) rfl rfl ?_
          refine e_Ok.inc (z := y1 + 1) rfl rfl (by first | with_reducible rfl | omega) (by omega) ?_
          show e_Ok 20 elay kcode eI (d + 1) 119 (66, [(1, (0, y1 + 1)), (0, (1, 1))], [], w260) _
          refine e_Ok.ps0 (q := 43) 1 rfl ?_
          refine e_Ok.sub kAlk (e_sub_of rfl ?_) (ih36 (y1 + 1) w260 ⟨(show e_fr (kRr cd) w w260 from e_fr.trans j37 (e_fr.mono q262f (fun c k q => by first | exact su_dp_35 q | (unfold kRv at q; unfold kRr; omega)))), q262T, q262H, q262k, ((q262f cd 0 (by unfold kRv; omega)).trans j42), ((q262f 1 14 (by first | exact no_dp_16 | (unfold kRv; omega))).trans j43), ((q262f 1 11 (by first | exact no_dp_17 | (unfold kRv; omega))).trans j44), (by omega)⟩ (by omega))
          exact ⟨rfl, rfl, trivial⟩
  refine e_Ok.sub kAlk (e_sub_of rfl ?_) (hL35 (4001 + 1 : Int).toNat 0 w31 ⟨(show e_fr (kRr cd) w w31 from e_fr.trans (show e_fr (kRr cd) w w26 from e_fr.trans (show e_fr (kRr cd) w w21 from e_fr.up (show e_fr (kRr cd) w w17 from e_fr.up (show e_fr (kRr cd) w w13 from e_fr.up (show e_fr (kRr cd) w w9 from e_fr.up (show e_fr (kRr cd) w w5 from e_fr.up (show e_fr (kRr cd) w w1 from e_fr.up (e_fr.refl w) hw1 (by first | exact Or.inl ⟨rfl, Or.inl rfl⟩ | (unfold kRr; omega))) hw5 (by first | exact Or.inl ⟨rfl, Or.inr (Or.inl rfl)⟩ | (unfold kRr; omega))) hw9 (by first | exact Or.inl ⟨rfl, Or.inr (Or.inr ⟨(by decide), (by decide)⟩)⟩ | (unfold kRr; omega))) hw13 (by first | exact Or.inl ⟨rfl, Or.inr (Or.inr ⟨(by decide), (by decide)⟩)⟩ | (unfold kRr; omega))) hw17 (by first | exact Or.inl ⟨rfl, Or.inr (Or.inr ⟨(by decide), (by decide)⟩)⟩ | (unfold kRr; omega))) hw21 (by first | exact Or.inl ⟨rfl, Or.inr (Or.inr ⟨(by decide), (by decide)⟩)⟩ | (unfold kRr; omega))) (e_fr.mono q28f (fun c k q => by first | exact su_dp_33 q | (unfold kCl0 at q; unfold kRr; omega)))) (e_fr.mono q33f (fun c k q => by first | exact su_dp_26 q | (unfold kRa at q; unfold kRr; omega)))), q33T, q33H, q33k, ((q33f cd 0 (by unfold kRa; omega)).trans q280), ((q33f 1 14 no_dp_11).trans ((q28f 1 14 (by first | exact no_dp_18 | (unfold kCl0; omega))).trans (e_uq hw21 (Or.inr (by first | decide | omega)) (e_ue hw17)))), ((q33f 1 11 no_dp_9).trans ((q28f 1 11 (by first | exact no_dp_19 | (unfold kCl0; omega))).trans (e_uq hw21 (Or.inr (by first | decide | omega)) (e_uq hw17 (Or.inr (by first | decide | omega)) (e_ue hw13))))), (by omega)⟩ (by omega))
  exact ⟨rfl, rfl, trivial⟩
theorem c_4 {d : Nat} {w : eW} (hT : e_Has kTy w) {a cd x : Int} (ga : 0 ≤ a ∧ a ≤ 3) (hcd : isCd cd) (hx : w (17 * a + 86) 7 = x) (hxr : 0 ≤ x ∧ x ≤ 145) : e_Ok 20 elay kcode eI d 4 (0, [(0, (1, 17 * a + 86)), (1, (1, cd))], [], w) (fun r w' => r = [(1, x)] ∧ e_fr (kXc a) w w' ∧ e_Has kTy w' ∧ w' (17 * a + 86) 7 = cd) := by
  have hcd2 := hcd; unfold isCd at hcd2
  have hcd3 : 2 ≤ cd ∧ cd ≤ 145 := by omega
  refine e_Ok.ps1 (x := (1, 17 * a + 86)) (q := 1) 1 rfl ?_
  refine e_Ok.getr (z := x) rfl (lA0 (a := a) rfl ga) rfl rfl hx (by omega) ?_
  refine e_Ok.run (t' := (7, [(2, (1, x)), (0, (1, 17 * a + 86)), (1, (1, cd))], [(1, cd), (1, 17 * a + 86)], w)) 3 rfl ?_
  refine e_Ok.putr rfl (lA0 (a := a) rfl ga) rfl rfl (by omega) ?_
  generalize hw1 : e_up w (17 * a + 86) 7 cd = w1
  have hT3 : e_Has kTy w1 := e_Has.ups hT hw1 (kA_7 (a := a) rfl ga)
  refine e_Ok.ps1 (x := (1, x)) (q := 11) 1 rfl ?_
  refine e_Ok.rets rfl rfl ?_
  exact ⟨rfl, (show e_fr (kXc a) w w1 from e_fr.up (e_fr.refl w) hw1 (by first | exact ⟨(by omega), rfl⟩ | (unfold kXc; omega))), hT3, (e_ue hw1)⟩
theorem no_dp_20 {a : Int} : ¬ kXc a 0 2 := by unfold kXc; omega
theorem no_dp_21 {a : Int} (ha : 0 ≤ a ∧ a ≤ 3) : ¬ kXc a 9 a := by unfold kXc; omega
theorem no_dp_22 {a : Int} : ¬ kXc a 1 0 := by unfold kXc; omega
theorem su_dp_36 {a : Int} {cd : Int} {c k : Int} (q : kXc a c k) : kPg cd a c k := by
  unfold kXc at q
  rcases q with ⟨q, q⟩
  · exact Or.inr (Or.inr ⟨(by omega), (by omega)⟩)
set_option maxHeartbeats 4000000 in
theorem c_210 {d : Nat} (hd : 451 ≤ d) {w : eW} (hT : e_Has kTy w) (hH : e_Has kRy w) (hO : 0 ≤ w 0 13 ∧ w 0 13 ≤ 1) {cd a : Int} (hc : w 1 3 = cd) (hcd : isCd cd) (g_a : -2147483648 ≤ a ∧ a ≤ 2147483647) (hC : ∀ a, 0 ≤ a → a ≤ 3 → isCd (w (17 * a + 86) 7)) : e_Ok 20 elay kcode eI d 210 (0, [(0, (1, 0)), (1, (0, a))], [], w) (fun r w' => ∃ z : Int, r = [(0, z)] ∧ ((w' = w ∧ (w 0 13 = 1 ∨ a < 0 ∨ w 0 11 ≤ a)) ∨ ((w 0 13 = 0 ∧ 0 ≤ a ∧ a < w 0 11) ∧ e_fr (kPg cd a) w w' ∧ e_Has kTy w' ∧ e_Has kRy w' ∧ w' 1 0 = 0 ∧ ((w' 1 3 = cd ∧ w' (17 * a + 86) 7 = w (17 * a + 86) 7) ∨ (w' 1 3 = w (17 * a + 86) 7 ∧ w' (17 * a + 86) 7 = cd ∧ codK w' cd))))) := by
  obtain ⟨d, rfl⟩ : ∃ e, d = e + 1 := ⟨d - 1, by omega⟩
  have hw0 := e_Has.get hT (c := 0) (k := 11) (lo := 0) (hi := 4) (kt_o rfl) (by decide)
  have hcd2 := hcd; unfold isCd at hcd2
  have hcd3 : 2 ≤ cd ∧ cd ≤ 145 := by omega
  have h1r := e_Has.get hH (c := 1) (k := 2) (lo := (-2147483648)) (hi := 2147483647) rfl (by decide)
  refine e_Ok.ps2 (x := (0, a)) (y := (1, 0)) (q := 2) 2 rfl ?_
  refine e_Ok.callV rfl (e_dq hd rfl) rfl rfl rfl rfl (c_246 (e_dq hd rfl) hT (by omega)) (fun r1 w2 h3 => ?_)
  obtain ⟨z4, rfl, rfl, q5⟩ := h3
  obtain ⟨rfl, q5⟩ | ⟨rfl, q5⟩ := q5
  · refine e_Ok.nrm (q := 5) (st' := [(0, 1)]) rfl rfl ?_
    refine e_Ok.if1 rfl (fun h6 => ?_) (fun h6 => ?_)
    · replace h6 : (1 : Int) ≠ 0 := h6
      have hca := hC a (by omega) (by omega); unfold isCd at hca
      refine e_Ok.ps1 (x := (1, 0)) (q := 11) 1 rfl ?_
      refine e_Ok.getf (z := w 0 13) rfl (el_o rfl) rfl rfl rfl (by omega) ?_
      refine e_Ok.if1 rfl (fun h7 => ?_) (fun h7 => ?_)
      · replace h7 : (w 0 13 : Int) = 0 := h7
        refine e_Ok.ps1 (x := (1, 0)) (q := 21) 1 rfl ?_
        refine e_Ok.getr (z := 1) rfl (el_o rfl) rfl rfl (e_Has.eq hT (kt_o rfl)) ⟨by decide, by decide⟩ ?_
        refine e_Ok.callV rfl (e_dq hd rfl) rfl rfl rfl rfl (c_119 (e_dq hd rfl) hT hH hc hcd) (fun r8 w9 h10 => ?_)
        obtain ⟨rfl, qf, qT, qH, qc, qx⟩ := h10
        refine e_Ok.nrm (q := 27) (st' := []) rfl rfl ?_
        refine e_Ok.ps1 (x := (1, 0)) (q := 28) 1 rfl ?_
        refine e_Ok.getr (z := 1) rfl (el_o rfl) rfl rfl ((qf 0 0 (by unfold kRr; omega)).trans (e_Has.eq hT (kt_o rfl))) ⟨by decide, by decide⟩ ?_
        refine e_Ok.ps1 (x := (0, 0)) (q := 32) 1 rfl ?_
        refine e_Ok.putf rfl (el_o rfl) rfl rfl ?_
        generalize hw12 : e_up w9 1 0 0 = w12
        have f13 : e_fr (kPg cd a) w w12 := e_fr.up (show e_fr (kPg cd a) w w9 from e_fr.trans (e_fr.refl w) (e_fr.mono qf (fun c k q => by exact Or.inl q))) hw12 (by first | exact Or.inr (Or.inl ⟨rfl, Or.inl rfl⟩) | (unfold kPg kRr; omega))
        have hT14 : e_Has kTy w12 := e_Has.ups qT hw12 (kt_o rfl)
        have hH15 : e_Has kRy w12 := e_Has.upr qH hw12 rfl (by omega)
        refine e_Ok.ps1 (x := (1, 0)) (q := 36) 1 rfl ?_
        refine e_Ok.getr (z := 1) rfl (el_o rfl) rfl rfl (e_uq hw12 (Or.inl (by decide)) ((qf 0 0 (by unfold kRr; omega)).trans (e_Has.eq hT (kt_o rfl)))) ⟨by decide, by decide⟩ ?_
        have h16 := (e_Has.get qH (c := 1) (k := 1) (lo := (-2147483648)) (hi := 2147483647) rfl (by decide))
        refine e_Ok.getf (z := w9 1 1) rfl (el_o rfl) rfl rfl (e_uq hw12 (Or.inr (by decide)) rfl) (e_bq h16 (by decide) (by decide)) ?_
        refine e_Ok.if1 rfl (fun h17 => ?_) (fun h17 => ?_)
        · replace h17 : (w9 1 1 : Int) = 0 := h17
          refine e_Ok.ps1 (x := (1, 0)) (q := 57) 1 rfl ?_
          refine e_Ok.getr (z := 1) rfl (el_o rfl) rfl rfl (e_uq hw12 (Or.inl (by decide)) ((qf 0 0 (by unfold kRr; omega)).trans (e_Has.eq hT (kt_o rfl)))) ⟨by decide, by decide⟩ ?_
          refine e_Ok.ps1 (x := (1, 0)) (q := 61) 1 rfl ?_
          refine e_Ok.getr (z := 9) rfl (el_o rfl) rfl rfl (e_uq hw12 (Or.inl (by decide)) ((qf 0 2 (by unfold kRr; omega)).trans (e_Has.eq hT (kt_o rfl)))) ⟨by decide, by decide⟩ ?_
          refine e_Ok.ps1 (x := (0, a)) (q := 65) 1 rfl ?_
          refine e_Ok.aald (z := 17 * a + 86) rfl (el_o rfl) rfl (by omega) (e_uq hw12 (Or.inl (by decide)) ((qf 9 a (by unfold kRr; omega)).trans (Eq.trans (e_Has.eq hT (k9 (by omega))) (by omega)))) (by omega) ?_
          refine e_Ok.ps1 (x := (1, 0)) (q := 67) 1 rfl ?_
          refine e_Ok.getr (z := 1) rfl (el_o rfl) rfl rfl (e_uq hw12 (Or.inl (by decide)) ((qf 0 0 (by unfold kRr; omega)).trans (e_Has.eq hT (kt_o rfl)))) ⟨by decide, by decide⟩ ?_
          refine e_Ok.getr (z := cd) rfl (el_o rfl) rfl rfl (e_uq hw12 (Or.inr (by decide)) ((qf 1 3 (by unfold kRr; omega)).trans hc)) (by omega) ?_
          refine e_Ok.callV rfl (e_dq hd rfl) rfl (lA0 (a := a) (by omega) (by omega)) rfl rfl (c_4 hT14 (by omega) hcd (x := w (17 * a + 86) 7) (e_uq hw12 (Or.inr (by first | decide | omega)) ((qf (17 * a + 86) 7 (by unfold kRr; omega)).trans rfl)) (by omega)) (fun r18 w19 h20 => ?_)
          obtain ⟨rfl, ef, eT, ex⟩ := h20
          have eH : e_Has kRy w19 := H_fr ef (fun c k g => by unfold kXc at g; omega) hH15
          refine e_Ok.nrm (q := 76) (st' := [(1, w (17 * a + 86) 7), (1, 1)]) rfl rfl ?_
          refine e_Ok.putr rfl (el_o rfl) rfl rfl (by omega) ?_
          generalize hw22 : e_up w19 1 3 (w (17 * a + 86) 7) = w22
          have hT24 : e_Has kTy w22 := e_Has.ups eT hw22 (kt_o rfl)
          have hH25 : e_Has kRy w22 := e_Has.ups eH hw22 rfl
          refine e_Ok.ps1 (x := (1, 0)) (q := 80) 1 rfl ?_
          refine e_Ok.getr (z := 9) rfl (el_o rfl) rfl rfl (e_uq hw22 (Or.inl (by decide)) ((ef 0 2 (by first | exact no_dp_20 | (unfold kXc; omega))).trans (e_uq hw12 (Or.inl (by decide)) ((qf 0 2 (by unfold kRr; omega)).trans (e_Has.eq hT (kt_o rfl)))))) ⟨by decide, by decide⟩ ?_
          refine e_Ok.ps1 (x := (0, a)) (q := 84) 1 rfl ?_
          refine e_Ok.aald (z := 17 * a + 86) rfl (el_o rfl) rfl (by omega) (e_uq hw22 (Or.inl (by decide)) ((ef 9 a (by first | exact no_dp_21 (by omega) | (unfold kXc; omega))).trans (e_uq hw12 (Or.inl (by decide)) ((qf 9 a (by unfold kRr; omega)).trans (Eq.trans (e_Has.eq hT (k9 (by omega))) (by omega)))))) (by omega) ?_
          refine e_Ok.getr (z := cd) rfl (lA0 (a := a) (by omega) (by omega)) rfl rfl (e_uq hw22 (Or.inr (by decide)) ex) (by omega) ?_
          have h26 := (e_Has.get qT (c := cd) (k := 1) (lo := 0) (hi := 32) (kD_1 hcd) (by decide))
          refine e_Ok.getf (z := w9 cd 1) rfl (lD0 hcd) rfl rfl (e_uq hw22 (Or.inr (by decide)) ((ef cd 1 (by unfold kXc; omega)).trans (e_uq hw12 (Or.inr (by decide)) rfl))) (e_bq h26 (by decide) (by decide)) ?_
          refine e_Ok.rets rfl rfl ?_
          exact ⟨_, rfl, Or.inr ⟨by omega, (show e_fr (kPg cd a) w w22 from e_fr.up (show e_fr (kPg cd a) w w19 from e_fr.trans f13 (e_fr.mono ef (fun c k q => by first | exact su_dp_36 q | (unfold kXc at q; unfold kPg kRr; omega)))) hw22 (by first | exact Or.inr (Or.inl ⟨rfl, Or.inr rfl⟩) | (unfold kPg kRr; omega))), hT24, hH25, (e_uq hw22 (Or.inr (by omega)) ((ef 1 0 (by first | exact no_dp_22 | (unfold kXc; omega))).trans (e_ue hw12))), Or.inr ⟨(e_ue hw22), (e_uq hw22 (Or.inr (by omega)) ex), (qx (by omega)).eq (fun c k g => by rw [← hw22, e_up_ne _ _ (by omega), ef _ _ (by unfold kXc; omega), ← hw12, e_up_ne _ _ (by omega)])⟩⟩⟩
        · replace h17 : (w9 1 1 : Int) ≠ 0 := (show ¬ ((w9 1 1 : Int) = 0) from h17)
          refine e_Ok.ps2 (x := (1, 0)) (y := (0, (-10))) (q := 48) 2 rfl ?_
          refine e_Ok.getr (z := 1) rfl (el_o rfl) rfl rfl (e_uq hw12 (Or.inl (by decide)) ((qf 0 0 (by unfold kRr; omega)).trans (e_Has.eq hT (kt_o rfl)))) ⟨by decide, by decide⟩ ?_
          have h27 := (e_Has.get qH (c := 1) (k := 2) (lo := (-2147483648)) (hi := 2147483647) rfl (by decide))
          refine e_Ok.getf (z := w9 1 2) rfl (el_o rfl) rfl rfl (e_uq hw12 (Or.inr (by decide)) rfl) (e_bq h27 (by decide) (by decide)) ?_
          refine e_Ok.any rfl (eF_sub_any _ _) (fun z28 z28a z28b => ?_)
          refine e_Ok.rets rfl rfl ?_
          exact ⟨_, rfl, Or.inr ⟨by omega, f13, hT14, hH15, (e_ue hw12), Or.inl ⟨(e_uq hw12 (Or.inr (by first | decide | omega)) ((qf 1 3 (by unfold kRr; omega)).trans hc)), (e_uq hw12 (Or.inr (by first | decide | omega)) ((qf (17 * a + 86) 7 (by unfold kRr; omega)).trans rfl))⟩⟩⟩
      · replace h7 : (w 0 13 : Int) ≠ 0 := (show ¬ ((w 0 13 : Int) = 0) from h7)
        refine e_Ok.ps1 (x := (0, (-2))) (q := 19) 1 rfl ?_
        refine e_Ok.rets rfl rfl ?_
        exact ⟨_, rfl, Or.inl ⟨rfl, by omega⟩⟩
    · replace h6 : (1 : Int) = 0 := Classical.not_not.mp (show ¬ ((1 : Int) ≠ 0) from h6)
      exfalso; omega
  · refine e_Ok.nrm (q := 5) (st' := [(0, 0)]) rfl rfl ?_
    refine e_Ok.if1 rfl (fun h29 => ?_) (fun h29 => ?_)
    · replace h29 : (0 : Int) ≠ 0 := h29
      exfalso; omega
    · replace h29 : (0 : Int) = 0 := Classical.not_not.mp (show ¬ ((0 : Int) ≠ 0) from h29)
      refine e_Ok.ps1 (x := (0, (-1))) (q := 9) 1 rfl ?_
      refine e_Ok.rets rfl rfl ?_
      exact ⟨_, rfl, Or.inl ⟨rfl, by omega⟩⟩
end
end
-- part dq
section
noncomputable section
/-! the class: a wire more makes no circle; the order of the points -/
def kAc (w : eW) : Prop := ∃ rk : Int → Int, ∀ p, 0 ≤ p → p ≤ 63 → (0 ≤ rk p ∧ rk p ≤ 63) ∧ (0 ≤ w 15 p → rk (w 15 p) < rk p)
theorem kAc.eq {w w' : eW} (e : ∀ k, 0 ≤ k → k ≤ 63 → w' 15 k = w 15 k) (h : kAc w) : kAc w' := by
  obtain ⟨rk, h⟩ := h
  exact ⟨rk, fun p h1 h2 => by rw [e p h1 h2]; exact h p h1 h2⟩
theorem kAc.none {w : eW} (e : ∀ k, 0 ≤ k → k ≤ 63 → w 15 k < 0) : kAc w := ⟨fun _ => 0, fun p h1 h2 => ⟨⟨Int.le_refl 0, (by decide : (0 : Int) ≤ 63)⟩, fun g => by have := e p h1 h2; omega⟩⟩
theorem kAc.rk1 {w : eW} (h : kAc w) : ∃ rk : Int → Int, (∀ p, 0 ≤ p → p ≤ 63 → (0 ≤ rk p ∧ rk p ≤ 63) ∧ (0 ≤ w 15 p → rk (w 15 p) < rk p)) ∧ rk (-1) = -1 := by
  obtain ⟨rk, h⟩ := h
  refine ⟨fun p => if p = -1 then -1 else rk p, fun p h0 h1 => ?_, if_pos rfl⟩
  have q := h p h0 h1
  show (0 ≤ (if p = -1 then -1 else rk p) ∧ (if p = -1 then -1 else rk p) ≤ 63) ∧ (0 ≤ w 15 p → (if w 15 p = -1 then -1 else rk (w 15 p)) < (if p = -1 then -1 else rk p))
  rw [if_neg (by omega)]
  exact ⟨q.1, fun g => by rw [if_neg (by omega)]; exact q.2 g⟩
theorem kpig : ∀ (m n : Nat) (f : Int → Int), (∀ i : Int, 1 ≤ i → i ≤ n → 0 ≤ f i ∧ f i < m) → (∀ i j : Int, 1 ≤ i → i < j → j ≤ n → f i ≠ f j) → n ≤ m := by
  intro m
  induction m with
  | zero =>
    intro n f h _
    by_cases e : n = 0
    · omega
    · have := h 1 (by omega) (by omega); omega
  | succ m ih =>
    intro n f h hi
    by_cases e : n = 0
    · omega
    · obtain ⟨k, rfl⟩ : ∃ k, n = k + 1 := ⟨n - 1, by omega⟩
      have := ih k (fun i => if f i = m then f (k + 1 : Nat) else f i) (fun i g1 g2 => by
        have q1 := h i g1 (by omega)
        have q2 := h (k + 1 : Nat) (by omega) (by omega)
        have q3 := hi i (k + 1 : Nat) g1 (by omega) (by omega)
        split <;> omega) (fun i j g1 g2 g3 => by
        have q1 := hi i j g1 g2 (by omega)
        have q2 := hi i (k + 1 : Nat) g1 (by omega) (by omega)
        have q3 := hi j (k + 1 : Nat) (by omega) (by omega) (by omega)
        split <;> split <;> omega)
      omega
theorem kcnt_le {α : Type} (P Q : α → Bool) : ∀ l : List α, (∀ x ∈ l, P x = true → Q x = true) → (l.filter P).length ≤ (l.filter Q).length
  | [], _ => Nat.le_refl _
  | a :: r, h => by
    have ih := kcnt_le P Q r (fun x hx => h x (List.mem_cons_of_mem _ hx))
    have ha := h a List.mem_cons_self
    cases hp : P a <;> cases hq : Q a <;> simp [List.filter_cons, hp, hq] <;> first | omega | simp [hp, hq] at ha
theorem kcnt_lt {α : Type} (P Q : α → Bool) : ∀ l : List α, (∀ x ∈ l, P x = true → Q x = true) → (∃ x ∈ l, P x = false ∧ Q x = true) → (l.filter P).length < (l.filter Q).length
  | [], _, h => by obtain ⟨x, hx, -⟩ := h; cases hx
  | a :: r, h, hx => by
    have hr := fun x hx => h x (List.mem_cons_of_mem _ hx)
    have ha := h a List.mem_cons_self
    have hle := kcnt_le P Q r hr
    cases hp : P a <;> cases hq : Q a
    · obtain ⟨x, k1, k2, k3⟩ := hx
      rcases List.mem_cons.mp k1 with rfl | k1
      · rw [hq] at k3; cases k3
      · have := kcnt_lt P Q r hr ⟨x, k1, k2, k3⟩
        simp [List.filter_cons, hp, hq]; omega
    · simp [List.filter_cons, hp, hq]; omega
    · simp [hp, hq] at ha
    · obtain ⟨x, k1, k2, k3⟩ := hx
      rcases List.mem_cons.mp k1 with rfl | k1
      · rw [hp] at k2; cases k2
      · have := kcnt_lt P Q r hr ⟨x, k1, k2, k3⟩
        simp [List.filter_cons, hp, hq]; omega
def krkOf (key : Int → Int) (p : Int) : Int := (((List.range 64).filter (fun q : Nat => decide (key (q : Int) < key p))).length : Int)
theorem kAc.ofKey {w : eW} (key : Int → Int) (hw : ∀ p, 0 ≤ p → p ≤ 63 → w 15 p ≤ 63) (h : ∀ p, 0 ≤ p → p ≤ 63 → 0 ≤ w 15 p → key (w 15 p) < key p) : kAc w := by
  refine ⟨krkOf key, fun p h0 h1 => ⟨⟨?_, ?_⟩, fun hq => ?_⟩⟩
  · unfold krkOf; omega
  · have : ((List.range 64).filter (fun q : Nat => decide (key (q : Int) < key p))).length < ((List.range 64).filter (fun _ : Nat => true)).length := by
      refine kcnt_lt _ _ _ (fun _ _ _ => rfl) ⟨p.toNat, List.mem_range.mpr (by omega), ?_, rfl⟩
      rw [show ((p.toNat : Nat) : Int) = p by omega]
      exact decide_eq_false (by omega)
    have e : ((List.range 64).filter (fun _ : Nat => true)).length = 64 := by decide
    unfold krkOf
    omega
  · have hk := h p h0 h1 hq
    have hle := hw p h0 h1
    have : ((List.range 64).filter (fun q : Nat => decide (key (q : Int) < key (w 15 p)))).length < ((List.range 64).filter (fun q : Nat => decide (key (q : Int) < key p))).length := by
      refine kcnt_lt _ _ _ (fun x _ hx => ?_) ⟨(w 15 p).toNat, List.mem_range.mpr (by omega), ?_, ?_⟩
      · have := of_decide_eq_true hx
        exact decide_eq_true (by omega)
      · rw [show (((w 15 p).toNat : Nat) : Int) = w 15 p by omega]; exact decide_eq_false (by omega)
      · rw [show (((w 15 p).toNat : Nat) : Int) = w 15 p by omega]; exact decide_eq_true hk
    unfold krkOf
    omega
def kHit (w : eW) (to : Int) : Nat → Int → Prop
  | 0, p => p = to
  | n + 1, p => 0 ≤ p ∧ kHit w to n (w 15 p)
theorem kAc.wire {w w' : eW} {a b : Int} (hA : kAc w) (hT : ∀ p, 0 ≤ p → p ≤ 63 → -1 ≤ w 15 p ∧ w 15 p ≤ 63) (ha : 0 ≤ a ∧ a ≤ 63) (hb : 0 ≤ b ∧ b ≤ 63) (hn : ¬ ∃ n, kHit w b n a) (hw : ∀ p, w' 15 p = if p = b then a else w 15 p) : kAc w' := by
  obtain ⟨rk, hrk⟩ := hA
  classical
  refine kAc.ofKey (fun p => if (∃ n, kHit w b n p) then rk p + 64 else rk p) (fun p h0 h1 => ?_) (fun p h0 h1 hq => ?_)
  · rw [hw]; by_cases e : p = b
    · rw [if_pos e]; exact ha.2
    · rw [if_neg e]; exact (hT p h0 h1).2
  · have hp := hrk p h0 h1
    rw [hw] at hq ⊢
    by_cases e : p = b
    · rw [if_pos e]
      have k1 : ∃ n, kHit w b n p := ⟨0, e⟩
      have k2 := hrk a ha.1 ha.2
      simp only [if_neg hn, if_pos k1]
      omega
    · rw [if_neg e] at hq ⊢
      have hlt := hp.2 hq
      by_cases k : ∃ n, kHit w b n p
      · have k2 : ∃ n, kHit w b n (w 15 p) := by
          obtain ⟨n, hn'⟩ := k
          cases n with
          | zero => exact absurd hn' e
          | succ n => exact ⟨n, hn'.2⟩
        simp only [if_pos k, if_pos k2]
        omega
      · have k2 : ¬ ∃ n, kHit w b n (w 15 p) := fun ⟨n, hn'⟩ => k ⟨n + 1, h0, hn'⟩
        simp only [if_neg k, if_neg k2]
        exact hlt
section AR
variable {w v u : eW} {m n i q : Int}
def plc (v : eW) (m p : Int) : Prop := ∃ k, (0 ≤ k ∧ k < m) ∧ v 18 k = p
/-- the points without a wire, below n -/
def bJ (w v : eW) (m n : Int) : Prop := (0 ≤ m ∧ m ≤ n) ∧ (∀ k, 0 ≤ k → k < m → (0 ≤ v 18 k ∧ v 18 k < n) ∧ w 15 (v 18 k) < 0) ∧ (∀ j k, 0 ≤ j → j < k → k < m → v 18 j < v 18 k) ∧ ∀ p, 0 ≤ p → p < n → w 15 p < 0 → plc v m p
theorem bJ.zero : bJ w v 0 0 := ⟨by omega, fun k a b => by omega, fun j k a b c => by omega, fun p a b => by omega⟩
theorem bJ.skip (h : bJ w v m n) (hp : 0 ≤ w 15 n) : bJ w v m (n + 1) := by
  obtain ⟨h1, h2, h3, h4⟩ := h
  refine ⟨by omega, fun k a b => ⟨by have := (h2 k a b).1; omega, (h2 k a b).2⟩, h3, fun p a b c => ?_⟩
  by_cases e : p = n
  · rw [e] at c; omega
  · exact h4 p a (by omega) c
theorem bJ.add (h : bJ w v m n) (hp : w 15 n < 0) (hu : ∀ k, k ≠ m → u 18 k = v 18 k) (hm : u 18 m = n) : bJ w u (m + 1) (n + 1) := by
  obtain ⟨h1, h2, h3, h4⟩ := h
  refine ⟨by omega, fun k a b => ?_, fun j k a b c => ?_, fun p a b c => ?_⟩
  · by_cases e : k = m
    · rw [e, hm]; exact ⟨by omega, hp⟩
    · rw [hu k e]; exact ⟨by have := (h2 k a (by omega)).1; omega, (h2 k a (by omega)).2⟩
  · by_cases e : k = m
    · rw [e, hm, hu j (by omega)]; have := (h2 j a (by omega)).1; omega
    · rw [hu k e, hu j (by omega)]; exact h3 j k a b (by omega)
  · by_cases e : p = n
    · exact ⟨m, by omega, by rw [hm, e]⟩
    · obtain ⟨k, k1, k2⟩ := h4 p a (by omega) c
      exact ⟨k, by omega, by rw [hu k (by omega)]; exact k2⟩
/-- the rest, behind the points that their wires come from: i is looked at, up to q -/
def aJ (w v : eW) (m i q : Int) : Prop := (0 ≤ m ∧ m ≤ 64 ∧ 0 ≤ i ∧ i ≤ m) ∧ (∀ k, 0 ≤ k → k < m → (0 ≤ v 18 k ∧ v 18 k ≤ 63) ∧ (w 15 (v 18 k) < 0 ∨ ∃ j, (0 ≤ j ∧ j < k) ∧ v 18 j = w 15 (v 18 k) ∧ (j < i ∨ (j = i ∧ v 18 k < q)))) ∧ (∀ j k, 0 ≤ j → j < k → k < m → v 18 j ≠ v 18 k) ∧ (m = 64 ∨ ((∀ p, 0 ≤ p → p ≤ 63 → w 15 p < 0 → plc v m p) ∧ (∀ p j, 0 ≤ p → p ≤ 63 → 0 ≤ j → j < i → v 18 j = w 15 p → plc v m p) ∧ ∀ p, 0 ≤ p → p ≤ 63 → p < q → w 15 p = v 18 i → plc v m p))
theorem bJ.out (h : bJ w v m 64) : aJ w v m 0 0 := by
  obtain ⟨h1, h2, h3, h4⟩ := h
  refine ⟨by omega, fun k a b => ⟨by have := (h2 k a b).1; omega, Or.inl (h2 k a b).2⟩, fun j k a b c => by have := h3 j k a b c; omega, Or.inr ⟨fun p a b c => h4 p a (by omega) c, fun p j a b c d => by omega, fun p a b c => by omega⟩⟩
theorem aJ.skip (h : aJ w v m i q) (hp : w 15 q ≠ v 18 i ∨ 64 ≤ m) : aJ w v m i (q + 1) := by
  obtain ⟨h1, h2, h3, h4⟩ := h
  refine ⟨h1, fun k a b => ⟨(h2 k a b).1, ?_⟩, h3, ?_⟩
  · rcases (h2 k a b).2 with g | ⟨j, j1, j2, j3⟩
    · exact Or.inl g
    · exact Or.inr ⟨j, j1, j2, by omega⟩
  · rcases h4 with g | ⟨g1, g2, g3⟩
    · exact Or.inl g
    · by_cases e : m = 64
      · exact Or.inl e
      · refine Or.inr ⟨g1, g2, fun p a b c d => ?_⟩
        by_cases e2 : p = q
        · rw [e2] at d
          rcases hp with hp | hp
          · exact absurd d hp
          · omega
        · exact g3 p a b (by omega) d
theorem aJ.add (h : aJ w v m i q) (hq : 0 ≤ q ∧ q ≤ 63) (hi : i < m) (hm : m < 64) (hp : w 15 q = v 18 i) (hu : ∀ k, k ≠ m → u 18 k = v 18 k) (hum : u 18 m = q) : aJ w u (m + 1) i (q + 1) := by
  obtain ⟨h1, h2, h3, h4⟩ := h
  have hi0 := (h2 i h1.2.2.1 hi).1
  have hnew : ∀ k, 0 ≤ k → k < m → v 18 k ≠ q := fun k a b e => by
    rcases (h2 k a b).2 with g | ⟨j, j1, j2, j3⟩
    · rw [e] at g; omega
    · rw [e, hp] at j2
      rcases j3 with j3 | j3
      · exact h3 j i j1.1 j3 hi j2
      · omega
  have hpl : ∀ p, plc v m p → plc u (m + 1) p := fun p g => by
    obtain ⟨k, k1, k2⟩ := g
    exact ⟨k, by omega, by rw [hu k (by omega)]; exact k2⟩
  refine ⟨by omega, fun k a b => ?_, fun j k a b c => ?_, ?_⟩
  · by_cases e : k = m
    · rw [e, hum]
      refine ⟨by omega, Or.inr ⟨i, by omega, ?_, Or.inr ⟨rfl, by omega⟩⟩⟩
      rw [hu i (by omega)]; exact hp.symm
    · rw [hu k e]
      refine ⟨(h2 k a (by omega)).1, ?_⟩
      rcases (h2 k a (by omega)).2 with g | ⟨j, j1, j2, j3⟩
      · exact Or.inl g
      · exact Or.inr ⟨j, j1, by rw [hu j (by omega)]; exact j2, by omega⟩
  · by_cases e : k = m
    · rw [e, hum, hu j (by omega)]; exact hnew j a (by omega)
    · rw [hu k e, hu j (by omega)]; exact h3 j k a b (by omega)
  · rcases h4 with g | ⟨g1, g2, g3⟩
    · omega
    · refine Or.inr ⟨fun p a b c => hpl p (g1 p a b c), fun p j a b c d e => hpl p (g2 p j a b c d (by rw [← hu j (by omega)]; exact e)), fun p a b c d => ?_⟩
      by_cases e2 : p = q
      · exact ⟨m, by omega, by rw [hum, e2]⟩
      · exact hpl p (g3 p a b (by omega) (by rw [← hu i (by omega)]; exact d))
theorem aJ.next (h : aJ w v m i 64) (hi : i < m) : aJ w v m (i + 1) 0 := by
  obtain ⟨h1, h2, h3, h4⟩ := h
  refine ⟨by omega, fun k a b => ⟨(h2 k a b).1, ?_⟩, h3, ?_⟩
  · rcases (h2 k a b).2 with g | ⟨j, j1, j2, j3⟩
    · exact Or.inl g
    · exact Or.inr ⟨j, j1, j2, by omega⟩
  · rcases h4 with g | ⟨g1, g2, g3⟩
    · exact Or.inl g
    · refine Or.inr ⟨g1, fun p j a b c d e => ?_, fun p a b c => by omega⟩
      by_cases e2 : j = i
      · rw [e2] at e; exact g3 p a b (by omega) e.symm
      · exact g2 p j a b c (by omega) e
theorem aJ.fin (hA : kAc w) (hT : ∀ p, 0 ≤ p → p ≤ 63 → w 15 p ≤ 63) (h : aJ w v m i 0) (he : m ≤ i ∨ 64 ≤ m) : m = 64 ∧ (∀ k, 0 ≤ k → k ≤ 63 → 0 ≤ w 15 (v 18 k) → ∃ j, (0 ≤ j ∧ j < k) ∧ v 18 j = w 15 (v 18 k)) ∧ ∀ p, 0 ≤ p → p ≤ 63 → ∃ k, (0 ≤ k ∧ k ≤ 63) ∧ v 18 k = p := by
  obtain ⟨h1, h2, h3, h4⟩ := h
  have m64 : m = 64 := by
    rcases h4 with g | ⟨g1, g2, g3⟩
    · exact g
    · apply Classical.byContradiction
      intro hm
      obtain ⟨rk, hrk⟩ := hA
      have all : ∀ (N : Nat) (p : Int), 0 ≤ p → p ≤ 63 → rk p < N → plc v m p := by
        intro N
        induction N with
        | zero => intro p a b c; have := (hrk p a b).1; omega
        | succ N ih =>
          intro p a b c
          by_cases e : w 15 p < 0
          · exact g1 p a b e
          · have hr := (hrk p a b).2 (by omega)
            obtain ⟨k, k1, k2⟩ := ih (w 15 p) (by omega) (hT p a b) (by omega)
            exact g2 p k a b k1.1 (by omega) k2
      have al : ∀ p, 0 ≤ p → p ≤ 63 → plc v m p := fun p a b => all 64 p a b (by have := (hrk p a b).1; omega)
      have ix : ∀ p : Int, ∃ k : Int, 0 ≤ p → p ≤ 63 → (0 ≤ k ∧ k < m) ∧ v 18 k = p := fun p => by
        by_cases a : 0 ≤ p ∧ p ≤ 63
        · obtain ⟨k, k1, k2⟩ := al p a.1 a.2
          exact ⟨k, fun _ _ => ⟨k1, k2⟩⟩
        · exact ⟨0, fun b c => absurd ⟨b, c⟩ a⟩
      have key := kpig m.toNat 64 (fun i => Classical.choose (ix (i - 1))) (fun i a b => by
        have z := (Classical.choose_spec (ix (i - 1)) (by omega) (by omega)).1
        show 0 ≤ Classical.choose (ix (i - 1)) ∧ Classical.choose (ix (i - 1)) < (m.toNat : Int)
        omega) (fun i j a b c e => by
        have z1 := (Classical.choose_spec (ix (i - 1)) (by omega) (by omega)).2
        have z2 := (Classical.choose_spec (ix (j - 1)) (by omega) (by omega)).2
        rw [show Classical.choose (ix (i - 1)) = Classical.choose (ix (j - 1)) from e] at z1
        omega)
      omega
  refine ⟨m64, fun k a b c => ?_, fun p a b => ?_⟩
  · rcases (h2 k a (by omega)).2 with g | ⟨j, j1, j2, -⟩
    · omega
    · exact ⟨j, j1, j2⟩
  · apply Classical.byContradiction
    intro hn
    have hne : ∀ k, 0 ≤ k → k ≤ 63 → v 18 k ≠ p := fun k c d e => hn ⟨k, ⟨c, d⟩, e⟩
    have key := kpig 63 64 (fun i => if p < v 18 (i - 1) then v 18 (i - 1) - 1 else v 18 (i - 1)) (fun i c d => by
      have z1 := (h2 (i - 1) (by omega) (by omega)).1
      have z2 := hne (i - 1) (by omega) (by omega)
      show 0 ≤ (if p < v 18 (i - 1) then v 18 (i - 1) - 1 else v 18 (i - 1)) ∧ (if p < v 18 (i - 1) then v 18 (i - 1) - 1 else v 18 (i - 1)) < 63
      split <;> omega) (fun i j c d e => by
      have z1 := hne (i - 1) (by omega) (by omega)
      have z2 := hne (j - 1) (by omega) (by omega)
      have z3 := h3 (i - 1) (j - 1) (by omega) (by omega) (by omega)
      show (if p < v 18 (i - 1) then v 18 (i - 1) - 1 else v 18 (i - 1)) ≠ (if p < v 18 (j - 1) then v 18 (j - 1) - 1 else v 18 (j - 1))
      split <;> split <;> omega)
    omega
end AR
end
end
-- part dr
section
noncomputable section
/-! the class: about, wires -/
def kF15 (c k : Int) : Prop := c = 15
def kF18 (c k : Int) : Prop := c = 18
def kF92 (a : Int) (c k : Int) : Prop := c = 17 * a + 92
def kF74 (c k : Int) : Prop := c = 274
theorem c_235 {d : Nat} (hd : 25 ≤ d) {w : eW} (hl : lkK w) {a : Int} (g_a : (-2147483648) ≤ a ∧ a ≤ 2147483647) {b : Int} (g_b : (-2147483648) ≤ b ∧ b ≤ 2147483647) : e_Ok 20 elay kcode eI d 235 (0, [(0, (1, 0)), (1, (0, a)), (2, (0, b))], [], w) (fun r w' => ∃ z : Int, r = [(0, z)] ∧ w = w') := by
  obtain ⟨d, rfl⟩ : ∃ e, d = e + 1 := ⟨d - 1, by omega⟩
  obtain ⟨hT, hAll, hC, hW, ka, hF⟩ := hl
  have hw0 := e_Has.get hT (c := 0) (k := 11) (lo := 0) (hi := 4) (kt_o rfl) (by decide)
  have hp1 := e_Has.get hT (c := 19) (k := 1) (lo := 0) (hi := 32) (kt_o rfl) (by decide)
  refine e_Ok.ps3 (x := (1, 0)) (y := (0, 0)) (z := (0, a)) (q := 3) 3 rfl ?_
  refine e_Ok.getr (z := 19) rfl (el_o rfl) rfl rfl (e_Has.eq hT (kt_o rfl)) ⟨by decide, by decide⟩ ?_
  have h1 := (e_Has.get hT (c := 19) (k := 1) (lo := 0) (hi := 32) (kt_o rfl) (by decide))
  refine e_Ok.getf (z := w 19 1) rfl (el_o rfl) rfl rfl rfl (e_bq h1 (by decide) (by decide)) ?_
  refine e_Ok.ps1 (x := (0, 1)) (q := 10) 1 rfl ?_
  refine e_Ok.sub' (z := w 19 1 - 1) rfl rfl (by omega) ?_
  refine e_Ok.callS rfl (e_dq hd rfl) rfl rfl (c_242 (by omega) (by omega) (by omega)) (fun r2 w3 h4 => ?_)
  obtain ⟨z5, rfl, rfl, q6⟩ := h4
  obtain ⟨rfl, q6⟩ | ⟨rfl, q6⟩ := q6
  · refine e_Ok.nrm (q := 14) (st' := [(0, 1)]) rfl rfl ?_
    refine e_Ok.if1 rfl (fun h7 => ?_) (fun h7 => ?_)
    · replace h7 : (1 : Int) ≠ 0 := h7
      have hfp := (hF.2 a (by omega) (by omega)).1
      refine e_Ok.ps1 (x := (1, 0)) (q := 20) 1 rfl ?_
      refine e_Ok.getr (z := 19) rfl (el_o rfl) rfl rfl (e_Has.eq hT (kt_o rfl)) ⟨by decide, by decide⟩ ?_
      refine e_Ok.getr (z := 36) rfl (el_o rfl) rfl rfl (e_Has.eq hT (kt_o rfl)) ⟨by decide, by decide⟩ ?_
      refine e_Ok.ps1 (x := (0, a)) (q := 27) 1 rfl ?_
      refine e_Ok.ald (z := w 36 a) rfl (el_o rfl) rfl (by omega) rfl (by omega) ?_
      refine e_Ok.run (t' := (33, [(3, (0, w 36 a)), (0, (1, 0)), (1, (0, a)), (2, (0, b))], [(0, 7), (0, 4), (0, w 36 a)], w)) 4 rfl ?_
      refine e_Ok.callS rfl (e_dq hd rfl) rfl rfl (c_242 (by omega) (by omega) (by omega)) (fun r8 w9 h10 => ?_)
      obtain ⟨z11, rfl, rfl, q12⟩ := h10
      obtain ⟨rfl, q12⟩ | ⟨rfl, q12⟩ := q12
      · refine e_Ok.nrm (q := 36) (st' := [(0, 1)]) rfl rfl ?_
        refine e_Ok.if1 rfl (fun h13 => ?_) (fun h13 => ?_)
        · replace h13 : (1 : Int) = 0 := h13
          exfalso; omega
        · replace h13 : (1 : Int) ≠ 0 := (show ¬ ((1 : Int) = 0) from h13)
          refine e_Ok.ps1 (x := (1, 0)) (q := 40) 1 rfl ?_
          refine e_Ok.getr (z := 9) rfl (el_o rfl) rfl rfl (e_Has.eq hT (kt_o rfl)) ⟨by decide, by decide⟩ ?_
          refine e_Ok.ps2 (x := (0, 4)) (y := (0, w 36 a)) (q := 45) 2 rfl ?_
          refine e_Ok.sub' (z := w 36 a - 4) rfl rfl (by omega) ?_
          refine e_Ok.aald (z := 17 * w 36 a + 18) rfl (el_o rfl) rfl (by omega) (Eq.trans (e_Has.eq hT (k9 (by omega))) (by omega)) (by omega) ?_
          refine e_Ok.run (t' := (54, [(4, (1, 17 * w 36 a + 18)), (3, (0, w 36 a)), (0, (1, 0)), (1, (0, a)), (2, (0, b))], [(0, b)], w)) 3 rfl ?_
          obtain h14 | h14 | h14 | h14 | h14 | h14 : (b : Int) < 0 ∨ (b : Int) = 0 ∨ (b : Int) = 1 ∨ (b : Int) = 2 ∨ (b : Int) = 3 ∨ 3 < (b : Int) := by omega
          · refine e_Ok.swk (tg := 161) rfl (ke_arm_hd (by omega)) ?_
            refine e_Ok.run (t' := (162, [(4, (1, 17 * w 36 a + 18)), (3, (0, w 36 a)), (0, (1, 0)), (1, (0, a)), (2, (0, b))], [(0, (-1))], w)) 1 rfl ?_
            refine e_Ok.rets rfl rfl ?_
            exact ⟨_, rfl, rfl⟩
          · refine e_Ok.swk (tg := 84) rfl (by rw [ke_arm_tl (by omega)]; exact ke_arm_hd (by omega)) ?_
            refine e_Ok.run (t' := (85, [(4, (1, 17 * w 36 a + 18)), (3, (0, w 36 a)), (0, (1, 0)), (1, (0, a)), (2, (0, b))], [(0, w 36 a)], w)) 1 rfl ?_
            refine e_Ok.rets rfl rfl ?_
            exact ⟨_, rfl, rfl⟩
          · refine e_Ok.swk (tg := 86) rfl (by rw [ke_arm_tl (by omega), ke_arm_tl (by omega)]; exact ke_arm_hd (by omega)) ?_
            have hjn := kn_joints hT (a := w 36 a - 4) (by omega)
            refine e_Ok.run (t' := (88, [(4, (1, 17 * w 36 a + 18)), (3, (0, w 36 a)), (0, (1, 0)), (1, (0, a)), (2, (0, b))], [(1, 17 * w 36 a + 18)], w)) 1 rfl ?_
            refine e_Ok.isnull rfl ?_
            refine e_Ok.run (t' := (93, [(4, (1, 17 * w 36 a + 18)), (3, (0, w 36 a)), (0, (1, 0)), (1, (0, a)), (2, (0, b))], [(1, 17 * w 36 a + 18)], w)) 1 rfl ?_
            refine e_Ok.getr (z := 17 * w 36 a + 20) rfl (lA0 (a := (w 36 a - 4)) (by omega) (by omega)) rfl rfl (Eq.trans (e_Has.eq hT (kA_1 (a := (w 36 a - 4)) (by omega) (by omega))) (by omega)) (by omega) ?_
            refine e_Ok.ps1 (x := (1, 17 * w 36 a + 18)) (q := 98) 1 rfl ?_
            have h15 := (e_Has.get hT (c := 17 * w 36 a + 18) (k := 8) (lo := 0) (hi := 6) (kA_8 (a := (w 36 a - 4)) (by omega) (by omega)) (by decide))
            refine e_Ok.getf (z := w (17 * w 36 a + 18) 8) rfl (lA0 (a := (w 36 a - 4)) (by omega) (by omega)) rfl rfl rfl (e_bq h15 (by decide) (by decide)) ?_
            have h16 := (show -2147483648 ≤ w (17 * w 36 a + 20) (w (17 * w 36 a + 18) 8) ∧ w (17 * w 36 a + 20) (w (17 * w 36 a + 18) 8) ≤ 2147483647 from hAll (17 * w 36 a + 20) (w (17 * w 36 a + 18) 8) (by omega) (by omega))
            refine e_Ok.ald (z := w (17 * w 36 a + 20) (w (17 * w 36 a + 18) 8)) rfl (lA2 (a := (w 36 a - 4)) (by omega) (by omega)) rfl (by omega) rfl (by omega) ?_
            refine e_Ok.ps0 (q := 113) 1 rfl ?_
            refine e_Ok.rets rfl rfl ?_
            exact ⟨_, rfl, rfl⟩
          · refine e_Ok.swk (tg := 114) rfl (by rw [ke_arm_tl (by omega), ke_arm_tl (by omega), ke_arm_tl (by omega)]; exact ke_arm_hd (by omega)) ?_
            have hjn := kn_joints hT (a := w 36 a - 4) (by omega)
            refine e_Ok.run (t' := (116, [(4, (1, 17 * w 36 a + 18)), (3, (0, w 36 a)), (0, (1, 0)), (1, (0, a)), (2, (0, b))], [(1, 17 * w 36 a + 18)], w)) 1 rfl ?_
            refine e_Ok.isnull rfl ?_
            refine e_Ok.run (t' := (121, [(4, (1, 17 * w 36 a + 18)), (3, (0, w 36 a)), (0, (1, 0)), (1, (0, a)), (2, (0, b))], [(1, 17 * w 36 a + 18)], w)) 1 rfl ?_
            refine e_Ok.getr (z := 17 * w 36 a + 21) rfl (lA0 (a := (w 36 a - 4)) (by omega) (by omega)) rfl rfl (Eq.trans (e_Has.eq hT (kA_2 (a := (w 36 a - 4)) (by omega) (by omega))) (by omega)) (by omega) ?_
            refine e_Ok.ps1 (x := (1, 17 * w 36 a + 18)) (q := 126) 1 rfl ?_
            have h17 := (e_Has.get hT (c := 17 * w 36 a + 18) (k := 8) (lo := 0) (hi := 6) (kA_8 (a := (w 36 a - 4)) (by omega) (by omega)) (by decide))
            refine e_Ok.getf (z := w (17 * w 36 a + 18) 8) rfl (lA0 (a := (w 36 a - 4)) (by omega) (by omega)) rfl rfl rfl (e_bq h17 (by decide) (by decide)) ?_
            have h18 := (show -2147483648 ≤ w (17 * w 36 a + 21) (w (17 * w 36 a + 18) 8) ∧ w (17 * w 36 a + 21) (w (17 * w 36 a + 18) 8) ≤ 2147483647 from hAll (17 * w 36 a + 21) (w (17 * w 36 a + 18) 8) (by omega) (by omega))
            refine e_Ok.ald (z := w (17 * w 36 a + 21) (w (17 * w 36 a + 18) 8)) rfl (lA3 (a := (w 36 a - 4)) (by omega) (by omega)) rfl (by omega) rfl (by omega) ?_
            refine e_Ok.ps0 (q := 141) 1 rfl ?_
            refine e_Ok.rets rfl rfl ?_
            exact ⟨_, rfl, rfl⟩
          · refine e_Ok.swk (tg := 142) rfl (by rw [ke_arm_tl (by omega), ke_arm_tl (by omega), ke_arm_tl (by omega), ke_arm_tl (by omega)]; exact ke_arm_hd (by omega)) ?_
            refine e_Ok.run (t' := (144, [(4, (1, 17 * w 36 a + 18)), (3, (0, w 36 a)), (0, (1, 0)), (1, (0, a)), (2, (0, b))], [(0, 4), (0, w 36 a)], w)) 2 rfl ?_
            refine e_Ok.if2 rfl (fun h19 => ?_) (fun h19 => ?_)
            · replace h19 : (w 36 a : Int) ≥ 4 := h19
              refine e_Ok.ps1 (x := (0, 0)) (q := 160) 1 rfl ?_
              refine e_Ok.rets rfl rfl ?_
              exact ⟨_, rfl, rfl⟩
            · replace h19 : (w 36 a : Int) < 4 := Int.not_le.mp (show ¬ ((w 36 a : Int) ≥ 4) from h19)
              exfalso; omega
          · refine e_Ok.swk (tg := 161) rfl (by rw [ke_arm_tl (by omega), ke_arm_tl (by omega), ke_arm_tl (by omega), ke_arm_tl (by omega), ke_arm_tl (by omega)]; exact ke_arm_hd (by omega)) ?_
            refine e_Ok.run (t' := (162, [(4, (1, 17 * w 36 a + 18)), (3, (0, w 36 a)), (0, (1, 0)), (1, (0, a)), (2, (0, b))], [(0, (-1))], w)) 1 rfl ?_
            refine e_Ok.rets rfl rfl ?_
            exact ⟨_, rfl, rfl⟩
      · refine e_Ok.nrm (q := 36) (st' := [(0, 0)]) rfl rfl ?_
        refine e_Ok.if1 rfl (fun h20 => ?_) (fun h20 => ?_)
        · replace h20 : (0 : Int) = 0 := h20
          refine e_Ok.run (t' := (54, [(4, (2, 0)), (3, (0, w 36 a)), (0, (1, 0)), (1, (0, a)), (2, (0, b))], [(0, b)], w)) 3 rfl ?_
          obtain h21 | h21 | h21 | h21 | h21 | h21 : (b : Int) < 0 ∨ (b : Int) = 0 ∨ (b : Int) = 1 ∨ (b : Int) = 2 ∨ (b : Int) = 3 ∨ 3 < (b : Int) := by omega
          · refine e_Ok.swk (tg := 161) rfl (ke_arm_hd (by omega)) ?_
            refine e_Ok.run (t' := (162, [(4, (2, 0)), (3, (0, w 36 a)), (0, (1, 0)), (1, (0, a)), (2, (0, b))], [(0, (-1))], w)) 1 rfl ?_
            refine e_Ok.rets rfl rfl ?_
            exact ⟨_, rfl, rfl⟩
          · refine e_Ok.swk (tg := 84) rfl (by rw [ke_arm_tl (by omega)]; exact ke_arm_hd (by omega)) ?_
            refine e_Ok.run (t' := (85, [(4, (2, 0)), (3, (0, w 36 a)), (0, (1, 0)), (1, (0, a)), (2, (0, b))], [(0, w 36 a)], w)) 1 rfl ?_
            refine e_Ok.rets rfl rfl ?_
            exact ⟨_, rfl, rfl⟩
          · refine e_Ok.swk (tg := 86) rfl (by rw [ke_arm_tl (by omega), ke_arm_tl (by omega)]; exact ke_arm_hd (by omega)) ?_
            refine e_Ok.run (t' := (88, [(4, (2, 0)), (3, (0, w 36 a)), (0, (1, 0)), (1, (0, a)), (2, (0, b))], [(2, 0)], w)) 1 rfl ?_
            refine e_Ok.isnul0 rfl ?_
            refine e_Ok.run (t' := (106, [(4, (2, 0)), (3, (0, w 36 a)), (0, (1, 0)), (1, (0, a)), (2, (0, b))], [(1, 0)], w)) 1 rfl ?_
            refine e_Ok.getr (z := 19) rfl (el_o rfl) rfl rfl (e_Has.eq hT (kt_o rfl)) ⟨by decide, by decide⟩ ?_
            refine e_Ok.ps1 (x := (0, a)) (q := 110) 1 rfl ?_
            refine e_Ok.callV rfl (e_dq hd rfl) rfl rfl rfl rfl (c_81 hT (by omega) hF (by omega) (by omega)) (fun r22 w23 h24 => ?_)
            obtain ⟨z25, rfl, rfl, q26⟩ := h24
            refine e_Ok.nrm (q := 113) (st' := [(0, z25)]) rfl rfl ?_
            refine e_Ok.rets rfl rfl ?_
            exact ⟨_, rfl, rfl⟩
          · refine e_Ok.swk (tg := 114) rfl (by rw [ke_arm_tl (by omega), ke_arm_tl (by omega), ke_arm_tl (by omega)]; exact ke_arm_hd (by omega)) ?_
            refine e_Ok.run (t' := (116, [(4, (2, 0)), (3, (0, w 36 a)), (0, (1, 0)), (1, (0, a)), (2, (0, b))], [(2, 0)], w)) 1 rfl ?_
            refine e_Ok.isnul0 rfl ?_
            refine e_Ok.run (t' := (134, [(4, (2, 0)), (3, (0, w 36 a)), (0, (1, 0)), (1, (0, a)), (2, (0, b))], [(1, 0)], w)) 1 rfl ?_
            refine e_Ok.getr (z := 19) rfl (el_o rfl) rfl rfl (e_Has.eq hT (kt_o rfl)) ⟨by decide, by decide⟩ ?_
            refine e_Ok.ps1 (x := (0, a)) (q := 138) 1 rfl ?_
            refine e_Ok.callV rfl (e_dq hd rfl) rfl rfl rfl rfl (c_82 hT (by omega) hF (by omega) (by omega)) (fun r27 w28 h29 => ?_)
            obtain ⟨z30, rfl, rfl, q31⟩ := h29
            refine e_Ok.nrm (q := 141) (st' := [(0, z30)]) rfl rfl ?_
            refine e_Ok.rets rfl rfl ?_
            exact ⟨_, rfl, rfl⟩
          · refine e_Ok.swk (tg := 142) rfl (by rw [ke_arm_tl (by omega), ke_arm_tl (by omega), ke_arm_tl (by omega), ke_arm_tl (by omega)]; exact ke_arm_hd (by omega)) ?_
            refine e_Ok.run (t' := (144, [(4, (2, 0)), (3, (0, w 36 a)), (0, (1, 0)), (1, (0, a)), (2, (0, b))], [(0, 4), (0, w 36 a)], w)) 2 rfl ?_
            refine e_Ok.if2 rfl (fun h32 => ?_) (fun h32 => ?_)
            · replace h32 : (w 36 a : Int) ≥ 4 := h32
              refine e_Ok.ps1 (x := (0, 0)) (q := 160) 1 rfl ?_
              refine e_Ok.rets rfl rfl ?_
              exact ⟨_, rfl, rfl⟩
            · replace h32 : (w 36 a : Int) < 4 := Int.not_le.mp (show ¬ ((w 36 a : Int) ≥ 4) from h32)
              refine e_Ok.ps1 (x := (1, 0)) (q := 148) 1 rfl ?_
              refine e_Ok.getr (z := 19) rfl (el_o rfl) rfl rfl (e_Has.eq hT (kt_o rfl)) ⟨by decide, by decide⟩ ?_
              refine e_Ok.getr (z := 37) rfl (el_o rfl) rfl rfl (e_Has.eq hT (kt_o rfl)) ⟨by decide, by decide⟩ ?_
              refine e_Ok.ps1 (x := (0, a)) (q := 155) 1 rfl ?_
              have h33 := (show -2147483648 ≤ w 37 a ∧ w 37 a ≤ 2147483647 from hAll 37 a (by omega) (by omega))
              refine e_Ok.ald (z := w 37 a) rfl (el_o rfl) rfl (by omega) rfl (by omega) ?_
              refine e_Ok.ps0 (q := 160) 1 rfl ?_
              refine e_Ok.rets rfl rfl ?_
              exact ⟨_, rfl, rfl⟩
          · refine e_Ok.swk (tg := 161) rfl (by rw [ke_arm_tl (by omega), ke_arm_tl (by omega), ke_arm_tl (by omega), ke_arm_tl (by omega), ke_arm_tl (by omega)]; exact ke_arm_hd (by omega)) ?_
            refine e_Ok.run (t' := (162, [(4, (2, 0)), (3, (0, w 36 a)), (0, (1, 0)), (1, (0, a)), (2, (0, b))], [(0, (-1))], w)) 1 rfl ?_
            refine e_Ok.rets rfl rfl ?_
            exact ⟨_, rfl, rfl⟩
        · replace h20 : (0 : Int) ≠ 0 := (show ¬ ((0 : Int) = 0) from h20)
          exfalso; omega
    · replace h7 : (1 : Int) = 0 := Classical.not_not.mp (show ¬ ((1 : Int) ≠ 0) from h7)
      exfalso; omega
  · refine e_Ok.nrm (q := 14) (st' := [(0, 0)]) rfl rfl ?_
    refine e_Ok.if1 rfl (fun h34 => ?_) (fun h34 => ?_)
    · replace h34 : (0 : Int) ≠ 0 := h34
      exfalso; omega
    · replace h34 : (0 : Int) = 0 := Classical.not_not.mp (show ¬ ((0 : Int) ≠ 0) from h34)
      refine e_Ok.ps1 (x := (0, (-1))) (q := 18) 1 rfl ?_
      refine e_Ok.rets rfl rfl ?_
      exact ⟨_, rfl, rfl⟩
theorem c_452_15 {d : Nat} {w : eW} (hT : e_Has kTy w) : e_Ok 20 elay kcode eI d 452 (0, [(0, (1, 15)), (1, (0, (-1)))], [], w) (fun r w' => r = [] ∧ e_fr kF15 w w' ∧ e_Has kTy w' ∧ (∀ k, 0 ≤ k → k < 64 → w' 15 k = (-1))) := by
  refine e_Ok.run (t' := (3, [(2, (0, 0)), (0, (1, 15)), (1, (0, (-1)))], [(1, 15)], w)) 3 rfl ?_
  refine e_Ok.alen rfl rfl rfl ?_
  refine e_Ok.run (t' := (5, [(3, (0, 64)), (2, (0, 0)), (0, (1, 15)), (1, (0, (-1)))], [], w)) 1 rfl ?_
  have hL1 : ∀ (nn : Nat) (y2 : Int) (v1 : eW), e_fr kF15 w v1 ∧ e_Has kTy v1 ∧ (∀ i, 0 ≤ i → i < y2 → v1 15 i = (-1)) ∧ (0 ≤ y2 ∧ y2 ≤ 64) → 64 - y2 < nn → e_Ok 20 elay kcode eI d 452 (5, [(0, (1, 15)), (1, (0, (-1))), (2, (0, y2)), (3, (0, 64))], [], v1) (fun r w' => r = [] ∧ e_fr kF15 w w' ∧ e_Has kTy w' ∧ (∀ k, 0 ≤ k → k < 64 → w' 15 k = (-1))) := by
    intro nn
    induction nn with
    | zero => intro y2 v1 hj hm; obtain ⟨j3, j4, j5, j6⟩ := hj; exfalso; omega
    | succ nn ih2 =>
      intro y2 v1 hj hm
      obtain ⟨j3, j4, j5, j6⟩ := hj
      refine e_Ok.run (t' := (7, [(0, (1, 15)), (1, (0, (-1))), (2, (0, y2)), (3, (0, 64))], [(0, 64), (0, y2)], v1)) 2 rfl ?_
      refine e_Ok.if2 rfl (fun h7 => ?_) (fun h7 => ?_)
      · replace h7 : (y2 : Int) ≥ 64 := h7
        refine e_Ok.rets rfl rfl ?_
        exact ⟨rfl, j3, j4, fun k g1 g2 => j5 k g1 (by omega)⟩
      · replace h7 : (y2 : Int) < 64 := Int.not_le.mp (show ¬ ((y2 : Int) ≥ 64) from h7)
        refine e_Ok.ps3 (x := (0, (-1))) (y := (0, y2)) (z := (1, 15)) (q := 13) 3 rfl ?_
        refine e_Ok.ast rfl (el_o rfl) rfl rfl (by omega) ?_
        generalize hw8 : e_up v1 15 y2 (-1) = w8
        have hT10 : e_Has kTy w8 := e_Has.upr j4 hw8 rfl (by omega)
        refine e_Ok.inc (z := y2 + 1) rfl rfl (by first | with_reducible rfl | omega) (by omega) ?_
        show e_Ok 20 elay kcode eI d 452 (17, [(2, (0, y2 + 1)), (0, (1, 15)), (1, (0, (-1))), (3, (0, 64))], [], w8) _
        refine e_Ok.ps0 (q := 5) 1 rfl ?_
        refine e_Ok.sub kAlk (e_sub_of rfl ?_) (ih2 (y2 + 1) w8 ⟨(show e_fr kF15 w w8 from e_fr.up j3 hw8 (by first | exact rfl | (unfold kF15; omega))), hT10, (fun i g1 g2 => by rw [← hw8]; by_cases e : i = y2; (rw [e, e_up_eq]); (rw [e_up_ne _ _ (Or.inr e)]; exact j5 i g1 (by omega))), by omega⟩ (by omega))
        exact ⟨rfl, rfl, rfl, rfl, trivial⟩
  refine e_Ok.sub kAlk (e_sub_of rfl ?_) (hL1 (64 + 1 : Int).toNat 0 w ⟨(e_fr.refl w), hT, (fun i g1 g2 => by omega), by omega⟩ (by omega))
  exact ⟨rfl, rfl, rfl, rfl, trivial⟩
theorem c_452_92 {d : Nat} {w : eW} (hT : e_Has kTy w) {a : Int} (g_a : 0 ≤ a ∧ a ≤ 3) : e_Ok 20 elay kcode eI d 452 (0, [(0, (1, 17 * a + 92)), (1, (0, 0))], [], w) (fun r w' => r = [] ∧ e_fr (kF92 a) w w' ∧ e_Has kTy w' ∧ (∀ k, 0 ≤ k → k < 7 → w' (17 * a + 92) k = 0)) := by
  refine e_Ok.run (t' := (3, [(2, (0, 0)), (0, (1, 17 * a + 92)), (1, (0, 0))], [(1, 17 * a + 92)], w)) 3 rfl ?_
  refine e_Ok.alen rfl (lA6 (a := a) rfl g_a) rfl ?_
  refine e_Ok.run (t' := (5, [(3, (0, 7)), (2, (0, 0)), (0, (1, 17 * a + 92)), (1, (0, 0))], [], w)) 1 rfl ?_
  have hL1 : ∀ (nn : Nat) (y2 : Int) (v1 : eW), e_fr (kF92 a) w v1 ∧ e_Has kTy v1 ∧ (∀ i, 0 ≤ i → i < y2 → v1 (17 * a + 92) i = 0) ∧ (0 ≤ y2 ∧ y2 ≤ 7) → 7 - y2 < nn → e_Ok 20 elay kcode eI d 452 (5, [(0, (1, 17 * a + 92)), (1, (0, 0)), (2, (0, y2)), (3, (0, 7))], [], v1) (fun r w' => r = [] ∧ e_fr (kF92 a) w w' ∧ e_Has kTy w' ∧ (∀ k, 0 ≤ k → k < 7 → w' (17 * a + 92) k = 0)) := by
    intro nn
    induction nn with
    | zero => intro y2 v1 hj hm; obtain ⟨j3, j4, j5, j6⟩ := hj; exfalso; omega
    | succ nn ih2 =>
      intro y2 v1 hj hm
      obtain ⟨j3, j4, j5, j6⟩ := hj
      refine e_Ok.run (t' := (7, [(0, (1, 17 * a + 92)), (1, (0, 0)), (2, (0, y2)), (3, (0, 7))], [(0, 7), (0, y2)], v1)) 2 rfl ?_
      refine e_Ok.if2 rfl (fun h7 => ?_) (fun h7 => ?_)
      · replace h7 : (y2 : Int) ≥ 7 := h7
        refine e_Ok.rets rfl rfl ?_
        exact ⟨rfl, j3, j4, fun k g1 g2 => j5 k g1 (by omega)⟩
      · replace h7 : (y2 : Int) < 7 := Int.not_le.mp (show ¬ ((y2 : Int) ≥ 7) from h7)
        refine e_Ok.ps3 (x := (0, 0)) (y := (0, y2)) (z := (1, 17 * a + 92)) (q := 13) 3 rfl ?_
        refine e_Ok.ast rfl (lA6 (a := a) rfl g_a) rfl rfl (by omega) ?_
        generalize hw8 : e_up v1 (17 * a + 92) y2 0 = w8
        have hT10 : e_Has kTy w8 := e_Has.upr j4 hw8 (kA92 (a := a) _ rfl g_a) (by omega)
        refine e_Ok.inc (z := y2 + 1) rfl rfl (by first | with_reducible rfl | omega) (by omega) ?_
        show e_Ok 20 elay kcode eI d 452 (17, [(2, (0, y2 + 1)), (0, (1, 17 * a + 92)), (1, (0, 0)), (3, (0, 7))], [], w8) _
        refine e_Ok.ps0 (q := 5) 1 rfl ?_
        refine e_Ok.sub kAlk (e_sub_of rfl ?_) (ih2 (y2 + 1) w8 ⟨(show e_fr (kF92 a) w w8 from e_fr.up j3 hw8 (by first | exact (by omega) | (unfold kF92; omega))), hT10, (fun i g1 g2 => by rw [← hw8]; by_cases e : i = y2; (rw [e, e_up_eq]); (rw [e_up_ne _ _ (Or.inr e)]; exact j5 i g1 (by omega))), by omega⟩ (by omega))
        exact ⟨rfl, rfl, rfl, rfl, trivial⟩
  refine e_Ok.sub kAlk (e_sub_of rfl ?_) (hL1 (7 + 1 : Int).toNat 0 w ⟨(e_fr.refl w), hT, (fun i g1 g2 => by omega), by omega⟩ (by omega))
  exact ⟨rfl, rfl, rfl, rfl, trivial⟩
theorem c_452_74 {d : Nat} {w : eW} (hT : e_Has kTy w) : e_Ok 20 elay kcode eI d 452 (0, [(0, (1, 274)), (1, (0, 0))], [], w) (fun r w' => r = [] ∧ e_fr kF74 w w' ∧ e_Has kTy w' ∧ (∀ k, 0 ≤ k → k < 4 → w' 274 k = 0)) := by
  refine e_Ok.run (t' := (3, [(2, (0, 0)), (0, (1, 274)), (1, (0, 0))], [(1, 274)], w)) 3 rfl ?_
  refine e_Ok.alen rfl rfl rfl ?_
  refine e_Ok.run (t' := (5, [(3, (0, 4)), (2, (0, 0)), (0, (1, 274)), (1, (0, 0))], [], w)) 1 rfl ?_
  have hL1 : ∀ (nn : Nat) (y2 : Int) (v1 : eW), e_fr kF74 w v1 ∧ e_Has kTy v1 ∧ (∀ i, 0 ≤ i → i < y2 → v1 274 i = 0) ∧ (0 ≤ y2 ∧ y2 ≤ 4) → 4 - y2 < nn → e_Ok 20 elay kcode eI d 452 (5, [(0, (1, 274)), (1, (0, 0)), (2, (0, y2)), (3, (0, 4))], [], v1) (fun r w' => r = [] ∧ e_fr kF74 w w' ∧ e_Has kTy w' ∧ (∀ k, 0 ≤ k → k < 4 → w' 274 k = 0)) := by
    intro nn
    induction nn with
    | zero => intro y2 v1 hj hm; obtain ⟨j3, j4, j5, j6⟩ := hj; exfalso; omega
    | succ nn ih2 =>
      intro y2 v1 hj hm
      obtain ⟨j3, j4, j5, j6⟩ := hj
      refine e_Ok.run (t' := (7, [(0, (1, 274)), (1, (0, 0)), (2, (0, y2)), (3, (0, 4))], [(0, 4), (0, y2)], v1)) 2 rfl ?_
      refine e_Ok.if2 rfl (fun h7 => ?_) (fun h7 => ?_)
      · replace h7 : (y2 : Int) ≥ 4 := h7
        refine e_Ok.rets rfl rfl ?_
        exact ⟨rfl, j3, j4, fun k g1 g2 => j5 k g1 (by omega)⟩
      · replace h7 : (y2 : Int) < 4 := Int.not_le.mp (show ¬ ((y2 : Int) ≥ 4) from h7)
        refine e_Ok.ps3 (x := (0, 0)) (y := (0, y2)) (z := (1, 274)) (q := 13) 3 rfl ?_
        refine e_Ok.ast rfl (el_o rfl) rfl rfl (by omega) ?_
        generalize hw8 : e_up v1 274 y2 0 = w8
        have hT10 : e_Has kTy w8 := e_Has.ups j4 hw8 rfl
        refine e_Ok.inc (z := y2 + 1) rfl rfl (by first | with_reducible rfl | omega) (by omega) ?_
        show e_Ok 20 elay kcode eI d 452 (17, [(2, (0, y2 + 1)), (0, (1, 274)), (1, (0, 0)), (3, (0, 4))], [], w8) _
        refine e_Ok.ps0 (q := 5) 1 rfl ?_
        refine e_Ok.sub kAlk (e_sub_of rfl ?_) (ih2 (y2 + 1) w8 ⟨(show e_fr kF74 w w8 from e_fr.up j3 hw8 (by first | exact rfl | (unfold kF74; omega))), hT10, (fun i g1 g2 => by rw [← hw8]; by_cases e : i = y2; (rw [e, e_up_eq]); (rw [e_up_ne _ _ (Or.inr e)]; exact j5 i g1 (by omega))), by omega⟩ (by omega))
        exact ⟨rfl, rfl, rfl, rfl, trivial⟩
  refine e_Ok.sub kAlk (e_sub_of rfl ?_) (hL1 (4 + 1 : Int).toNat 0 w ⟨(e_fr.refl w), hT, (fun i g1 g2 => by omega), by omega⟩ (by omega))
  exact ⟨rfl, rfl, rfl, rfl, trivial⟩
theorem c_111 {d : Nat} {w : eW} (hT : e_Has kTy w) (hA : kAc w) {p : Int} (g_p : 0 ≤ p ∧ p ≤ 63) {q : Int} (g_q : 0 ≤ q ∧ q ≤ 63) : e_Ok 20 elay kcode eI d 111 (0, [(0, (1, 10)), (1, (0, p)), (2, (0, q))], [], w) (fun r w' => ∃ z : Int, r = [(0, z)] ∧ w = w' ∧ (0 ≤ z ∧ z ≤ 1) ∧ (z = 1 → w 15 q < 0 ∧ ¬ ∃ n, kHit w q n p)) := by
  obtain ⟨rk, hrk, hrm⟩ := hA.rk1
  refine e_Ok.ps1 (x := (1, 10)) (q := 1) 1 rfl ?_
  refine e_Ok.getr (z := 15) rfl (el_o rfl) rfl rfl (e_Has.eq hT (kt_o rfl)) ⟨by decide, by decide⟩ ?_
  refine e_Ok.ps1 (x := (0, q)) (q := 5) 1 rfl ?_
  have h1 := (e_Has.get hT (c := 15) (k := q) (lo := (-1)) (hi := 63) (kt_o rfl) (by decide))
  refine e_Ok.ald (z := w 15 q) rfl (el_o rfl) rfl (by omega) rfl (e_bq h1 (by decide) (by decide)) ?_
  refine e_Ok.if1 rfl (fun h2 => ?_) (fun h2 => ?_)
  · replace h2 : (w 15 q : Int) < 0 := h2
    refine e_Ok.run (t' := (16, [(4, (0, 0)), (3, (0, p)), (0, (1, 10)), (1, (0, p)), (2, (0, q))], [], w)) 4 rfl ?_
    have hL3 : ∀ (nn : Nat) (y3 : Int) (y4 : Int), ((-1 ≤ y3 ∧ y3 ≤ 63)) ∧ ((∃ n, kHit w q n p) → ∃ n, kHit w q n y3) ∧ (rk y3 ≤ 63 - y4) ∧ ((0 ≤ y4 ∧ y4 ≤ 64)) → 65 - y4 < nn → e_Ok 20 elay kcode eI d 111 (16, [(0, (1, 10)), (1, (0, p)), (2, (0, q)), (3, (0, y3)), (4, (0, y4))], [], w) (fun r w' => ∃ z : Int, r = [(0, z)] ∧ w = w' ∧ (0 ≤ z ∧ z ≤ 1) ∧ (z = 1 → w 15 q < 0 ∧ ¬ ∃ n, kHit w q n p)) := by
      intro nn
      induction nn with
      | zero => intro y3 y4 hj hm; obtain ⟨j5, j6, j7, j8⟩ := hj; exfalso; omega
      | succ nn ih4 =>
        intro y3 y4 hj hm
        obtain ⟨j5, j6, j7, j8⟩ := hj
        refine e_Ok.run (t' := (20, [(0, (1, 10)), (1, (0, p)), (2, (0, q)), (3, (0, y3)), (4, (0, y4))], [(0, 64), (0, y4)], w)) 2 rfl ?_
        refine e_Ok.if2 rfl (fun h9 => ?_) (fun h9 => ?_)
        · replace h9 : (y4 : Int) ≥ 64 := h9
          refine e_Ok.ps1 (x := (0, 1)) (q := 48) 1 rfl ?_
          refine e_Ok.rets rfl rfl ?_
          exact ⟨_, rfl, rfl, by omega, fun _ => ⟨by omega, fun hx => by obtain ⟨n, hn⟩ := j6 hx; by_cases g : 0 ≤ y3; (have := (hrk y3 g (by omega)).1; omega); (cases n with | zero => (have : y3 = q := hn; omega) | succ n => exact g hn.1)⟩⟩
        · replace h9 : (y4 : Int) < 64 := Int.not_le.mp (show ¬ ((y4 : Int) ≥ 64) from h9)
          refine e_Ok.ps1 (x := (0, y3)) (q := 24) 1 rfl ?_
          refine e_Ok.if1 rfl (fun h10 => ?_) (fun h10 => ?_)
          · replace h10 : (y3 : Int) < 0 := h10
            refine e_Ok.ps1 (x := (0, 1)) (q := 48) 1 rfl ?_
            refine e_Ok.rets rfl rfl ?_
            exact ⟨_, rfl, rfl, by omega, fun _ => ⟨by omega, fun hx => by obtain ⟨n, hn⟩ := j6 hx; by_cases g : 0 ≤ y3; (have := (hrk y3 g (by omega)).1; omega); (cases n with | zero => (have : y3 = q := hn; omega) | succ n => exact g hn.1)⟩⟩
          · replace h10 : (y3 : Int) ≥ 0 := Int.not_lt.mp (show ¬ ((y3 : Int) < 0) from h10)
            refine e_Ok.ps2 (x := (0, q)) (y := (0, y3)) (q := 29) 2 rfl ?_
            refine e_Ok.if2 rfl (fun h11 => ?_) (fun h11 => ?_)
            · replace h11 : (y3 : Int) ≠ q := h11
              refine e_Ok.ps1 (x := (1, 10)) (q := 35) 1 rfl ?_
              refine e_Ok.getr (z := 15) rfl (el_o rfl) rfl rfl (e_Has.eq hT (kt_o rfl)) ⟨by decide, by decide⟩ ?_
              refine e_Ok.ps1 (x := (0, y3)) (q := 39) 1 rfl ?_
              have h12 := (e_Has.get hT (c := 15) (k := y3) (lo := (-1)) (hi := 63) (kt_o rfl) (by decide))
              refine e_Ok.ald (z := w 15 y3) rfl (el_o rfl) rfl (by omega) rfl (e_bq h12 (by decide) (by decide)) ?_
              refine e_Ok.run (t' := (41, [(3, (0, w 15 y3)), (0, (1, 10)), (1, (0, p)), (2, (0, q)), (4, (0, y4))], [], w)) 1 rfl ?_
              refine e_Ok.inc (z := y4 + 1) rfl rfl (by first | with_reducible rfl | omega) (by omega) ?_
              show e_Ok 20 elay kcode eI d 111 (44, [(4, (0, y4 + 1)), (3, (0, w 15 y3)), (0, (1, 10)), (1, (0, p)), (2, (0, q))], [], w) _
              refine e_Ok.ps0 (q := 16) 1 rfl ?_
              refine e_Ok.sub kAlk (e_sub_of rfl ?_) (ih4 (w 15 y3) (y4 + 1) ⟨(by omega), (fun hx => by obtain ⟨n, hn⟩ := j6 hx; cases n with | zero => (have : y3 = q := hn; omega) | succ n => exact ⟨n, hn.2⟩), (by have k := (hrk y3 (by omega) (by omega)); have k2 := k.2; have k1 := k.1; by_cases g : 0 ≤ w 15 y3; (have := k2 g; omega); (rw [show w 15 y3 = -1 by omega, hrm]; omega)), (by omega)⟩ (by omega))
              exact ⟨rfl, rfl, rfl, rfl, rfl, trivial⟩
            · replace h11 : (y3 : Int) = q := Classical.not_not.mp (show ¬ ((y3 : Int) ≠ q) from h11)
              refine e_Ok.ps1 (x := (0, 0)) (q := 33) 1 rfl ?_
              refine e_Ok.rets rfl rfl ?_
              exact ⟨_, rfl, rfl, by omega, fun h => absurd h (by decide)⟩
    refine e_Ok.sub kAlk (e_sub_of rfl ?_) (hL3 (65 + 1 : Int).toNat p 0 ⟨(by omega), (fun h => h), (by have := (hrk p (by omega) (by omega)).1; omega), (by omega)⟩ (by omega))
    exact ⟨rfl, rfl, rfl, rfl, rfl, trivial⟩
  · replace h2 : (w 15 q : Int) ≥ 0 := Int.not_lt.mp (show ¬ ((w 15 q : Int) < 0) from h2)
    refine e_Ok.ps1 (x := (0, 0)) (q := 10) 1 rfl ?_
    refine e_Ok.rets rfl rfl ?_
    exact ⟨_, rfl, rfl, by omega, fun h => absurd h (by decide)⟩
theorem no_dr_0 {k : Int} : ¬ kF18 15 k := by unfold kF18; omega
theorem no_dr_1 {k : Int} : ¬ kF18 10 k := by unfold kF18; omega
set_option maxHeartbeats 4000000 in
theorem c_115 {d : Nat} {w : eW} (hT : e_Has kTy w) (hA : kAc w) : e_Ok 20 elay kcode eI d 115 (0, [(0, (1, 10))], [], w) (fun r w' => r = [] ∧ e_fr kF18 w w' ∧ e_Has kTy w' ∧ pTo w' ∧ ∀ p, 0 ≤ p → p ≤ 63 → ∃ k, (0 ≤ k ∧ k ≤ 63) ∧ w' 18 k = p) := by
  refine e_Ok.run (t' := (4, [(2, (0, 0)), (1, (0, 0)), (0, (1, 10))], [], w)) 4 rfl ?_
  have hL1 : ∀ (nn : Nat) (y1 : Int) (y2 : Int) (v1 : eW), e_fr kF18 w v1 ∧ e_Has kTy v1 ∧ bJ w v1 y1 y2 ∧ ((0 ≤ y1 ∧ y1 ≤ y2 ∧ y2 ≤ 64)) → 65 - y2 < nn → e_Ok 20 elay kcode eI d 115 (4, [(0, (1, 10)), (1, (0, y1)), (2, (0, y2))], [], v1) (fun r w' => r = [] ∧ e_fr kF18 w w' ∧ e_Has kTy w' ∧ pTo w' ∧ ∀ p, 0 ≤ p → p ≤ 63 → ∃ k, (0 ≤ k ∧ k ≤ 63) ∧ w' 18 k = p) := by
    intro nn
    induction nn with
    | zero => intro y1 y2 v1 hj hm; obtain ⟨j3, j4, j5, j6⟩ := hj; exfalso; omega
    | succ nn ih2 =>
      intro y1 y2 v1 hj hm
      obtain ⟨j3, j4, j5, j6⟩ := hj
      refine e_Ok.run (t' := (7, [(0, (1, 10)), (1, (0, y1)), (2, (0, y2))], [(0, 64), (0, y2)], v1)) 2 rfl ?_
      refine e_Ok.if2 rfl (fun h7 => ?_) (fun h7 => ?_)
      · replace h7 : (y2 : Int) ≥ 64 := h7
        refine e_Ok.run (t' := (37, [(2, (0, 0)), (0, (1, 10)), (1, (0, y1))], [], v1)) 2 rfl ?_
        have hL8 : ∀ (nn : Nat) (x1 : Int) (x2 : Int) (v2 : eW), e_fr kF18 w v2 ∧ e_Has kTy v2 ∧ aJ w v2 x1 x2 0 ∧ ((0 ≤ x1 ∧ x1 ≤ 64 ∧ 0 ≤ x2 ∧ x2 ≤ x1)) → 65 - x2 < nn → e_Ok 20 elay kcode eI d 115 (37, [(0, (1, 10)), (1, (0, x1)), (2, (0, x2))], [], v2) (fun r w' => r = [] ∧ e_fr kF18 w w' ∧ e_Has kTy w' ∧ pTo w' ∧ ∀ p, 0 ≤ p → p ≤ 63 → ∃ k, (0 ≤ k ∧ k ≤ 63) ∧ w' 18 k = p) := by
          intro nn
          induction nn with
          | zero => intro x1 x2 v2 hj hm; obtain ⟨j10, j11, j12, j13⟩ := hj; exfalso; omega
          | succ nn ih9 =>
            intro x1 x2 v2 hj hm
            obtain ⟨j10, j11, j12, j13⟩ := hj
            refine e_Ok.run (t' := (39, [(0, (1, 10)), (1, (0, x1)), (2, (0, x2))], [(0, x1), (0, x2)], v2)) 2 rfl ?_
            refine e_Ok.if2 rfl (fun h14 => ?_) (fun h14 => ?_)
            · replace h14 : (x2 : Int) ≥ x1 := h14
              refine e_Ok.rets rfl rfl ?_
              obtain ⟨am, ap, ac⟩ := aJ.fin hA (fun p _ _ => (e_Has.get hT (c := 15) (k := p) (lo := -1) (hi := 63) (kt_o rfl) (by decide)).2) j12 (by omega)
              exact ⟨rfl, j10, j11, fun i g1 g2 g3 => by rw [j10 15 _ no_dr_0] at g3 ⊢; exact ap i g1 g2 g3, ac⟩
            · replace h14 : (x2 : Int) < x1 := Int.not_le.mp (show ¬ ((x2 : Int) ≥ x1) from h14)
              refine e_Ok.ps2 (x := (0, 64)) (y := (0, x1)) (q := 45) 2 rfl ?_
              refine e_Ok.if2 rfl (fun h15 => ?_) (fun h15 => ?_)
              · replace h15 : (x1 : Int) ≥ 64 := h15
                refine e_Ok.rets rfl rfl ?_
                obtain ⟨am, ap, ac⟩ := aJ.fin hA (fun p _ _ => (e_Has.get hT (c := 15) (k := p) (lo := -1) (hi := 63) (kt_o rfl) (by decide)).2) j12 (by omega)
                exact ⟨rfl, j10, j11, fun i g1 g2 g3 => by rw [j10 15 _ no_dr_0] at g3 ⊢; exact ap i g1 g2 g3, ac⟩
              · replace h15 : (x1 : Int) < 64 := Int.not_le.mp (show ¬ ((x1 : Int) ≥ 64) from h15)
                refine e_Ok.run (t' := (50, [(3, (0, 0)), (0, (1, 10)), (1, (0, x1)), (2, (0, x2))], [], v2)) 2 rfl ?_
                have hL16 : ∀ (nn : Nat) (u1 : Int) (u3 : Int) (v3 : eW), e_fr kF18 w v3 ∧ e_Has kTy v3 ∧ aJ w v3 u1 x2 u3 ∧ ((0 ≤ u1 ∧ u1 ≤ 64 ∧ x2 < u1 ∧ 0 ≤ u3 ∧ u3 ≤ 64)) → 65 - u3 < nn → e_Ok 20 elay kcode eI d 115 (50, [(0, (1, 10)), (1, (0, u1)), (2, (0, x2)), (3, (0, u3))], [], v3) (fun r w' => r = [] ∧ e_fr kF18 w w' ∧ e_Has kTy w' ∧ pTo w' ∧ ∀ p, 0 ≤ p → p ≤ 63 → ∃ k, (0 ≤ k ∧ k ≤ 63) ∧ w' 18 k = p) := by
                  intro nn
                  induction nn with
                  | zero => intro u1 u3 v3 hj hm; obtain ⟨j18, j19, j20, j21⟩ := hj; exfalso; omega
                  | succ nn ih17 =>
                    intro u1 u3 v3 hj hm
                    obtain ⟨j18, j19, j20, j21⟩ := hj
                    refine e_Ok.run (t' := (53, [(0, (1, 10)), (1, (0, u1)), (2, (0, x2)), (3, (0, u3))], [(0, 64), (0, u3)], v3)) 2 rfl ?_
                    refine e_Ok.if2 rfl (fun h22 => ?_) (fun h22 => ?_)
                    · replace h22 : (u3 : Int) ≥ 64 := h22
                      refine e_Ok.inc (z := x2 + 1) rfl rfl (by first | with_reducible rfl | omega) (by omega) ?_
                      show e_Ok 20 elay kcode eI d 115 (96, [(2, (0, x2 + 1)), (0, (1, 10)), (1, (0, u1)), (3, (0, u3))], [], v3) _
                      refine e_Ok.ps0 (q := 37) 1 rfl ?_
                      refine e_Ok.sub kAlk (e_sub_of rfl ?_) (ih9 u1 (x2 + 1) v3 ⟨j18, j19, (aJ.next (by have g := j20; rw [show u3 = 64 by omega] at g; exact g) (by omega)), (by omega)⟩ (by omega))
                      exact ⟨rfl, rfl, rfl, trivial⟩
                    · replace h22 : (u3 : Int) < 64 := Int.not_le.mp (show ¬ ((u3 : Int) ≥ 64) from h22)
                      refine e_Ok.ps1 (x := (1, 10)) (q := 57) 1 rfl ?_
                      refine e_Ok.getr (z := 15) rfl (el_o rfl) rfl rfl ((j18 10 4 no_dr_1).trans (e_Has.eq hT (kt_o rfl))) ⟨by decide, by decide⟩ ?_
                      refine e_Ok.ps1 (x := (0, u3)) (q := 61) 1 rfl ?_
                      have h23 := (e_Has.get hT (c := 15) (k := u3) (lo := (-1)) (hi := 63) (kt_o rfl) (by decide))
                      refine e_Ok.ald (z := w 15 u3) rfl (el_o rfl) rfl (by omega) ((j18 15 u3 no_dr_0).trans rfl) (e_bq h23 (by decide) (by decide)) ?_
                      refine e_Ok.ps1 (x := (1, 10)) (q := 63) 1 rfl ?_
                      refine e_Ok.getr (z := 18) rfl (el_o rfl) rfl rfl ((j18 10 7 no_dr_1).trans (e_Has.eq hT (kt_o rfl))) ⟨by decide, by decide⟩ ?_
                      refine e_Ok.ps1 (x := (0, x2)) (q := 67) 1 rfl ?_
                      have h24 := (e_Has.get j19 (c := 18) (k := x2) (lo := 0) (hi := 63) rfl (by decide))
                      refine e_Ok.ald (z := v3 18 x2) rfl (el_o rfl) rfl (by omega) rfl (e_bq h24 (by decide) (by decide)) ?_
                      refine e_Ok.if2 rfl (fun h25 => ?_) (fun h25 => ?_)
                      · replace h25 : (w 15 u3 : Int) ≠ v3 18 x2 := h25
                        refine e_Ok.inc (z := u3 + 1) rfl rfl (by first | with_reducible rfl | omega) (by omega) ?_
                        show e_Ok 20 elay kcode eI d 115 (90, [(3, (0, u3 + 1)), (0, (1, 10)), (1, (0, u1)), (2, (0, x2))], [], v3) _
                        refine e_Ok.ps0 (q := 50) 1 rfl ?_
                        refine e_Ok.sub kAlk (e_sub_of rfl ?_) (ih17 u1 (u3 + 1) v3 ⟨j18, j19, (j20.skip (by omega)), (by omega)⟩ (by omega))
                        exact ⟨rfl, rfl, rfl, rfl, trivial⟩
                      · replace h25 : (w 15 u3 : Int) = v3 18 x2 := Classical.not_not.mp (show ¬ ((w 15 u3 : Int) ≠ v3 18 x2) from h25)
                        refine e_Ok.ps2 (x := (0, 64)) (y := (0, u1)) (q := 74) 2 rfl ?_
                        refine e_Ok.if2 rfl (fun h26 => ?_) (fun h26 => ?_)
                        · replace h26 : (u1 : Int) ≥ 64 := h26
                          refine e_Ok.inc (z := u3 + 1) rfl rfl (by first | with_reducible rfl | omega) (by omega) ?_
                          show e_Ok 20 elay kcode eI d 115 (90, [(3, (0, u3 + 1)), (0, (1, 10)), (1, (0, u1)), (2, (0, x2))], [], v3) _
                          refine e_Ok.ps0 (q := 50) 1 rfl ?_
                          refine e_Ok.sub kAlk (e_sub_of rfl ?_) (ih17 u1 (u3 + 1) v3 ⟨j18, j19, (j20.skip (by omega)), (by omega)⟩ (by omega))
                          exact ⟨rfl, rfl, rfl, rfl, trivial⟩
                        · replace h26 : (u1 : Int) < 64 := Int.not_le.mp (show ¬ ((u1 : Int) ≥ 64) from h26)
                          refine e_Ok.ps1 (x := (1, 10)) (q := 78) 1 rfl ?_
                          refine e_Ok.getr (z := 18) rfl (el_o rfl) rfl rfl ((j18 10 7 no_dr_1).trans (e_Has.eq hT (kt_o rfl))) ⟨by decide, by decide⟩ ?_
                          refine e_Ok.ps2 (x := (0, u3)) (y := (0, u1)) (q := 83) 2 rfl ?_
                          refine e_Ok.ast rfl (el_o rfl) rfl rfl (by omega) ?_
                          generalize hw27 : e_up v3 18 u1 u3 = w27
                          have hT29 : e_Has kTy w27 := e_Has.upr j19 hw27 rfl (by omega)
                          refine e_Ok.inc (z := u1 + 1) rfl rfl (by first | with_reducible rfl | omega) (by omega) ?_
                          show e_Ok 20 elay kcode eI d 115 (87, [(1, (0, u1 + 1)), (0, (1, 10)), (2, (0, x2)), (3, (0, u3))], [], w27) _
                          refine e_Ok.inc (z := u3 + 1) rfl rfl (by first | with_reducible rfl | omega) (by omega) ?_
                          show e_Ok 20 elay kcode eI d 115 (90, [(3, (0, u3 + 1)), (1, (0, u1 + 1)), (0, (1, 10)), (2, (0, x2))], [], w27) _
                          refine e_Ok.ps0 (q := 50) 1 rfl ?_
                          refine e_Ok.sub kAlk (e_sub_of rfl ?_) (ih17 (u1 + 1) (u3 + 1) w27 ⟨(show e_fr kF18 w w27 from e_fr.up j18 hw27 (by first | exact rfl | (unfold kF18; omega))), hT29, (j20.add (by omega) (by omega) (by omega) (by omega) (fun k g => by rw [← hw27]; exact e_up_ne _ _ (by omega)) (e_ue hw27)), (by omega)⟩ (by omega))
                          exact ⟨rfl, rfl, rfl, rfl, trivial⟩
                refine e_Ok.sub kAlk (e_sub_of rfl ?_) (hL16 (65 + 1 : Int).toNat x1 0 v2 ⟨j10, j11, j12, (by omega)⟩ (by omega))
                exact ⟨rfl, rfl, rfl, rfl, trivial⟩
        refine e_Ok.sub kAlk (e_sub_of rfl ?_) (hL8 (65 + 1 : Int).toNat y1 0 v1 ⟨j3, j4, (bJ.out (by have g := j5; rw [show y2 = 64 by omega] at g; exact g)), (by omega)⟩ (by omega))
        exact ⟨rfl, rfl, rfl, trivial⟩
      · replace h7 : (y2 : Int) < 64 := Int.not_le.mp (show ¬ ((y2 : Int) ≥ 64) from h7)
        refine e_Ok.ps1 (x := (1, 10)) (q := 11) 1 rfl ?_
        refine e_Ok.getr (z := 15) rfl (el_o rfl) rfl rfl ((j3 10 4 no_dr_1).trans (e_Has.eq hT (kt_o rfl))) ⟨by decide, by decide⟩ ?_
        refine e_Ok.ps1 (x := (0, y2)) (q := 15) 1 rfl ?_
        have h30 := (e_Has.get hT (c := 15) (k := y2) (lo := (-1)) (hi := 63) (kt_o rfl) (by decide))
        refine e_Ok.ald (z := w 15 y2) rfl (el_o rfl) rfl (by omega) ((j3 15 y2 no_dr_0).trans rfl) (e_bq h30 (by decide) (by decide)) ?_
        refine e_Ok.if1 rfl (fun h31 => ?_) (fun h31 => ?_)
        · replace h31 : (w 15 y2 : Int) ≥ 0 := h31
          refine e_Ok.inc (z := y2 + 1) rfl rfl (by first | with_reducible rfl | omega) (by omega) ?_
          show e_Ok 20 elay kcode eI d 115 (32, [(2, (0, y2 + 1)), (0, (1, 10)), (1, (0, y1))], [], v1) _
          refine e_Ok.ps0 (q := 4) 1 rfl ?_
          refine e_Ok.sub kAlk (e_sub_of rfl ?_) (ih2 y1 (y2 + 1) v1 ⟨j3, j4, (j5.skip (by omega)), (by omega)⟩ (by omega))
          exact ⟨rfl, rfl, rfl, trivial⟩
        · replace h31 : (w 15 y2 : Int) < 0 := Int.not_le.mp (show ¬ ((w 15 y2 : Int) ≥ 0) from h31)
          refine e_Ok.ps1 (x := (1, 10)) (q := 20) 1 rfl ?_
          refine e_Ok.getr (z := 18) rfl (el_o rfl) rfl rfl ((j3 10 7 no_dr_1).trans (e_Has.eq hT (kt_o rfl))) ⟨by decide, by decide⟩ ?_
          refine e_Ok.ps2 (x := (0, y2)) (y := (0, y1)) (q := 25) 2 rfl ?_
          refine e_Ok.ast rfl (el_o rfl) rfl rfl (by omega) ?_
          generalize hw32 : e_up v1 18 y1 y2 = w32
          have hT34 : e_Has kTy w32 := e_Has.upr j4 hw32 rfl (by omega)
          refine e_Ok.inc (z := y1 + 1) rfl rfl (by first | with_reducible rfl | omega) (by omega) ?_
          show e_Ok 20 elay kcode eI d 115 (29, [(1, (0, y1 + 1)), (0, (1, 10)), (2, (0, y2))], [], w32) _
          refine e_Ok.inc (z := y2 + 1) rfl rfl (by first | with_reducible rfl | omega) (by omega) ?_
          show e_Ok 20 elay kcode eI d 115 (32, [(2, (0, y2 + 1)), (1, (0, y1 + 1)), (0, (1, 10))], [], w32) _
          refine e_Ok.ps0 (q := 4) 1 rfl ?_
          refine e_Ok.sub kAlk (e_sub_of rfl ?_) (ih2 (y1 + 1) (y2 + 1) w32 ⟨(show e_fr kF18 w w32 from e_fr.up j3 hw32 (by first | exact rfl | (unfold kF18; omega))), hT34, (j5.add (by omega) (fun k g => by rw [← hw32]; exact e_up_ne _ _ (by omega)) (e_ue hw32)), (by omega)⟩ (by omega))
          exact ⟨rfl, rfl, rfl, trivial⟩
  refine e_Ok.sub kAlk (e_sub_of rfl ?_) (hL1 (65 + 1 : Int).toNat 0 0 w ⟨(e_fr.refl w), hT, bJ.zero, (by omega)⟩ (by omega))
  exact ⟨rfl, rfl, rfl, trivial⟩
end
end
-- part ds
section
noncomputable section
/-! the class: building calls -/
def kCn (c k : Int) : Prop := (11 ≤ c ∧ c ≤ 13) ∨ (15 ≤ c ∧ c ≤ 18)
def kPc (c k : Int) : Prop := c = 15 ∨ c = 18
def kCc (c k : Int) : Prop := (c = 74 ∧ k = 2) ∨ c = 77
def kMk (a cd : Int) (c k : Int) : Prop := (c = 17 * a + 86 ∧ ((8 ≤ k ∧ k ≤ 11) ∨ (13 ≤ k ∧ k ≤ 19))) ∨ (17 * a + 97 ≤ c ∧ c ≤ 17 * a + 102 ∧ 7 ≤ k ∧ k ≤ 9) ∨ (17 * a + 88 ≤ c ∧ c ≤ 17 * a + 93) ∨ (c = cd ∧ 0 ≤ k ∧ k ≤ 2)
def kAa (a cd : Int) (c k : Int) : Prop := kMk a cd c k ∨ (c = 0 ∧ k = 11)
theorem aR0.eq0 {w w' : eW} {a : Int} (h : aR0 w a) (e : ∀ c k, 17 * a + 86 ≤ c → c ≤ 17 * a + 102 → w' c k = w c k) : aR0 w' a := by
  obtain ⟨h1, h2, h3, h4, h5⟩ := h
  refine ⟨?_, fun j g1 g2 => ?_, fun k g1 g2 => ?_, h4.eq (fun c k g => e c k (by omega) (by omega)), h5.eq (fun c k g => e c k (by omega) (by omega))⟩
  · rw [e _ 11 (by omega) (by omega), e _ 13 (by omega) (by omega), e _ 14 (by omega) (by omega), e _ 15 (by omega) (by omega), e _ 16 (by omega) (by omega), e _ 17 (by omega) (by omega), e _ 18 (by omega) (by omega), e _ 19 (by omega) (by omega)]
    exact h1
  · rw [e _ 7 (by omega) (by omega), e _ 8 (by omega) (by omega), e _ 9 (by omega) (by omega)]
    exact h2 j g1 g2
  · rw [e _ k (by omega) (by omega)]
    exact h3 k g1 g2
theorem no_ds_0 {k : Int} : ¬ kPr 18 k := by unfold kPr; omega
theorem no_ds_1 {k : Int} : ¬ kPr 15 k := by unfold kPr; omega
theorem no_ds_2 {k : Int} : ¬ kF18 15 k := by unfold kF18; omega
theorem su_ds_8 {c k : Int} (q : kF18 c k) : kCn c k := by
  unfold kF18 at q
  rcases q with q
  · exact Or.inr ⟨(by omega), (by omega)⟩
theorem su_ds_9 {c k : Int} (q : kPr c k) : kCn c k := by
  unfold kPr at q
  rcases q with ⟨q, q⟩ | q
  · exact Or.inl ⟨(by omega), (by omega)⟩
  · exact Or.inr ⟨(by omega), (by omega)⟩
set_option maxHeartbeats 4000000 in
theorem c_112 {d : Nat} (hd : 25 ≤ d) {w : eW} (hT : e_Has kTy w) (hA : kAc w) {p : Int} (g_p : 0 ≤ p ∧ p ≤ 63) {q : Int} (g_q : 0 ≤ q ∧ q ≤ 63) {t : Int} (g_t : 0 ≤ t ∧ t ≤ 1) (hn : ¬ ∃ n, kHit w q n p) : e_Ok 20 elay kcode eI d 112 (0, [(0, (1, 10)), (1, (0, p)), (2, (0, q)), (3, (0, t))], [], w) (fun r w' => r = [] ∧ e_fr kCn w w' ∧ e_Has kTy w' ∧ pTo w' ∧ (∀ p, 0 ≤ p → p ≤ 63 → ∃ k, (0 ≤ k ∧ k ≤ 63) ∧ w' 18 k = p) ∧ kAc w') := by
  obtain ⟨d, rfl⟩ : ∃ e, d = e + 1 := ⟨d - 1, by omega⟩
  refine e_Ok.ps1 (x := (1, 10)) (q := 1) 1 rfl ?_
  refine e_Ok.getr (z := 15) rfl (el_o rfl) rfl rfl (e_Has.eq hT (kt_o rfl)) ⟨by decide, by decide⟩ ?_
  refine e_Ok.ps2 (x := (0, p)) (y := (0, q)) (q := 6) 2 rfl ?_
  refine e_Ok.ast rfl (el_o rfl) rfl rfl (by omega) ?_
  generalize hw1 : e_up w 15 q p = w1
  have hT3 : e_Has kTy w1 := e_Has.upr hT hw1 (kt_o rfl) (by omega)
  refine e_Ok.ps1 (x := (1, 10)) (q := 8) 1 rfl ?_
  refine e_Ok.getr (z := 17) rfl (el_o rfl) rfl rfl (e_uq hw1 (Or.inl (by decide)) (e_Has.eq hT (kt_o rfl))) ⟨by decide, by decide⟩ ?_
  refine e_Ok.ps2 (x := (0, t)) (y := (0, q)) (q := 13) 2 rfl ?_
  refine e_Ok.ast rfl (el_o rfl) rfl (e_nar_b (by omega)) (by omega) ?_
  generalize hw4 : e_up w1 17 q t = w4
  have hT6 : e_Has kTy w4 := e_Has.upr hT3 hw4 (kt_o rfl) (by omega)
  refine e_Ok.ps1 (x := (1, 10)) (q := 15) 1 rfl ?_
  refine e_Ok.callV rfl (e_dq hd rfl) rfl rfl rfl rfl (c_115 hT6 (hA.wire (fun p _ _ => e_Has.get hT (c := 15) (k := p) (lo := -1) (hi := 63) (kt_o rfl) (by decide)) (by omega) (by omega) hn (fun k => by rw [← hw4, e_up_ne _ _ (by omega), ← hw1]; by_cases e : k = q; (rw [e, if_pos rfl]; exact e_up_eq _ _ _ _); (rw [if_neg e]; exact e_up_ne _ _ (by omega))))) (fun r7 w8 h9 => ?_)
  obtain ⟨rfl, af, aT, ap, ac⟩ := h9
  refine e_Ok.nrm (q := 18) (st' := []) rfl rfl ?_
  refine e_Ok.ps1 (x := (1, 10)) (q := 19) 1 rfl ?_
  refine e_Ok.callV rfl (e_dq hd rfl) rfl rfl rfl rfl (c_110 (e_dq hd rfl) aT) (fun r11 w12 h13 => ?_)
  obtain ⟨rfl, rf_, rT, -⟩ := h13
  refine e_Ok.nrm (q := 22) (st' := []) rfl rfl ?_
  refine e_Ok.rets rfl rfl ?_
  exact ⟨rfl, (show e_fr kCn w w12 from e_fr.trans (show e_fr kCn w w8 from e_fr.trans (show e_fr kCn w w4 from e_fr.up (show e_fr kCn w w1 from e_fr.up (e_fr.refl w) hw1 (by first | exact Or.inr ⟨(by decide), (by decide)⟩ | (unfold kCn; omega))) hw4 (by first | exact Or.inr ⟨(by decide), (by decide)⟩ | (unfold kCn; omega))) (e_fr.mono af (fun c k q => su_ds_8 q))) (e_fr.mono rf_ (fun c k q => su_ds_9 q))), rT, (fun i g1 g2 g3 => by rw [rf_ 18 _ no_ds_0, rf_ 15 _ no_ds_1] at g3; obtain ⟨k, k1, k2⟩ := ap i g1 g2 g3; exact ⟨k, k1, by rw [rf_ 18 _ no_ds_0, rf_ 15 _ no_ds_1, rf_ 18 _ no_ds_0]; exact k2⟩), (fun p g1 g2 => by obtain ⟨k, k1, k2⟩ := ac p g1 g2; exact ⟨k, k1, by rw [rf_ 18 _ no_ds_0]; exact k2⟩), kAc.eq (fun k _ _ => by rw [rf_ 15 _ no_ds_1, af 15 _ no_ds_2]) (hA.wire (fun p _ _ => e_Has.get hT (c := 15) (k := p) (lo := -1) (hi := 63) (kt_o rfl) (by decide)) (by omega) (by omega) hn (fun k => by rw [← hw4, e_up_ne _ _ (by omega), ← hw1]; by_cases e : k = q; (rw [e, if_pos rfl]; exact e_up_eq _ _ _ _); (rw [if_neg e]; exact e_up_ne _ _ (by omega))))⟩
theorem su_ds_10 {c k : Int} (q : kF15 c k) : kPc c k := by
  unfold kF15 at q
  rcases q with q
  · exact Or.inl (by omega)
theorem su_ds_11 {c k : Int} (q : kF18 c k) : kPc c k := by
  unfold kF18 at q
  rcases q with q
  · exact Or.inr (by omega)
theorem c_109 {d : Nat} (hd : 23 ≤ d) {w : eW} (hT : e_Has kTy w) : e_Ok 20 elay kcode eI d 109 (0, [(0, (1, 10))], [], w) (fun r w' => r = [] ∧ e_fr kPc w w' ∧ e_Has kTy w' ∧ pTo w' ∧ (∀ p, 0 ≤ p → p ≤ 63 → ∃ k, (0 ≤ k ∧ k ≤ 63) ∧ w' 18 k = p) ∧ kAc w') := by
  obtain ⟨d, rfl⟩ : ∃ e, d = e + 1 := ⟨d - 1, by omega⟩
  refine e_Ok.ps1 (x := (1, 10)) (q := 1) 1 rfl ?_
  refine e_Ok.getr (z := 15) rfl (el_o rfl) rfl rfl (e_Has.eq hT (kt_o rfl)) ⟨by decide, by decide⟩ ?_
  refine e_Ok.ps1 (x := (0, (-1))) (q := 5) 1 rfl ?_
  refine e_Ok.callS rfl (e_dq hd rfl) rfl rfl (c_452_15 hT) (fun r1 w2 h3 => ?_)
  obtain ⟨rfl, q4f, q4T, q4x⟩ := h3
  refine e_Ok.nrm (q := 8) (st' := []) rfl rfl ?_
  refine e_Ok.ps1 (x := (1, 10)) (q := 9) 1 rfl ?_
  refine e_Ok.callV rfl (e_dq hd rfl) rfl rfl rfl rfl (c_115 q4T (kAc.none (fun k g1 g2 => by rw [q4x k g1 (by omega)]; omega))) (fun r6 w7 h8 => ?_)
  obtain ⟨rfl, af, aT, ap, ac⟩ := h8
  refine e_Ok.nrm (q := 12) (st' := []) rfl rfl ?_
  refine e_Ok.rets rfl rfl ?_
  exact ⟨rfl, (show e_fr kPc w w7 from e_fr.trans (show e_fr kPc w w2 from e_fr.trans (e_fr.refl w) (e_fr.mono q4f (fun c k q => su_ds_10 q))) (e_fr.mono af (fun c k q => su_ds_11 q))), aT, ap, ac, kAc.eq (fun k _ _ => af 15 k no_ds_2) (kAc.none (fun k g1 g2 => by rw [q4x k g1 (by omega)]; omega))⟩
theorem no_ds_3 : ¬ kCc 74 10 := by unfold kCc; omega
theorem c_25 {d : Nat} {w : eW} (hT : e_Has kTy w) : e_Ok 20 elay kcode eI d 25 (0, [(0, (1, 74))], [], w) (fun r w' => r = [] ∧ e_fr kCc w w' ∧ e_Has kTy w') := by
  refine e_Ok.ps2 (x := (0, 0)) (y := (1, 74)) (q := 2) 2 rfl ?_
  refine e_Ok.putf rfl (el_o rfl) rfl rfl ?_
  generalize hw1 : e_up w 74 2 0 = w1
  have hT3 : e_Has kTy w1 := e_Has.upr hT hw1 (kt_o rfl) (by omega)
  refine e_Ok.run (t' := (7, [(1, (0, 0)), (0, (1, 74))], [], w1)) 2 rfl ?_
  have hL4 : ∀ (nn : Nat) (y1 : Int) (v1 : eW), e_fr kCc w v1 ∧ e_Has kTy v1 ∧ (0 ≤ y1 ∧ y1 ≤ 8) → 9 - y1 < nn → e_Ok 20 elay kcode eI d 25 (7, [(0, (1, 74)), (1, (0, y1))], [], v1) (fun r w' => r = [] ∧ e_fr kCc w w' ∧ e_Has kTy w') := by
    intro nn
    induction nn with
    | zero => intro y1 v1 hj hm; obtain ⟨j6, j7, j8⟩ := hj; exfalso; omega
    | succ nn ih5 =>
      intro y1 v1 hj hm
      obtain ⟨j6, j7, j8⟩ := hj
      refine e_Ok.run (t' := (10, [(0, (1, 74)), (1, (0, y1))], [(0, 8), (0, y1)], v1)) 2 rfl ?_
      refine e_Ok.if2 rfl (fun h9 => ?_) (fun h9 => ?_)
      · replace h9 : (y1 : Int) ≥ 8 := h9
        refine e_Ok.rets rfl rfl ?_
        exact ⟨rfl, j6, j7⟩
      · replace h9 : (y1 : Int) < 8 := Int.not_le.mp (show ¬ ((y1 : Int) ≥ 8) from h9)
        refine e_Ok.ps1 (x := (1, 74)) (q := 14) 1 rfl ?_
        refine e_Ok.getr (z := 77) rfl (el_o rfl) rfl rfl ((j6 74 10 no_ds_3).trans (e_Has.eq hT (kt_o rfl))) ⟨by decide, by decide⟩ ?_
        refine e_Ok.ps2 (x := (0, 0)) (y := (0, y1)) (q := 19) 2 rfl ?_
        refine e_Ok.ast rfl (el_o rfl) rfl (e_nar_b (by omega)) (by omega) ?_
        generalize hw10 : e_up v1 77 y1 0 = w10
        have hT12 : e_Has kTy w10 := e_Has.upr j7 hw10 rfl (by omega)
        refine e_Ok.inc (z := y1 + 1) rfl rfl (by first | with_reducible rfl | omega) (by omega) ?_
        show e_Ok 20 elay kcode eI d 25 (23, [(1, (0, y1 + 1)), (0, (1, 74))], [], w10) _
        refine e_Ok.ps0 (q := 7) 1 rfl ?_
        refine e_Ok.sub kAlk (e_sub_of rfl ?_) (ih5 (y1 + 1) w10 ⟨(show e_fr kCc w w10 from e_fr.up j6 hw10 (by first | exact Or.inr rfl | (unfold kCc; omega))), hT12, by omega⟩ (by omega))
        exact ⟨rfl, rfl, trivial⟩
  refine e_Ok.sub kAlk (e_sub_of rfl ?_) (hL4 (9 + 1 : Int).toNat 0 w1 ⟨(show e_fr kCc w w1 from e_fr.up (e_fr.refl w) hw1 (by first | exact Or.inl ⟨rfl, rfl⟩ | (unfold kCc; omega))), hT3, by omega⟩ (by omega))
  exact ⟨rfl, rfl, trivial⟩
theorem no_ds_4 {a : Int} (ha : 0 ≤ a ∧ a ≤ 3) : ¬ kF92 a (17 * a + 86) 7 := by unfold kF92; omega
theorem no_ds_5 {a : Int} (ha : 0 ≤ a ∧ a ≤ 3) : ¬ kF92 a (17 * a + 88) 0 := by unfold kF92; omega
theorem no_ds_6 {a : Int} (ha : 0 ≤ a ∧ a ≤ 3) : ¬ kF92 a (17 * a + 89) 0 := by unfold kF92; omega
theorem no_ds_7 {a : Int} (ha : 0 ≤ a ∧ a ≤ 3) : ¬ kF92 a (17 * a + 86) 8 := by unfold kF92; omega
theorem su_ds_12 {a : Int} {cd : Int} {c k : Int} (q : kF92 a c k) : kMk a cd c k := by
  unfold kF92 at q
  rcases q with q
  · exact Or.inr (Or.inr (Or.inl ⟨(by omega), (by omega)⟩))
theorem su_ds_13 {cd : Int} {a : Int} {c k : Int} (q : kCl0 cd c k) : kMk a cd c k := by
  unfold kCl0 at q
  rcases q with ⟨q, ⟨q, q⟩⟩
  · exact Or.inr (Or.inr (Or.inr ⟨(by omega), ⟨(by omega), (by omega)⟩⟩))
theorem su_ds_14 {a : Int} {cd : Int} {c k : Int} (q : kAr a c k) : kMk a cd c k := by
  unfold kAr at q
  rcases q with ⟨q, (q | ⟨q, q⟩)⟩ | ⟨q, ⟨q, ⟨q, q⟩⟩⟩ | ⟨(q | q), q⟩ | q | q | q
  · exact Or.inl ⟨(by omega), Or.inl ⟨(by omega), (by omega)⟩⟩
  · exact Or.inl ⟨(by omega), Or.inr ⟨(by omega), (by omega)⟩⟩
  · exact Or.inr (Or.inl ⟨(by omega), ⟨(by omega), ⟨(by omega), (by omega)⟩⟩⟩)
  · exact Or.inr (Or.inr (Or.inl ⟨(by omega), (by omega)⟩))
  · exact Or.inr (Or.inr (Or.inl ⟨(by omega), (by omega)⟩))
  · exact Or.inr (Or.inr (Or.inl ⟨(by omega), (by omega)⟩))
  · exact Or.inr (Or.inr (Or.inl ⟨(by omega), (by omega)⟩))
  · exact Or.inr (Or.inr (Or.inl ⟨(by omega), (by omega)⟩))
set_option maxHeartbeats 4000000 in
theorem c_1 {d : Nat} (hd : 26 ≤ d) {w : eW} (hT : e_Has kTy w) {a cd : Int} (ga : 0 ≤ a ∧ a ≤ 3) (hc : w (17 * a + 86) 7 = cd) (hcd : isCd cd) {x : Int} (g_x : (-2147483648) ≤ x ∧ x ≤ 2147483647) {y : Int} (g_y : (-2147483648) ≤ y ∧ y ≤ 2147483647) {u : Int} (g_u : (-2147483648) ≤ u ∧ u ≤ 2147483647) {v : Int} (g_v : (-2147483648) ≤ v ∧ v ≤ 2147483647) : e_Ok 20 elay kcode eI d 1 (0, [(0, (1, 17 * a + 86)), (1, (0, x)), (2, (0, y)), (3, (0, u)), (4, (0, v))], [], w) (fun r w' => r = [] ∧ e_fr (kMk a cd) w w' ∧ e_Has kTy w' ∧ w' (17 * a + 86) 8 = 0 ∧ (w' (17 * a + 88) 0 = x ∧ w' (17 * a + 89) 0 = y) ∧ aR0 w' a ∧ (w' cd 0 = 0 ∧ w' cd 1 = 0)) := by
  obtain ⟨d, rfl⟩ : ∃ e, d = e + 1 := ⟨d - 1, by omega⟩
  have hcd2 := hcd; unfold isCd at hcd2
  have hcd3 : 2 ≤ cd ∧ cd ≤ 145 := by omega
  refine e_Ok.ps2 (x := (0, 0)) (y := (1, 17 * a + 86)) (q := 2) 2 rfl ?_
  refine e_Ok.putf rfl (lA0 (a := a) rfl ga) rfl rfl ?_
  generalize hw1 : e_up w (17 * a + 86) 8 0 = w1
  have hT3 : e_Has kTy w1 := e_Has.upr hT hw1 (kA_8 (a := a) rfl ga) (by omega)
  refine e_Ok.ps1 (x := (1, 17 * a + 86)) (q := 6) 1 rfl ?_
  refine e_Ok.getr (z := 17 * a + 88) rfl (lA0 (a := a) rfl ga) rfl rfl (e_uq hw1 (Or.inr (by decide)) (Eq.trans (e_Has.eq hT (kA_1 (a := a) rfl ga)) (by omega))) (by omega) ?_
  refine e_Ok.ps2 (x := (0, x)) (y := (0, 0)) (q := 11) 2 rfl ?_
  refine e_Ok.ast rfl (lA2 (a := a) rfl ga) rfl rfl (by omega) ?_
  generalize hw4 : e_up w1 (17 * a + 88) 0 x = w4
  have hT6 : e_Has kTy w4 := e_Has.ups hT3 hw4 (kA88 (a := a) _ rfl ga)
  refine e_Ok.ps1 (x := (1, 17 * a + 86)) (q := 13) 1 rfl ?_
  refine e_Ok.getr (z := 17 * a + 89) rfl (lA0 (a := a) rfl ga) rfl rfl (e_uq hw4 (Or.inl (e_neo (by decide))) (e_uq hw1 (Or.inr (by decide)) (Eq.trans (e_Has.eq hT (kA_2 (a := a) rfl ga)) (by omega)))) (by omega) ?_
  refine e_Ok.ps2 (x := (0, y)) (y := (0, 0)) (q := 18) 2 rfl ?_
  refine e_Ok.ast rfl (lA3 (a := a) rfl ga) rfl rfl (by omega) ?_
  generalize hw7 : e_up w4 (17 * a + 89) 0 y = w7
  have hT9 : e_Has kTy w7 := e_Has.ups hT6 hw7 (kA89 (a := a) _ rfl ga)
  refine e_Ok.ps2 (x := (0, u)) (y := (1, 17 * a + 86)) (q := 21) 2 rfl ?_
  refine e_Ok.putf rfl (lA0 (a := a) rfl ga) rfl rfl ?_
  generalize hw10 : e_up w7 (17 * a + 86) 9 u = w10
  have hT12 : e_Has kTy w10 := e_Has.upr hT9 hw10 (kA_9 (a := a) rfl ga) (by omega)
  refine e_Ok.ps2 (x := (0, v)) (y := (1, 17 * a + 86)) (q := 27) 2 rfl ?_
  refine e_Ok.putf rfl (lA0 (a := a) rfl ga) rfl rfl ?_
  generalize hw13 : e_up w10 (17 * a + 86) 10 v = w13
  have hT15 : e_Has kTy w13 := e_Has.upr hT12 hw13 (kA_10 (a := a) rfl ga) (by omega)
  refine e_Ok.ps1 (x := (1, 17 * a + 86)) (q := 31) 1 rfl ?_
  refine e_Ok.getr (z := 17 * a + 92) rfl (lA0 (a := a) rfl ga) rfl rfl (e_uq hw13 (Or.inr (by decide)) (e_uq hw10 (Or.inr (by decide)) (e_uq hw7 (Or.inl (e_neo (by decide))) (e_uq hw4 (Or.inl (e_neo (by decide))) (e_uq hw1 (Or.inr (by decide)) (Eq.trans (e_Has.eq hT (kA_5 (a := a) rfl ga)) (by omega))))))) (by omega) ?_
  refine e_Ok.ps1 (x := (0, 0)) (q := 35) 1 rfl ?_
  refine e_Ok.callS rfl (e_dq hd rfl) rfl rfl (c_452_92 (a := a) hT15 (by omega)) (fun r16 w17 h18 => ?_)
  obtain ⟨rfl, q19f, q19T, q19x⟩ := h18
  refine e_Ok.nrm (q := 38) (st' := []) rfl rfl ?_
  refine e_Ok.ps1 (x := (1, 17 * a + 86)) (q := 39) 1 rfl ?_
  refine e_Ok.getr (z := cd) rfl (lA0 (a := a) rfl ga) rfl rfl ((q19f (17 * a + 86) 7 (by first | exact no_ds_4 (by omega) | (unfold kF92; omega))).trans (e_uq hw13 (Or.inr (by decide)) (e_uq hw10 (Or.inr (by decide)) (e_uq hw7 (Or.inl (e_neo (by decide))) (e_uq hw4 (Or.inl (e_neo (by decide))) (e_uq hw1 (Or.inr (by decide)) hc)))))) (by omega) ?_
  refine e_Ok.callV rfl (e_dq hd rfl) rfl (lD0 hcd) rfl rfl (c_20 q19T hcd) (fun r21 w22 h23 => ?_)
  obtain ⟨rfl, cf, cT, c0_, c1_, c2_⟩ := h23
  refine e_Ok.nrm (q := 45) (st' := []) rfl rfl ?_
  refine e_Ok.ps1 (x := (1, 17 * a + 86)) (q := 46) 1 rfl ?_
  have kx : w22 (17 * a + 88) 0 = x := ((cf (17 * a + 88) 0 (by unfold kCl0; omega)).trans ((q19f (17 * a + 88) 0 (by first | exact no_ds_5 (by omega) | (unfold kF92; omega))).trans (e_uq hw13 (Or.inl (e_neo (by decide))) (e_uq hw10 (Or.inl (e_neo (by decide))) (e_uq hw7 (Or.inl (e_neo (by decide))) (e_ue hw4))))))
  have ky : w22 (17 * a + 89) 0 = y := ((cf (17 * a + 89) 0 (by unfold kCl0; omega)).trans ((q19f (17 * a + 89) 0 (by first | exact no_ds_6 (by omega) | (unfold kF92; omega))).trans (e_uq hw13 (Or.inl (e_neo (by decide))) (e_uq hw10 (Or.inl (e_neo (by decide))) (e_ue hw7)))))
  have k8 : w22 (17 * a + 86) 8 = 0 := ((cf (17 * a + 86) 8 (by unfold kCl0; omega)).trans ((q19f (17 * a + 86) 8 (by first | exact no_ds_7 (by omega) | (unfold kF92; omega))).trans (e_uq hw13 (Or.inr (by decide)) (e_uq hw10 (Or.inr (by decide)) (e_uq hw7 (Or.inl (e_neo (by decide))) (e_uq hw4 (Or.inl (e_neo (by decide))) (e_ue hw1)))))))
  refine e_Ok.callV rfl (e_dq hd rfl) rfl (lA0 (a := a) rfl ga) rfl rfl (c_3_k (e_dq hd rfl) (a := a) cT (by omega) (by unfold kn1; omega) (by unfold kn1; omega)) (fun r25 w26 h27 => ?_)
  obtain ⟨rfl, rf_, rT, ra_, -⟩ := h27
  refine e_Ok.nrm (q := 49) (st' := []) rfl rfl ?_
  refine e_Ok.rets rfl rfl ?_
  exact ⟨rfl, (show e_fr (kMk a cd) w w26 from e_fr.trans (show e_fr (kMk a cd) w w22 from e_fr.trans (show e_fr (kMk a cd) w w17 from e_fr.trans (show e_fr (kMk a cd) w w13 from e_fr.up (show e_fr (kMk a cd) w w10 from e_fr.up (show e_fr (kMk a cd) w w7 from e_fr.up (show e_fr (kMk a cd) w w4 from e_fr.up (show e_fr (kMk a cd) w w1 from e_fr.up (e_fr.refl w) hw1 (by first | exact Or.inl ⟨(by omega), Or.inl ⟨(by decide), (by decide)⟩⟩ | (unfold kMk; omega))) hw4 (by first | exact Or.inr (Or.inr (Or.inl ⟨(by omega), (by omega)⟩)) | (unfold kMk; omega))) hw7 (by first | exact Or.inr (Or.inr (Or.inl ⟨(by omega), (by omega)⟩)) | (unfold kMk; omega))) hw10 (by first | exact Or.inl ⟨(by omega), Or.inl ⟨(by decide), (by decide)⟩⟩ | (unfold kMk; omega))) hw13 (by first | exact Or.inl ⟨(by omega), Or.inl ⟨(by decide), (by decide)⟩⟩ | (unfold kMk; omega))) (e_fr.mono q19f (fun c k q => by first | exact su_ds_12 q | (unfold kF92 at q; unfold kMk; omega)))) (e_fr.mono cf (fun c k q => by first | exact su_ds_13 q | (unfold kCl0 at q; unfold kMk; omega)))) (e_fr.mono rf_ (fun c k q => by first | exact su_ds_14 q | (unfold kAr at q; unfold kMk; omega)))), rT, (by rw [rf_ _ _ (by unfold kAr; omega)]; exact k8), ⟨by rw [rf_ _ _ (by unfold kAr; omega)]; exact kx, by rw [rf_ _ _ (by unfold kAr; omega)]; exact ky⟩, ra_, ⟨(rf_ _ _ (by unfold kAr; omega)).trans c0_, (rf_ _ _ (by unfold kAr; omega)).trans c1_⟩⟩
set_option maxHeartbeats 4000000 in
theorem c_193 {d : Nat} (hd : 28 ≤ d) {w : eW} (hT : e_Has kTy w) (hO : 0 ≤ w 0 13 ∧ w 0 13 ≤ 1) {n cd : Int} (hn : w 0 11 = n) (hn3 : n ≤ 3) (hc : w (17 * n + 86) 7 = cd) (hcd : isCd cd) {x : Int} (g_x : (-2147483648) ≤ x ∧ x ≤ 2147483647) {y : Int} (g_y : (-2147483648) ≤ y ∧ y ≤ 2147483647) {u : Int} (g_u : (-2147483648) ≤ u ∧ u ≤ 2147483647) {v : Int} (g_v : (-2147483648) ≤ v ∧ v ≤ 2147483647) : e_Ok 20 elay kcode eI d 193 (0, [(0, (1, 0)), (1, (0, x)), (2, (0, y)), (3, (0, u)), (4, (0, v))], [], w) (fun r w' => ∃ z : Int, r = [(0, z)] ∧ e_Has kTy w' ∧ ((w' = w ∧ ¬ ((-8000 ≤ x ∧ x ≤ 8000) ∧ (-8000 ≤ y ∧ y ≤ 8000) ∧ (0 ≤ u ∧ u ≤ 4095) ∧ (0 ≤ v ∧ v ≤ 800) ∧ w 0 13 = 0 ∧ n ≤ 3)) ∨ (((-8000 ≤ x ∧ x ≤ 8000) ∧ (-8000 ≤ y ∧ y ≤ 8000) ∧ (0 ≤ u ∧ u ≤ 4095) ∧ (0 ≤ v ∧ v ≤ 800) ∧ w 0 13 = 0 ∧ n ≤ 3) ∧ e_fr (kAa n cd) w w' ∧ (0 ≤ n ∧ n ≤ 3) ∧ w' 0 11 = n + 1 ∧ w' (17 * n + 86) 8 = 0 ∧ (kn1 (w' (17 * n + 88) 0) ∧ kn1 (w' (17 * n + 89) 0)) ∧ aR0 w' n ∧ w' cd 0 = 0 ∧ w' cd 1 = 0))) := by
  obtain ⟨d, rfl⟩ : ∃ e, d = e + 1 := ⟨d - 1, by omega⟩
  have hw0 := e_Has.get hT (c := 0) (k := 11) (lo := 0) (hi := 4) (kt_o rfl) (by decide)
  have hcd2 := hcd; unfold isCd at hcd2
  have hcd3 : 2 ≤ cd ∧ cd ≤ 145 := by omega
  refine e_Ok.ps3 (x := (0, 8000)) (y := (0, (-8000))) (z := (0, x)) (q := 7) 3 rfl ?_
  refine e_Ok.callS rfl (e_dq hd rfl) rfl rfl (c_242 (by omega) (by omega) (by omega)) (fun r1 w2 h3 => ?_)
  obtain ⟨z4, rfl, rfl, q5⟩ := h3
  obtain ⟨rfl, q5⟩ | ⟨rfl, q5⟩ := q5
  · refine e_Ok.nrm (q := 10) (st' := [(0, 1)]) rfl rfl ?_
    refine e_Ok.if1 rfl (fun h6 => ?_) (fun h6 => ?_)
    · replace h6 : (1 : Int) = 0 := h6
      exfalso; omega
    · replace h6 : (1 : Int) ≠ 0 := (show ¬ ((1 : Int) = 0) from h6)
      refine e_Ok.ps3 (x := (0, 8000)) (y := (0, (-8000))) (z := (0, y)) (q := 20) 3 rfl ?_
      refine e_Ok.callS rfl (e_dq hd rfl) rfl rfl (c_242 (by omega) (by omega) (by omega)) (fun r7 w8 h9 => ?_)
      obtain ⟨z10, rfl, rfl, q11⟩ := h9
      obtain ⟨rfl, q11⟩ | ⟨rfl, q11⟩ := q11
      · refine e_Ok.nrm (q := 23) (st' := [(0, 1)]) rfl rfl ?_
        refine e_Ok.if1 rfl (fun h12 => ?_) (fun h12 => ?_)
        · replace h12 : (1 : Int) ≠ 0 := h12
          refine e_Ok.ps3 (x := (0, 4095)) (y := (0, 0)) (z := (0, u)) (q := 33) 3 rfl ?_
          refine e_Ok.callS rfl (e_dq hd rfl) rfl rfl (c_242 (by omega) (by omega) (by omega)) (fun r13 w14 h15 => ?_)
          obtain ⟨z16, rfl, rfl, q17⟩ := h15
          obtain ⟨rfl, q17⟩ | ⟨rfl, q17⟩ := q17
          · refine e_Ok.nrm (q := 36) (st' := [(0, 1)]) rfl rfl ?_
            refine e_Ok.if1 rfl (fun h18 => ?_) (fun h18 => ?_)
            · replace h18 : (1 : Int) = 0 := h18
              exfalso; omega
            · replace h18 : (1 : Int) ≠ 0 := (show ¬ ((1 : Int) = 0) from h18)
              refine e_Ok.ps3 (x := (0, 800)) (y := (0, 0)) (z := (0, v)) (q := 45) 3 rfl ?_
              refine e_Ok.callS rfl (e_dq hd rfl) rfl rfl (c_242 (by omega) (by omega) (by omega)) (fun r19 w20 h21 => ?_)
              obtain ⟨z22, rfl, rfl, q23⟩ := h21
              obtain ⟨rfl, q23⟩ | ⟨rfl, q23⟩ := q23
              · refine e_Ok.nrm (q := 48) (st' := [(0, 1)]) rfl rfl ?_
                refine e_Ok.if1 rfl (fun h24 => ?_) (fun h24 => ?_)
                · replace h24 : (1 : Int) ≠ 0 := h24
                  refine e_Ok.ps1 (x := (1, 0)) (q := 54) 1 rfl ?_
                  refine e_Ok.getf (z := w 0 13) rfl (el_o rfl) rfl rfl rfl (by omega) ?_
                  refine e_Ok.if1 rfl (fun h25 => ?_) (fun h25 => ?_)
                  · replace h25 : (w 0 13 : Int) = 0 := h25
                    refine e_Ok.ps1 (x := (1, 0)) (q := 64) 1 rfl ?_
                    refine e_Ok.getf (z := n) rfl (el_o rfl) rfl rfl hn (by omega) ?_
                    refine e_Ok.ps1 (x := (0, 4)) (q := 68) 1 rfl ?_
                    refine e_Ok.if2 rfl (fun h26 => ?_) (fun h26 => ?_)
                    · replace h26 : (n : Int) < 4 := h26
                      refine e_Ok.ps1 (x := (1, 0)) (q := 75) 1 rfl ?_
                      refine e_Ok.getr (z := 9) rfl (el_o rfl) rfl rfl (e_Has.eq hT (kt_o rfl)) ⟨by decide, by decide⟩ ?_
                      refine e_Ok.ps1 (x := (1, 0)) (q := 79) 1 rfl ?_
                      refine e_Ok.getf (z := n) rfl (el_o rfl) rfl rfl hn (by omega) ?_
                      refine e_Ok.aald (z := 17 * n + 86) rfl (el_o rfl) rfl (by omega) (Eq.trans (e_Has.eq hT (k9 (by omega))) (by omega)) (by omega) ?_
                      refine e_Ok.ps4 (x := (0, v)) (y := (0, u)) (z := (0, y)) (u := (0, x)) (q := 88) 4 rfl ?_
                      refine e_Ok.callV rfl (e_dq hd rfl) rfl (lA0 (a := n) (by omega) (by omega)) rfl rfl (c_1 (e_dq hd rfl) (a := n) (cd := cd) hT (by omega) hc hcd (by omega) (by omega) (by omega) (by omega)) (fun r27 w28 h29 => ?_)
                      obtain ⟨rfl, mf, mT, m8, mx, mr, mc⟩ := h29
                      refine e_Ok.nrm (q := 91) (st' := []) rfl rfl ?_
                      refine e_Ok.ps2 (x := (1, 0)) (y := (1, 0)) (q := 93) 2 rfl ?_
                      refine e_Ok.getf (z := n) rfl (el_o rfl) rfl rfl ((mf 0 11 (by unfold kMk; omega)).trans hn) (by omega) ?_
                      refine e_Ok.ps1 (x := (0, 1)) (q := 97) 1 rfl ?_
                      refine e_Ok.add (z := n + 1) rfl rfl (by omega) ?_
                      refine e_Ok.putf rfl (el_o rfl) rfl rfl ?_
                      generalize hw31 : e_up w28 0 11 (n + 1) = w31
                      have hT33 : e_Has kTy w31 := e_Has.upr mT hw31 (kt_o rfl) (by omega)
                      refine e_Ok.ps1 (x := (1, 0)) (q := 102) 1 rfl ?_
                      refine e_Ok.getf (z := n + 1) rfl (el_o rfl) rfl rfl (e_ue hw31) (by omega) ?_
                      refine e_Ok.ps1 (x := (0, 1)) (q := 106) 1 rfl ?_
                      refine e_Ok.sub' (z := n) rfl (by omega) (by omega) ?_
                      refine e_Ok.rets rfl rfl ?_
                      exact ⟨_, rfl, hT33, Or.inr ⟨by omega, (show e_fr (kAa n cd) w w31 from e_fr.up (show e_fr (kAa n cd) w w28 from e_fr.trans (e_fr.refl w) (e_fr.mono mf (fun c k q => by exact Or.inl q))) hw31 (by first | exact Or.inr ⟨rfl, rfl⟩ | (unfold kAa kMk; omega))), ⟨by omega, by omega⟩, (e_ue hw31), (by rw [← hw31, e_up_ne _ _ (by omega)]; exact m8), ⟨by rw [← hw31, e_up_ne _ _ (by omega), mx.1]; unfold kn1; omega, by rw [← hw31, e_up_ne _ _ (by omega), mx.2]; unfold kn1; omega⟩, mr.eq0 (fun c k g1 g2 => by rw [← hw31, e_up_ne _ _ (by omega)]), (by rw [← hw31, e_up_ne _ _ (by omega)]; exact mc.1), (by rw [← hw31, e_up_ne _ _ (by omega)]; exact mc.2)⟩⟩
                    · replace h26 : (n : Int) ≥ 4 := Int.not_lt.mp (show ¬ ((n : Int) < 4) from h26)
                      exfalso; omega
                  · replace h25 : (w 0 13 : Int) ≠ 0 := (show ¬ ((w 0 13 : Int) = 0) from h25)
                    refine e_Ok.ps1 (x := (0, (-2))) (q := 62) 1 rfl ?_
                    refine e_Ok.rets rfl rfl ?_
                    exact ⟨_, rfl, hT, Or.inl ⟨rfl, by omega⟩⟩
                · replace h24 : (1 : Int) = 0 := Classical.not_not.mp (show ¬ ((1 : Int) ≠ 0) from h24)
                  exfalso; omega
              · refine e_Ok.nrm (q := 48) (st' := [(0, 0)]) rfl rfl ?_
                refine e_Ok.if1 rfl (fun h34 => ?_) (fun h34 => ?_)
                · replace h34 : (0 : Int) ≠ 0 := h34
                  exfalso; omega
                · replace h34 : (0 : Int) = 0 := Classical.not_not.mp (show ¬ ((0 : Int) ≠ 0) from h34)
                  refine e_Ok.ps1 (x := (0, (-1))) (q := 52) 1 rfl ?_
                  refine e_Ok.rets rfl rfl ?_
                  exact ⟨_, rfl, hT, Or.inl ⟨rfl, by omega⟩⟩
          · refine e_Ok.nrm (q := 36) (st' := [(0, 0)]) rfl rfl ?_
            refine e_Ok.if1 rfl (fun h35 => ?_) (fun h35 => ?_)
            · replace h35 : (0 : Int) = 0 := h35
              refine e_Ok.ps1 (x := (0, (-1))) (q := 52) 1 rfl ?_
              refine e_Ok.rets rfl rfl ?_
              exact ⟨_, rfl, hT, Or.inl ⟨rfl, by omega⟩⟩
            · replace h35 : (0 : Int) ≠ 0 := (show ¬ ((0 : Int) = 0) from h35)
              exfalso; omega
        · replace h12 : (1 : Int) = 0 := Classical.not_not.mp (show ¬ ((1 : Int) ≠ 0) from h12)
          exfalso; omega
      · refine e_Ok.nrm (q := 23) (st' := [(0, 0)]) rfl rfl ?_
        refine e_Ok.if1 rfl (fun h36 => ?_) (fun h36 => ?_)
        · replace h36 : (0 : Int) ≠ 0 := h36
          exfalso; omega
        · replace h36 : (0 : Int) = 0 := Classical.not_not.mp (show ¬ ((0 : Int) ≠ 0) from h36)
          refine e_Ok.ps1 (x := (0, (-1))) (q := 27) 1 rfl ?_
          refine e_Ok.rets rfl rfl ?_
          exact ⟨_, rfl, hT, Or.inl ⟨rfl, by omega⟩⟩
  · refine e_Ok.nrm (q := 10) (st' := [(0, 0)]) rfl rfl ?_
    refine e_Ok.if1 rfl (fun h37 => ?_) (fun h37 => ?_)
    · replace h37 : (0 : Int) = 0 := h37
      refine e_Ok.ps1 (x := (0, (-1))) (q := 27) 1 rfl ?_
      refine e_Ok.rets rfl rfl ?_
      exact ⟨_, rfl, hT, Or.inl ⟨rfl, by omega⟩⟩
    · replace h37 : (0 : Int) ≠ 0 := (show ¬ ((0 : Int) = 0) from h37)
      exfalso; omega
set_option maxHeartbeats 4000000 in
theorem c_193_4 {d : Nat} (hd : 28 ≤ d) {w : eW} (hT : e_Has kTy w) (hO : 0 ≤ w 0 13 ∧ w 0 13 ≤ 1) (hn : w 0 11 = 4) {x : Int} (g_x : (-2147483648) ≤ x ∧ x ≤ 2147483647) {y : Int} (g_y : (-2147483648) ≤ y ∧ y ≤ 2147483647) {u : Int} (g_u : (-2147483648) ≤ u ∧ u ≤ 2147483647) {v : Int} (g_v : (-2147483648) ≤ v ∧ v ≤ 2147483647) : e_Ok 20 elay kcode eI d 193 (0, [(0, (1, 0)), (1, (0, x)), (2, (0, y)), (3, (0, u)), (4, (0, v))], [], w) (fun r w' => ∃ z : Int, r = [(0, z)] ∧ w' = w) := by
  obtain ⟨d, rfl⟩ : ∃ e, d = e + 1 := ⟨d - 1, by omega⟩
  refine e_Ok.ps3 (x := (0, 8000)) (y := (0, (-8000))) (z := (0, x)) (q := 7) 3 rfl ?_
  refine e_Ok.callS rfl (e_dq hd rfl) rfl rfl (c_242 (by omega) (by omega) (by omega)) (fun r1 w2 h3 => ?_)
  obtain ⟨z4, rfl, rfl, q5⟩ := h3
  obtain ⟨rfl, q5⟩ | ⟨rfl, q5⟩ := q5
  · refine e_Ok.nrm (q := 10) (st' := [(0, 1)]) rfl rfl ?_
    refine e_Ok.if1 rfl (fun h6 => ?_) (fun h6 => ?_)
    · replace h6 : (1 : Int) = 0 := h6
      exfalso; omega
    · replace h6 : (1 : Int) ≠ 0 := (show ¬ ((1 : Int) = 0) from h6)
      refine e_Ok.ps3 (x := (0, 8000)) (y := (0, (-8000))) (z := (0, y)) (q := 20) 3 rfl ?_
      refine e_Ok.callS rfl (e_dq hd rfl) rfl rfl (c_242 (by omega) (by omega) (by omega)) (fun r7 w8 h9 => ?_)
      obtain ⟨z10, rfl, rfl, q11⟩ := h9
      obtain ⟨rfl, q11⟩ | ⟨rfl, q11⟩ := q11
      · refine e_Ok.nrm (q := 23) (st' := [(0, 1)]) rfl rfl ?_
        refine e_Ok.if1 rfl (fun h12 => ?_) (fun h12 => ?_)
        · replace h12 : (1 : Int) ≠ 0 := h12
          refine e_Ok.ps3 (x := (0, 4095)) (y := (0, 0)) (z := (0, u)) (q := 33) 3 rfl ?_
          refine e_Ok.callS rfl (e_dq hd rfl) rfl rfl (c_242 (by omega) (by omega) (by omega)) (fun r13 w14 h15 => ?_)
          obtain ⟨z16, rfl, rfl, q17⟩ := h15
          obtain ⟨rfl, q17⟩ | ⟨rfl, q17⟩ := q17
          · refine e_Ok.nrm (q := 36) (st' := [(0, 1)]) rfl rfl ?_
            refine e_Ok.if1 rfl (fun h18 => ?_) (fun h18 => ?_)
            · replace h18 : (1 : Int) = 0 := h18
              exfalso; omega
            · replace h18 : (1 : Int) ≠ 0 := (show ¬ ((1 : Int) = 0) from h18)
              refine e_Ok.ps3 (x := (0, 800)) (y := (0, 0)) (z := (0, v)) (q := 45) 3 rfl ?_
              refine e_Ok.callS rfl (e_dq hd rfl) rfl rfl (c_242 (by omega) (by omega) (by omega)) (fun r19 w20 h21 => ?_)
              obtain ⟨z22, rfl, rfl, q23⟩ := h21
              obtain ⟨rfl, q23⟩ | ⟨rfl, q23⟩ := q23
              · refine e_Ok.nrm (q := 48) (st' := [(0, 1)]) rfl rfl ?_
                refine e_Ok.if1 rfl (fun h24 => ?_) (fun h24 => ?_)
                · replace h24 : (1 : Int) ≠ 0 := h24
                  refine e_Ok.ps1 (x := (1, 0)) (q := 54) 1 rfl ?_
                  refine e_Ok.getf (z := w 0 13) rfl (el_o rfl) rfl rfl rfl (by omega) ?_
                  refine e_Ok.if1 rfl (fun h25 => ?_) (fun h25 => ?_)
                  · replace h25 : (w 0 13 : Int) = 0 := h25
                    refine e_Ok.ps1 (x := (1, 0)) (q := 64) 1 rfl ?_
                    refine e_Ok.getf (z := 4) rfl (el_o rfl) rfl rfl hn (by omega) ?_
                    refine e_Ok.ps1 (x := (0, 4)) (q := 68) 1 rfl ?_
                    refine e_Ok.if2 rfl (fun h26 => ?_) (fun h26 => ?_)
                    · replace h26 : (4 : Int) < 4 := h26
                      exfalso; omega
                    · replace h26 : (4 : Int) ≥ 4 := Int.not_lt.mp (show ¬ ((4 : Int) < 4) from h26)
                      refine e_Ok.ps1 (x := (0, (-3))) (q := 73) 1 rfl ?_
                      refine e_Ok.rets rfl rfl ?_
                      exact ⟨_, rfl, rfl⟩
                  · replace h25 : (w 0 13 : Int) ≠ 0 := (show ¬ ((w 0 13 : Int) = 0) from h25)
                    refine e_Ok.ps1 (x := (0, (-2))) (q := 62) 1 rfl ?_
                    refine e_Ok.rets rfl rfl ?_
                    exact ⟨_, rfl, rfl⟩
                · replace h24 : (1 : Int) = 0 := Classical.not_not.mp (show ¬ ((1 : Int) ≠ 0) from h24)
                  exfalso; omega
              · refine e_Ok.nrm (q := 48) (st' := [(0, 0)]) rfl rfl ?_
                refine e_Ok.if1 rfl (fun h27 => ?_) (fun h27 => ?_)
                · replace h27 : (0 : Int) ≠ 0 := h27
                  exfalso; omega
                · replace h27 : (0 : Int) = 0 := Classical.not_not.mp (show ¬ ((0 : Int) ≠ 0) from h27)
                  refine e_Ok.ps1 (x := (0, (-1))) (q := 52) 1 rfl ?_
                  refine e_Ok.rets rfl rfl ?_
                  exact ⟨_, rfl, rfl⟩
          · refine e_Ok.nrm (q := 36) (st' := [(0, 0)]) rfl rfl ?_
            refine e_Ok.if1 rfl (fun h28 => ?_) (fun h28 => ?_)
            · replace h28 : (0 : Int) = 0 := h28
              refine e_Ok.ps1 (x := (0, (-1))) (q := 52) 1 rfl ?_
              refine e_Ok.rets rfl rfl ?_
              exact ⟨_, rfl, rfl⟩
            · replace h28 : (0 : Int) ≠ 0 := (show ¬ ((0 : Int) = 0) from h28)
              exfalso; omega
        · replace h12 : (1 : Int) = 0 := Classical.not_not.mp (show ¬ ((1 : Int) ≠ 0) from h12)
          exfalso; omega
      · refine e_Ok.nrm (q := 23) (st' := [(0, 0)]) rfl rfl ?_
        refine e_Ok.if1 rfl (fun h29 => ?_) (fun h29 => ?_)
        · replace h29 : (0 : Int) ≠ 0 := h29
          exfalso; omega
        · replace h29 : (0 : Int) = 0 := Classical.not_not.mp (show ¬ ((0 : Int) ≠ 0) from h29)
          refine e_Ok.ps1 (x := (0, (-1))) (q := 27) 1 rfl ?_
          refine e_Ok.rets rfl rfl ?_
          exact ⟨_, rfl, rfl⟩
  · refine e_Ok.nrm (q := 10) (st' := [(0, 0)]) rfl rfl ?_
    refine e_Ok.if1 rfl (fun h30 => ?_) (fun h30 => ?_)
    · replace h30 : (0 : Int) = 0 := h30
      refine e_Ok.ps1 (x := (0, (-1))) (q := 27) 1 rfl ?_
      refine e_Ok.rets rfl rfl ?_
      exact ⟨_, rfl, rfl⟩
    · replace h30 : (0 : Int) ≠ 0 := (show ¬ ((0 : Int) = 0) from h30)
      exfalso; omega
theorem c_5_l {d : Nat} {w : eW} (hT : e_Has kTy w) {a : Int} (ga : 0 ≤ a ∧ a ≤ 3) : e_Ok 20 elay kcode eI d 5 (0, [(0, (1, 17 * a + 86))], [], w) (fun r w' => ∃ z : Int, r = [(0, z)] ∧ w = w' ∧ (-2147483648 ≤ z ∧ z ≤ 2147483647)) := by
  have hjn := kn_joints hT (a := a) (by omega)
  refine e_Ok.run (t' := (4, [(2, (0, 0)), (1, (0, 0)), (0, (1, 17 * a + 86))], [], w)) 4 rfl ?_
  have hL1 : ∀ (nn : Nat) (y1 : Int) (y2 : Int), ((-2147483648 ≤ y1 ∧ y1 ≤ 2147483647)) ∧ ((0 ≤ y2 ∧ y2 ≤ 6)) → 7 - y2 < nn → e_Ok 20 elay kcode eI d 5 (4, [(0, (1, 17 * a + 86)), (1, (0, y1)), (2, (0, y2))], [], w) (fun r w' => ∃ z : Int, r = [(0, z)] ∧ w = w' ∧ (-2147483648 ≤ z ∧ z ≤ 2147483647)) := by
    intro nn
    induction nn with
    | zero => intro y1 y2 hj hm; obtain ⟨j3, j4⟩ := hj; exfalso; omega
    | succ nn ih2 =>
      intro y1 y2 hj hm
      obtain ⟨j3, j4⟩ := hj
      refine e_Ok.run (t' := (6, [(0, (1, 17 * a + 86)), (1, (0, y1)), (2, (0, y2))], [(1, 17 * a + 86), (0, y2)], w)) 2 rfl ?_
      have h5 := (e_Has.get hT (c := 17 * a + 86) (k := 8) (lo := 0) (hi := 6) (kA_8 (a := a) rfl ga) (by decide))
      refine e_Ok.getf (z := w (17 * a + 86) 8) rfl (lA0 (a := a) rfl ga) rfl rfl rfl (e_bq h5 (by decide) (by decide)) ?_
      refine e_Ok.if2 rfl (fun h6 => ?_) (fun h6 => ?_)
      · replace h6 : (y2 : Int) ≥ w (17 * a + 86) 8 := h6
        refine e_Ok.ps1 (x := (0, y1)) (q := 58) 1 rfl ?_
        refine e_Ok.rets rfl rfl ?_
        exact ⟨_, rfl, rfl, by omega⟩
      · replace h6 : (y2 : Int) < w (17 * a + 86) 8 := Int.not_le.mp (show ¬ ((y2 : Int) ≥ w (17 * a + 86) 8) from h6)
        refine e_Ok.ps2 (x := (1, 17 * a + 86)) (y := (0, y1)) (q := 14) 2 rfl ?_
        refine e_Ok.getr (z := 17 * a + 87) rfl (lA0 (a := a) rfl ga) rfl rfl (Eq.trans (e_Has.eq hT (kA_0 (a := a) rfl ga)) (by omega)) (by omega) ?_
        refine e_Ok.ps1 (x := (0, y2)) (q := 18) 1 rfl ?_
        refine e_Ok.aald (z := 17 * a + y2 + 97) rfl (lA1 (a := a) rfl ga) rfl (by omega) (Eq.trans (e_Has.eq hT (kA87 (a := a) rfl ga (by omega))) (by omega)) (by omega) ?_
        have h7 := (e_Has.get hT (c := 17 * a + y2 + 97) (k := 3) (lo := (-2147483648)) (hi := 2147483647) (kJ_3 (a := a) (j := y2) (by omega) (by omega) (by omega)) (by decide))
        refine e_Ok.getf (z := w (17 * a + y2 + 97) 3) rfl (lJ (a := a) (j := y2) (by omega) (by omega) (by omega)) rfl rfl rfl (e_bq h7 (by decide) (by decide)) ?_
        refine e_Ok.ps1 (x := (1, 17 * a + 86)) (q := 23) 1 rfl ?_
        refine e_Ok.getr (z := 17 * a + 87) rfl (lA0 (a := a) rfl ga) rfl rfl (Eq.trans (e_Has.eq hT (kA_0 (a := a) rfl ga)) (by omega)) (by omega) ?_
        refine e_Ok.ps1 (x := (0, y2)) (q := 27) 1 rfl ?_
        refine e_Ok.aald (z := 17 * a + y2 + 97) rfl (lA1 (a := a) rfl ga) rfl (by omega) (Eq.trans (e_Has.eq hT (kA87 (a := a) rfl ga (by omega))) (by omega)) (by omega) ?_
        have h8 := (e_Has.get hT (c := 17 * a + y2 + 97) (k := 0) (lo := (-2147483648)) (hi := 2147483647) (kJ_0 (a := a) (j := y2) (by omega) (by omega) (by omega)) (by decide))
        refine e_Ok.getf (z := w (17 * a + y2 + 97) 0) rfl (lJ (a := a) (j := y2) (by omega) (by omega) (by omega)) rfl rfl rfl (e_bq h8 (by decide) (by decide)) ?_
        refine e_Ok.ps1 (x := (0, 1)) (q := 32) 1 rfl ?_
        refine e_Ok.if2 rfl (fun h9 => ?_) (fun h9 => ?_)
        · replace h9 : (w (17 * a + y2 + 97) 0 : Int) ≠ 1 := h9
          refine e_Ok.ps1 (x := (0, 0)) (q := 48) 1 rfl ?_
          refine e_Ok.add (z := w (17 * a + y2 + 97) 3) rfl (by omega) (by omega) ?_
          refine e_Ok.any rfl (eF_add_any _ _) (fun z10 z10a z10b => ?_)
          refine e_Ok.run (t' := (51, [(1, (0, z10)), (0, (1, 17 * a + 86)), (2, (0, y2))], [], w)) 1 rfl ?_
          refine e_Ok.inc (z := y2 + 1) rfl rfl (by first | with_reducible rfl | omega) (by omega) ?_
          show e_Ok 20 elay kcode eI d 5 (54, [(2, (0, y2 + 1)), (1, (0, z10)), (0, (1, 17 * a + 86))], [], w) _
          refine e_Ok.ps0 (q := 4) 1 rfl ?_
          refine e_Ok.sub kAlk (e_sub_of rfl ?_) (ih2 z10 (y2 + 1) ⟨(by omega), (by omega)⟩ (by omega))
          exact ⟨rfl, rfl, rfl, trivial⟩
        · replace h9 : (w (17 * a + y2 + 97) 0 : Int) = 1 := Classical.not_not.mp (show ¬ ((w (17 * a + y2 + 97) 0 : Int) ≠ 1) from h9)
          refine e_Ok.ps1 (x := (1, 17 * a + 86)) (q := 36) 1 rfl ?_
          refine e_Ok.getr (z := 17 * a + 87) rfl (lA0 (a := a) rfl ga) rfl rfl (Eq.trans (e_Has.eq hT (kA_0 (a := a) rfl ga)) (by omega)) (by omega) ?_
          refine e_Ok.ps1 (x := (0, y2)) (q := 40) 1 rfl ?_
          refine e_Ok.aald (z := 17 * a + y2 + 97) rfl (lA1 (a := a) rfl ga) rfl (by omega) (Eq.trans (e_Has.eq hT (kA87 (a := a) rfl ga (by omega))) (by omega)) (by omega) ?_
          have h11 := (e_Has.get hT (c := 17 * a + y2 + 97) (k := 2) (lo := (-2147483648)) (hi := 2147483647) (kJ_2 (a := a) (j := y2) (by omega) (by omega) (by omega)) (by decide))
          refine e_Ok.getf (z := w (17 * a + y2 + 97) 2) rfl (lJ (a := a) (j := y2) (by omega) (by omega) (by omega)) rfl rfl rfl (e_bq h11 (by decide) (by decide)) ?_
          refine e_Ok.ps0 (q := 48) 1 rfl ?_
          refine e_Ok.any rfl (eF_add_any _ _) (fun z12 z12a z12b => ?_)
          refine e_Ok.any rfl (eF_add_any _ _) (fun z13 z13a z13b => ?_)
          refine e_Ok.run (t' := (51, [(1, (0, z13)), (0, (1, 17 * a + 86)), (2, (0, y2))], [], w)) 1 rfl ?_
          refine e_Ok.inc (z := y2 + 1) rfl rfl (by first | with_reducible rfl | omega) (by omega) ?_
          show e_Ok 20 elay kcode eI d 5 (54, [(2, (0, y2 + 1)), (1, (0, z13)), (0, (1, 17 * a + 86))], [], w) _
          refine e_Ok.ps0 (q := 4) 1 rfl ?_
          refine e_Ok.sub kAlk (e_sub_of rfl ?_) (ih2 z13 (y2 + 1) ⟨(by omega), (by omega)⟩ (by omega))
          exact ⟨rfl, rfl, rfl, trivial⟩
  refine e_Ok.sub kAlk (e_sub_of rfl ?_) (hL1 (7 + 1 : Int).toNat 0 0 ⟨(by omega), (by omega)⟩ (by omega))
  exact ⟨rfl, rfl, rfl, trivial⟩
set_option maxHeartbeats 4000000 in
theorem c_194 {d : Nat} (hd : 28 ≤ d) {w : eW} (hT : e_Has kTy w) (hO : 0 ≤ w 0 13 ∧ w 0 13 ≤ 1) (ka : ∀ a, 0 ≤ a → a ≤ 3 → aK w a) {a : Int} (g_a : (-2147483648) ≤ a ∧ a ≤ 2147483647) {kd : Int} (g_kd : (-2147483648) ≤ kd ∧ kd ≤ 2147483647) {lo : Int} (g_lo : (-2147483648) ≤ lo ∧ lo ≤ 2147483647) {hi : Int} (g_hi : (-2147483648) ≤ hi ∧ hi ≤ 2147483647) {ln : Int} (g_ln : (-2147483648) ≤ ln ∧ ln ≤ 2147483647) : e_Ok 20 elay kcode eI d 194 (0, [(0, (1, 0)), (1, (0, a)), (2, (0, kd)), (3, (0, lo)), (4, (0, hi)), (5, (0, ln))], [], w) (fun r w' => ∃ z : Int, r = [(0, z)] ∧ e_Has kTy w' ∧ (w' = w ∨ (w 0 13 = 0 ∧ e_fr (kAj a) w w' ∧ ((0 ≤ a ∧ a < w 0 11) ∧ w (17 * a + 86) 8 ≤ 5) ∧ w' (17 * a + 86) 8 = w (17 * a + 86) 8 + 1 ∧ jC w' (17 * a + w (17 * a + 86) 8 + 97) ∧ (∀ j k, 0 ≤ j → j ≤ 5 → j ≠ w (17 * a + 86) 8 → w' (17 * a + j + 97) k = w (17 * a + j + 97) k) ∧ aK w' a))) := by
  obtain ⟨d, rfl⟩ : ∃ e, d = e + 1 := ⟨d - 1, by omega⟩
  have hw0 := e_Has.get hT (c := 0) (k := 11) (lo := 0) (hi := 4) (kt_o rfl) (by decide)
  refine e_Ok.ps2 (x := (0, a)) (y := (1, 0)) (q := 2) 2 rfl ?_
  refine e_Ok.callV rfl (e_dq hd rfl) rfl rfl rfl rfl (c_246 (e_dq hd rfl) hT (by omega)) (fun r1 w2 h3 => ?_)
  obtain ⟨z4, rfl, rfl, q5⟩ := h3
  obtain ⟨rfl, q5⟩ | ⟨rfl, q5⟩ := q5
  · refine e_Ok.nrm (q := 5) (st' := [(0, 1)]) rfl rfl ?_
    refine e_Ok.if1 rfl (fun h6 => ?_) (fun h6 => ?_)
    · replace h6 : (1 : Int) = 0 := h6
      exfalso; omega
    · replace h6 : (1 : Int) ≠ 0 := (show ¬ ((1 : Int) = 0) from h6)
      refine e_Ok.ps3 (x := (0, 1)) (y := (0, 0)) (z := (0, kd)) (q := 11) 3 rfl ?_
      refine e_Ok.callS rfl (e_dq hd rfl) rfl rfl (c_242 (by omega) (by omega) (by omega)) (fun r7 w8 h9 => ?_)
      obtain ⟨z10, rfl, rfl, q11⟩ := h9
      obtain ⟨rfl, q11⟩ | ⟨rfl, q11⟩ := q11
      · refine e_Ok.nrm (q := 14) (st' := [(0, 1)]) rfl rfl ?_
        refine e_Ok.if1 rfl (fun h12 => ?_) (fun h12 => ?_)
        · replace h12 : (1 : Int) ≠ 0 := h12
          refine e_Ok.ps1 (x := (0, kd)) (q := 20) 1 rfl ?_
          refine e_Ok.if1 rfl (fun h13 => ?_) (fun h13 => ?_)
          · replace h13 : (kd : Int) ≠ 0 := h13
            refine e_Ok.run (t' := (36, [(6, (0, 8000)), (0, (1, 0)), (1, (0, a)), (2, (0, kd)), (3, (0, lo)), (4, (0, hi)), (5, (0, ln))], [(0, 8000), (0, lo)], w)) 4 rfl ?_
            refine e_Ok.neg (z := (-8000)) rfl (by omega) (by omega) ?_
            refine e_Ok.ps1 (x := (0, 0)) (q := 38) 1 rfl ?_
            refine e_Ok.callS rfl (e_dq hd rfl) rfl rfl (c_242 (by omega) (by omega) (by omega)) (fun r14 w15 h16 => ?_)
            obtain ⟨z17, rfl, rfl, q18⟩ := h16
            obtain ⟨rfl, q18⟩ | ⟨rfl, q18⟩ := q18
            · refine e_Ok.nrm (q := 41) (st' := [(0, 1)]) rfl rfl ?_
              refine e_Ok.if1 rfl (fun h19 => ?_) (fun h19 => ?_)
              · replace h19 : (1 : Int) = 0 := h19
                exfalso; omega
              · replace h19 : (1 : Int) ≠ 0 := (show ¬ ((1 : Int) = 0) from h19)
                refine e_Ok.ps3 (x := (0, 8000)) (y := (0, 0)) (z := (0, hi)) (q := 49) 3 rfl ?_
                refine e_Ok.callS rfl (e_dq hd rfl) rfl rfl (c_242 (by omega) (by omega) (by omega)) (fun r20 w21 h22 => ?_)
                obtain ⟨z23, rfl, rfl, q24⟩ := h22
                obtain ⟨rfl, q24⟩ | ⟨rfl, q24⟩ := q24
                · refine e_Ok.nrm (q := 52) (st' := [(0, 1)]) rfl rfl ?_
                  refine e_Ok.if1 rfl (fun h25 => ?_) (fun h25 => ?_)
                  · replace h25 : (1 : Int) ≠ 0 := h25
                    refine e_Ok.ps3 (x := (0, 8000)) (y := (0, 0)) (z := (0, ln)) (q := 63) 3 rfl ?_
                    refine e_Ok.callS rfl (e_dq hd rfl) rfl rfl (c_242 (by omega) (by omega) (by omega)) (fun r26 w27 h28 => ?_)
                    obtain ⟨z29, rfl, rfl, q30⟩ := h28
                    obtain ⟨rfl, q30⟩ | ⟨rfl, q30⟩ := q30
                    · refine e_Ok.nrm (q := 66) (st' := [(0, 1)]) rfl rfl ?_
                      refine e_Ok.if1 rfl (fun h31 => ?_) (fun h31 => ?_)
                      · replace h31 : (1 : Int) ≠ 0 := h31
                        refine e_Ok.ps2 (x := (0, 1)) (y := (0, kd)) (q := 73) 2 rfl ?_
                        refine e_Ok.if2 rfl (fun h32 => ?_) (fun h32 => ?_)
                        · replace h32 : (kd : Int) ≠ 1 := h32
                          exfalso; omega
                        · replace h32 : (kd : Int) = 1 := Classical.not_not.mp (show ¬ ((kd : Int) ≠ 1) from h32)
                          refine e_Ok.ps2 (x := (0, lo)) (y := (0, ln)) (q := 79) 2 rfl ?_
                          refine e_Ok.add (z := ln + lo) rfl rfl (by omega) ?_
                          refine e_Ok.if1 rfl (fun h33 => ?_) (fun h33 => ?_)
                          · replace h33 : (ln + lo : Int) ≥ 0 := h33
                            refine e_Ok.ps2 (x := (0, 1)) (y := (0, kd)) (q := 87) 2 rfl ?_
                            refine e_Ok.if2 rfl (fun h34 => ?_) (fun h34 => ?_)
                            · replace h34 : (kd : Int) ≠ 1 := h34
                              exfalso; omega
                            · replace h34 : (kd : Int) = 1 := Classical.not_not.mp (show ¬ ((kd : Int) ≠ 1) from h34)
                              refine e_Ok.ps2 (x := (0, hi)) (y := (0, ln)) (q := 94) 2 rfl ?_
                              refine e_Ok.add (z := ln + hi) rfl rfl (by omega) ?_
                              refine e_Ok.run (t' := (103, [(7, (0, ln + hi)), (6, (0, 8000)), (0, (1, 0)), (1, (0, a)), (2, (0, kd)), (3, (0, lo)), (4, (0, hi)), (5, (0, ln))], [(1, 0)], w)) 3 rfl ?_
                              refine e_Ok.getr (z := 9) rfl (el_o rfl) rfl rfl (e_Has.eq hT (kt_o rfl)) ⟨by decide, by decide⟩ ?_
                              refine e_Ok.ps1 (x := (0, a)) (q := 107) 1 rfl ?_
                              refine e_Ok.aald (z := 17 * a + 86) rfl (el_o rfl) rfl (by omega) (Eq.trans (e_Has.eq hT (k9 (by omega))) (by omega)) (by omega) ?_
                              refine e_Ok.callV rfl (e_dq hd rfl) rfl (lA0 (a := a) (by omega) (by omega)) rfl rfl (c_5_l (a := a) hT (by omega)) (fun r35 w36 h37 => ?_)
                              obtain ⟨z38, rfl, rfl, q40⟩ := h37
                              refine e_Ok.nrm (q := 111) (st' := [(0, z38)]) rfl rfl ?_
                              refine e_Ok.ps1 (x := (0, ln + hi)) (q := 113) 1 rfl ?_
                              refine e_Ok.any rfl (eF_add_any _ _) (fun z41 z41a z41b => ?_)
                              refine e_Ok.ps1 (x := (0, 8000)) (q := 117) 1 rfl ?_
                              refine e_Ok.if2 rfl (fun h42 => ?_) (fun h42 => ?_)
                              · replace h42 : (z41 : Int) ≤ 8000 := h42
                                refine e_Ok.ps1 (x := (1, 0)) (q := 123) 1 rfl ?_
                                refine e_Ok.getf (z := w 0 13) rfl (el_o rfl) rfl rfl rfl (by omega) ?_
                                refine e_Ok.if1 rfl (fun h43 => ?_) (fun h43 => ?_)
                                · replace h43 : (w 0 13 : Int) = 0 := h43
                                  refine e_Ok.ps1 (x := (1, 0)) (q := 133) 1 rfl ?_
                                  refine e_Ok.getr (z := 9) rfl (el_o rfl) rfl rfl (e_Has.eq hT (kt_o rfl)) ⟨by decide, by decide⟩ ?_
                                  refine e_Ok.ps1 (x := (0, a)) (q := 137) 1 rfl ?_
                                  refine e_Ok.aald (z := 17 * a + 86) rfl (el_o rfl) rfl (by omega) (Eq.trans (e_Has.eq hT (k9 (by omega))) (by omega)) (by omega) ?_
                                  have h44 := (e_Has.get hT (c := 17 * a + 86) (k := 8) (lo := 0) (hi := 6) (kA_8 (a := a) (by omega) (by omega)) (by decide))
                                  refine e_Ok.getf (z := w (17 * a + 86) 8) rfl (lA0 (a := a) (by omega) (by omega)) rfl rfl rfl (e_bq h44 (by decide) (by decide)) ?_
                                  refine e_Ok.ps1 (x := (0, 6)) (q := 143) 1 rfl ?_
                                  refine e_Ok.if2 rfl (fun h45 => ?_) (fun h45 => ?_)
                                  · replace h45 : (w (17 * a + 86) 8 : Int) < 6 := h45
                                    refine e_Ok.ps1 (x := (1, 0)) (q := 150) 1 rfl ?_
                                    refine e_Ok.getr (z := 9) rfl (el_o rfl) rfl rfl (e_Has.eq hT (kt_o rfl)) ⟨by decide, by decide⟩ ?_
                                    refine e_Ok.ps1 (x := (0, a)) (q := 154) 1 rfl ?_
                                    refine e_Ok.aald (z := 17 * a + 86) rfl (el_o rfl) rfl (by omega) (Eq.trans (e_Has.eq hT (k9 (by omega))) (by omega)) (by omega) ?_
                                    refine e_Ok.ps4 (x := (0, ln)) (y := (0, hi)) (z := (0, lo)) (u := (0, kd)) (q := 161) 4 rfl ?_
                                    have hjn := kn_joints hT (a := a) (by omega)
                                    refine e_Ok.callV rfl (e_dq hd rfl) rfl (lA0 (a := a) (by omega) (by omega)) rfl rfl (c_2 (e_dq hd rfl) (a := a) (n := w (17 * a + 86) 8) hT (by omega) rfl (by omega) (ka a (by omega) (by omega)) (by omega) (by omega) (by omega) (by omega)) (fun r46 w47 h48 => ?_)
                                    obtain ⟨z49, rfl, jf, jT, jz, ⟨j0, j1, j2, j3, j4, j5, j6⟩, j8, jo, jk, -⟩ := h48
                                    refine e_Ok.nrm (q := 164) (st' := [(0, z49)]) rfl rfl ?_
                                    refine e_Ok.rets rfl rfl ?_
                                    exact ⟨_, rfl, jT, Or.inr ⟨by omega, (show e_fr (kAj a) w w47 from e_fr.trans (e_fr.refl w) (e_fr.mono jf (fun c k q => by exact q))), by omega, j8, (by unfold jC; rw [j1, j2, j5, j6]; omega), jo, jk⟩⟩
                                  · replace h45 : (w (17 * a + 86) 8 : Int) ≥ 6 := Int.not_lt.mp (show ¬ ((w (17 * a + 86) 8 : Int) < 6) from h45)
                                    refine e_Ok.ps1 (x := (0, (-3))) (q := 148) 1 rfl ?_
                                    refine e_Ok.rets rfl rfl ?_
                                    exact ⟨_, rfl, hT, Or.inl rfl⟩
                                · replace h43 : (w 0 13 : Int) ≠ 0 := (show ¬ ((w 0 13 : Int) = 0) from h43)
                                  refine e_Ok.ps1 (x := (0, (-2))) (q := 131) 1 rfl ?_
                                  refine e_Ok.rets rfl rfl ?_
                                  exact ⟨_, rfl, hT, Or.inl rfl⟩
                              · replace h42 : (z41 : Int) > 8000 := Int.not_le.mp (show ¬ ((z41 : Int) ≤ 8000) from h42)
                                refine e_Ok.ps1 (x := (0, (-1))) (q := 121) 1 rfl ?_
                                refine e_Ok.rets rfl rfl ?_
                                exact ⟨_, rfl, hT, Or.inl rfl⟩
                          · replace h33 : (ln + lo : Int) < 0 := Int.not_le.mp (show ¬ ((ln + lo : Int) ≥ 0) from h33)
                            refine e_Ok.ps1 (x := (0, (-1))) (q := 84) 1 rfl ?_
                            refine e_Ok.rets rfl rfl ?_
                            exact ⟨_, rfl, hT, Or.inl rfl⟩
                      · replace h31 : (1 : Int) = 0 := Classical.not_not.mp (show ¬ ((1 : Int) ≠ 0) from h31)
                        exfalso; omega
                    · refine e_Ok.nrm (q := 66) (st' := [(0, 0)]) rfl rfl ?_
                      refine e_Ok.if1 rfl (fun h51 => ?_) (fun h51 => ?_)
                      · replace h51 : (0 : Int) ≠ 0 := h51
                        exfalso; omega
                      · replace h51 : (0 : Int) = 0 := Classical.not_not.mp (show ¬ ((0 : Int) ≠ 0) from h51)
                        refine e_Ok.ps1 (x := (0, (-1))) (q := 70) 1 rfl ?_
                        refine e_Ok.rets rfl rfl ?_
                        exact ⟨_, rfl, hT, Or.inl rfl⟩
                  · replace h25 : (1 : Int) = 0 := Classical.not_not.mp (show ¬ ((1 : Int) ≠ 0) from h25)
                    exfalso; omega
                · refine e_Ok.nrm (q := 52) (st' := [(0, 0)]) rfl rfl ?_
                  refine e_Ok.if1 rfl (fun h52 => ?_) (fun h52 => ?_)
                  · replace h52 : (0 : Int) ≠ 0 := h52
                    exfalso; omega
                  · replace h52 : (0 : Int) = 0 := Classical.not_not.mp (show ¬ ((0 : Int) ≠ 0) from h52)
                    refine e_Ok.ps1 (x := (0, (-1))) (q := 56) 1 rfl ?_
                    refine e_Ok.rets rfl rfl ?_
                    exact ⟨_, rfl, hT, Or.inl rfl⟩
            · refine e_Ok.nrm (q := 41) (st' := [(0, 0)]) rfl rfl ?_
              refine e_Ok.if1 rfl (fun h53 => ?_) (fun h53 => ?_)
              · replace h53 : (0 : Int) = 0 := h53
                refine e_Ok.ps1 (x := (0, (-1))) (q := 56) 1 rfl ?_
                refine e_Ok.rets rfl rfl ?_
                exact ⟨_, rfl, hT, Or.inl rfl⟩
              · replace h53 : (0 : Int) ≠ 0 := (show ¬ ((0 : Int) = 0) from h53)
                exfalso; omega
          · replace h13 : (kd : Int) = 0 := Classical.not_not.mp (show ¬ ((kd : Int) ≠ 0) from h13)
            refine e_Ok.run (t' := (36, [(6, (0, 100000)), (0, (1, 0)), (1, (0, a)), (2, (0, kd)), (3, (0, lo)), (4, (0, hi)), (5, (0, ln))], [(0, 100000), (0, lo)], w)) 5 rfl ?_
            refine e_Ok.neg (z := (-100000)) rfl (by omega) (by omega) ?_
            refine e_Ok.ps1 (x := (0, 0)) (q := 38) 1 rfl ?_
            refine e_Ok.callS rfl (e_dq hd rfl) rfl rfl (c_242 (by omega) (by omega) (by omega)) (fun r54 w55 h56 => ?_)
            obtain ⟨z57, rfl, rfl, q58⟩ := h56
            obtain ⟨rfl, q58⟩ | ⟨rfl, q58⟩ := q58
            · refine e_Ok.nrm (q := 41) (st' := [(0, 1)]) rfl rfl ?_
              refine e_Ok.if1 rfl (fun h59 => ?_) (fun h59 => ?_)
              · replace h59 : (1 : Int) = 0 := h59
                exfalso; omega
              · replace h59 : (1 : Int) ≠ 0 := (show ¬ ((1 : Int) = 0) from h59)
                refine e_Ok.ps3 (x := (0, 100000)) (y := (0, 0)) (z := (0, hi)) (q := 49) 3 rfl ?_
                refine e_Ok.callS rfl (e_dq hd rfl) rfl rfl (c_242 (by omega) (by omega) (by omega)) (fun r60 w61 h62 => ?_)
                obtain ⟨z63, rfl, rfl, q64⟩ := h62
                obtain ⟨rfl, q64⟩ | ⟨rfl, q64⟩ := q64
                · refine e_Ok.nrm (q := 52) (st' := [(0, 1)]) rfl rfl ?_
                  refine e_Ok.if1 rfl (fun h65 => ?_) (fun h65 => ?_)
                  · replace h65 : (1 : Int) ≠ 0 := h65
                    refine e_Ok.ps3 (x := (0, 8000)) (y := (0, 0)) (z := (0, ln)) (q := 63) 3 rfl ?_
                    refine e_Ok.callS rfl (e_dq hd rfl) rfl rfl (c_242 (by omega) (by omega) (by omega)) (fun r66 w67 h68 => ?_)
                    obtain ⟨z69, rfl, rfl, q70⟩ := h68
                    obtain ⟨rfl, q70⟩ | ⟨rfl, q70⟩ := q70
                    · refine e_Ok.nrm (q := 66) (st' := [(0, 1)]) rfl rfl ?_
                      refine e_Ok.if1 rfl (fun h71 => ?_) (fun h71 => ?_)
                      · replace h71 : (1 : Int) ≠ 0 := h71
                        refine e_Ok.ps2 (x := (0, 1)) (y := (0, kd)) (q := 73) 2 rfl ?_
                        refine e_Ok.if2 rfl (fun h72 => ?_) (fun h72 => ?_)
                        · replace h72 : (kd : Int) ≠ 1 := h72
                          refine e_Ok.ps2 (x := (0, 1)) (y := (0, kd)) (q := 87) 2 rfl ?_
                          refine e_Ok.if2 rfl (fun h73 => ?_) (fun h73 => ?_)
                          · replace h73 : (kd : Int) ≠ 1 := h73
                            refine e_Ok.run (t' := (103, [(7, (0, ln)), (6, (0, 100000)), (0, (1, 0)), (1, (0, a)), (2, (0, kd)), (3, (0, lo)), (4, (0, hi)), (5, (0, ln))], [(1, 0)], w)) 3 rfl ?_
                            refine e_Ok.getr (z := 9) rfl (el_o rfl) rfl rfl (e_Has.eq hT (kt_o rfl)) ⟨by decide, by decide⟩ ?_
                            refine e_Ok.ps1 (x := (0, a)) (q := 107) 1 rfl ?_
                            refine e_Ok.aald (z := 17 * a + 86) rfl (el_o rfl) rfl (by omega) (Eq.trans (e_Has.eq hT (k9 (by omega))) (by omega)) (by omega) ?_
                            refine e_Ok.callV rfl (e_dq hd rfl) rfl (lA0 (a := a) (by omega) (by omega)) rfl rfl (c_5_l (a := a) hT (by omega)) (fun r74 w75 h76 => ?_)
                            obtain ⟨z77, rfl, rfl, q78⟩ := h76
                            refine e_Ok.nrm (q := 111) (st' := [(0, z77)]) rfl rfl ?_
                            refine e_Ok.ps1 (x := (0, ln)) (q := 113) 1 rfl ?_
                            refine e_Ok.any rfl (eF_add_any _ _) (fun z79 z79a z79b => ?_)
                            refine e_Ok.ps1 (x := (0, 8000)) (q := 117) 1 rfl ?_
                            refine e_Ok.if2 rfl (fun h80 => ?_) (fun h80 => ?_)
                            · replace h80 : (z79 : Int) ≤ 8000 := h80
                              refine e_Ok.ps1 (x := (1, 0)) (q := 123) 1 rfl ?_
                              refine e_Ok.getf (z := w 0 13) rfl (el_o rfl) rfl rfl rfl (by omega) ?_
                              refine e_Ok.if1 rfl (fun h81 => ?_) (fun h81 => ?_)
                              · replace h81 : (w 0 13 : Int) = 0 := h81
                                refine e_Ok.ps1 (x := (1, 0)) (q := 133) 1 rfl ?_
                                refine e_Ok.getr (z := 9) rfl (el_o rfl) rfl rfl (e_Has.eq hT (kt_o rfl)) ⟨by decide, by decide⟩ ?_
                                refine e_Ok.ps1 (x := (0, a)) (q := 137) 1 rfl ?_
                                refine e_Ok.aald (z := 17 * a + 86) rfl (el_o rfl) rfl (by omega) (Eq.trans (e_Has.eq hT (k9 (by omega))) (by omega)) (by omega) ?_
                                have h82 := (e_Has.get hT (c := 17 * a + 86) (k := 8) (lo := 0) (hi := 6) (kA_8 (a := a) (by omega) (by omega)) (by decide))
                                refine e_Ok.getf (z := w (17 * a + 86) 8) rfl (lA0 (a := a) (by omega) (by omega)) rfl rfl rfl (e_bq h82 (by decide) (by decide)) ?_
                                refine e_Ok.ps1 (x := (0, 6)) (q := 143) 1 rfl ?_
                                refine e_Ok.if2 rfl (fun h83 => ?_) (fun h83 => ?_)
                                · replace h83 : (w (17 * a + 86) 8 : Int) < 6 := h83
                                  refine e_Ok.ps1 (x := (1, 0)) (q := 150) 1 rfl ?_
                                  refine e_Ok.getr (z := 9) rfl (el_o rfl) rfl rfl (e_Has.eq hT (kt_o rfl)) ⟨by decide, by decide⟩ ?_
                                  refine e_Ok.ps1 (x := (0, a)) (q := 154) 1 rfl ?_
                                  refine e_Ok.aald (z := 17 * a + 86) rfl (el_o rfl) rfl (by omega) (Eq.trans (e_Has.eq hT (k9 (by omega))) (by omega)) (by omega) ?_
                                  refine e_Ok.ps4 (x := (0, ln)) (y := (0, hi)) (z := (0, lo)) (u := (0, kd)) (q := 161) 4 rfl ?_
                                  have hjn := kn_joints hT (a := a) (by omega)
                                  refine e_Ok.callV rfl (e_dq hd rfl) rfl (lA0 (a := a) (by omega) (by omega)) rfl rfl (c_2 (e_dq hd rfl) (a := a) (n := w (17 * a + 86) 8) hT (by omega) rfl (by omega) (ka a (by omega) (by omega)) (by omega) (by omega) (by omega) (by omega)) (fun r84 w85 h86 => ?_)
                                  obtain ⟨z87, rfl, jf, jT, jz, ⟨j0, j1, j2, j3, j4, j5, j6⟩, j8, jo, jk, -⟩ := h86
                                  refine e_Ok.nrm (q := 164) (st' := [(0, z87)]) rfl rfl ?_
                                  refine e_Ok.rets rfl rfl ?_
                                  exact ⟨_, rfl, jT, Or.inr ⟨by omega, (show e_fr (kAj a) w w85 from e_fr.trans (e_fr.refl w) (e_fr.mono jf (fun c k q => by exact q))), by omega, j8, (by unfold jC; rw [j1, j2, j5, j6]; omega), jo, jk⟩⟩
                                · replace h83 : (w (17 * a + 86) 8 : Int) ≥ 6 := Int.not_lt.mp (show ¬ ((w (17 * a + 86) 8 : Int) < 6) from h83)
                                  refine e_Ok.ps1 (x := (0, (-3))) (q := 148) 1 rfl ?_
                                  refine e_Ok.rets rfl rfl ?_
                                  exact ⟨_, rfl, hT, Or.inl rfl⟩
                              · replace h81 : (w 0 13 : Int) ≠ 0 := (show ¬ ((w 0 13 : Int) = 0) from h81)
                                refine e_Ok.ps1 (x := (0, (-2))) (q := 131) 1 rfl ?_
                                refine e_Ok.rets rfl rfl ?_
                                exact ⟨_, rfl, hT, Or.inl rfl⟩
                            · replace h80 : (z79 : Int) > 8000 := Int.not_le.mp (show ¬ ((z79 : Int) ≤ 8000) from h80)
                              refine e_Ok.ps1 (x := (0, (-1))) (q := 121) 1 rfl ?_
                              refine e_Ok.rets rfl rfl ?_
                              exact ⟨_, rfl, hT, Or.inl rfl⟩
                          · replace h73 : (kd : Int) = 1 := Classical.not_not.mp (show ¬ ((kd : Int) ≠ 1) from h73)
                            exfalso; omega
                        · replace h72 : (kd : Int) = 1 := Classical.not_not.mp (show ¬ ((kd : Int) ≠ 1) from h72)
                          exfalso; omega
                      · replace h71 : (1 : Int) = 0 := Classical.not_not.mp (show ¬ ((1 : Int) ≠ 0) from h71)
                        exfalso; omega
                    · refine e_Ok.nrm (q := 66) (st' := [(0, 0)]) rfl rfl ?_
                      refine e_Ok.if1 rfl (fun h89 => ?_) (fun h89 => ?_)
                      · replace h89 : (0 : Int) ≠ 0 := h89
                        exfalso; omega
                      · replace h89 : (0 : Int) = 0 := Classical.not_not.mp (show ¬ ((0 : Int) ≠ 0) from h89)
                        refine e_Ok.ps1 (x := (0, (-1))) (q := 70) 1 rfl ?_
                        refine e_Ok.rets rfl rfl ?_
                        exact ⟨_, rfl, hT, Or.inl rfl⟩
                  · replace h65 : (1 : Int) = 0 := Classical.not_not.mp (show ¬ ((1 : Int) ≠ 0) from h65)
                    exfalso; omega
                · refine e_Ok.nrm (q := 52) (st' := [(0, 0)]) rfl rfl ?_
                  refine e_Ok.if1 rfl (fun h90 => ?_) (fun h90 => ?_)
                  · replace h90 : (0 : Int) ≠ 0 := h90
                    exfalso; omega
                  · replace h90 : (0 : Int) = 0 := Classical.not_not.mp (show ¬ ((0 : Int) ≠ 0) from h90)
                    refine e_Ok.ps1 (x := (0, (-1))) (q := 56) 1 rfl ?_
                    refine e_Ok.rets rfl rfl ?_
                    exact ⟨_, rfl, hT, Or.inl rfl⟩
            · refine e_Ok.nrm (q := 41) (st' := [(0, 0)]) rfl rfl ?_
              refine e_Ok.if1 rfl (fun h91 => ?_) (fun h91 => ?_)
              · replace h91 : (0 : Int) = 0 := h91
                refine e_Ok.ps1 (x := (0, (-1))) (q := 56) 1 rfl ?_
                refine e_Ok.rets rfl rfl ?_
                exact ⟨_, rfl, hT, Or.inl rfl⟩
              · replace h91 : (0 : Int) ≠ 0 := (show ¬ ((0 : Int) = 0) from h91)
                exfalso; omega
        · replace h12 : (1 : Int) = 0 := Classical.not_not.mp (show ¬ ((1 : Int) ≠ 0) from h12)
          exfalso; omega
      · refine e_Ok.nrm (q := 14) (st' := [(0, 0)]) rfl rfl ?_
        refine e_Ok.if1 rfl (fun h92 => ?_) (fun h92 => ?_)
        · replace h92 : (0 : Int) ≠ 0 := h92
          exfalso; omega
        · replace h92 : (0 : Int) = 0 := Classical.not_not.mp (show ¬ ((0 : Int) ≠ 0) from h92)
          refine e_Ok.ps1 (x := (0, (-1))) (q := 18) 1 rfl ?_
          refine e_Ok.rets rfl rfl ?_
          exact ⟨_, rfl, hT, Or.inl rfl⟩
  · refine e_Ok.nrm (q := 5) (st' := [(0, 0)]) rfl rfl ?_
    refine e_Ok.if1 rfl (fun h93 => ?_) (fun h93 => ?_)
    · replace h93 : (0 : Int) = 0 := h93
      refine e_Ok.ps1 (x := (0, (-1))) (q := 18) 1 rfl ?_
      refine e_Ok.rets rfl rfl ?_
      exact ⟨_, rfl, hT, Or.inl rfl⟩
    · replace h93 : (0 : Int) ≠ 0 := (show ¬ ((0 : Int) = 0) from h93)
      exfalso; omega
end
end
