noncomputable section
/-! the class's reader: what it has written so far -/
def kRb : List (Int × Int) := [(0, 4000), (-2147483648, 2147483647), (-2147483648, 2147483647), (1, 0), (1, 0), (0, 53), (0, 4000), (0, 4000), (-2147483648, 2147483647), (-2147483648, 2147483647), (-2147483648, 2147483647), (0, 30), (0, 30), (-1, 4000), (0, 500), (1, 0), (1, 0)]
def kRy (c k : Int) : Int × Int := if c = 1 then (if k < 0 then (1, 0) else x_nthP kRb k.toNat) else if 5 ≤ c ∧ c ≤ 7 then (-2147483648, 2147483647) else (1, 0)
theorem kRy_rg {c k : Int} (h : (kRy c k).1 ≤ (kRy c k).2) : c = 1 ∨ (5 ≤ c ∧ c ≤ 7) := by
  unfold kRy at h
  by_cases g : c = 1
  · exact Or.inl g
  · by_cases g2 : 5 ≤ c ∧ c ≤ 7
    · exact Or.inr g2
    · rw [if_neg g, if_neg g2] at h
      exact absurd h (by decide)
theorem kRy_D {c k : Int} (h : 2 ≤ c) (h2 : c < 5 ∨ 7 < c) : kRy c k = (1, 0) := by
  unfold kRy
  rw [if_neg (by omega), if_neg (by omega)]
def kRa (c k : Int) : Prop := c = 1 ∧ 5 ≤ k ∧ k ≤ 8
def kRk (c k : Int) : Prop := c = 1 ∧ (k = 1 ∨ k = 2 ∨ (5 ≤ k ∧ k ≤ 8))
def kRc (c k : Int) : Prop := c = 1 ∧ (k = 9 ∨ k = 10)
def kEm (cd c k : Int) : Prop := (c = cd ∧ k = 0) ∨ c = cd + 2
def kPa (cd c _k : Int) : Prop := c = cd + 2
def kRx (cd c k : Int) : Prop := (c = 1 ∧ (k = 1 ∨ k = 2 ∨ (5 ≤ k ∧ k ≤ 11))) ∨ (c = cd ∧ k = 0) ∨ c = cd + 2
def kRt (cd c k : Int) : Prop := (c = 1 ∧ (k = 1 ∨ k = 2 ∨ (5 ≤ k ∧ k ≤ 13))) ∨ (c = cd ∧ k = 0) ∨ c = cd + 2
/-- no fault as yet -/
def nF (w : eW) : Prop := w 1 1 = 0 ∧ w 1 9 = 0
/-- the token -/
def tkR (w : eW) : Prop := (w 1 6 ≤ w 1 7 ∧ w 1 7 ≤ w 1 0) ∧ (w 1 5 ≠ 0 → w 1 5 ≠ 4 → w 1 6 + 1 ≤ w 1 7) ∧ (21 ≤ w 1 5 → w 1 6 + 2 ≤ w 1 7) ∧ (w 1 5 = 23 ∨ w 1 5 = 41 ∨ w 1 5 = 42 → w 1 6 + 3 ≤ w 1 7) ∧ (w 1 5 = 2 → 0 ≤ w 1 8 ∧ (10 ≤ w 1 8 → w 1 6 + 2 ≤ w 1 7))
theorem H_fr {S : Int → Int → Prop} {w w' : eW} (f : e_fr S w w') (hS : ∀ c k, S c k → c ≠ 1 ∧ (c < 5 ∨ 7 < c)) (h : e_Has kRy w) : e_Has kRy w' := fun c k hl => by
  have g := kRy_rg hl
  rw [f c k (fun q => by have := hS c k q; omega)]
  exact h c k hl
section RD
variable {w v u w' : eW} {cd s s1 s2 e e1 e2 op od z m j b c b' c' b1 c1 x p n : Int}
theorem tkR.a0 (h : tkR w) : w 1 6 + 0 ≤ w 1 7 := by have := h.1; omega
theorem tkR.a1 (h : tkR w) (g : w 1 5 ≠ 0 ∧ w 1 5 ≠ 4) : w 1 6 + 1 ≤ w 1 7 := h.2.1 g.1 g.2
theorem tkR.a2 (h : tkR w) (g : 21 ≤ w 1 5) : w 1 6 + 2 ≤ w 1 7 := h.2.2.1 g
theorem tkR.a3 (h : tkR w) (g : w 1 5 = 23 ∨ w 1 5 = 41 ∨ w 1 5 = 42) : w 1 6 + 3 ≤ w 1 7 := h.2.2.2.1 g
theorem tkR.nm (h : tkR w) (g : w 1 5 = 2) : 0 ≤ w 1 8 ∧ (10 ≤ w 1 8 → w 1 6 + 2 ≤ w 1 7) := h.2.2.2.2 g
theorem tkR.eq (h : tkR w) (q : ∀ k, k = 0 ∨ (5 ≤ k ∧ k ≤ 8) → w' 1 k = w 1 k) : tkR w' := by
  unfold tkR
  rw [q 0 (by omega), q 5 (by omega), q 6 (by omega), q 7 (by omega), q 8 (by omega)]
  exact h
theorem tkR.fr {S : Int → Int → Prop} (h : tkR w) (f : e_fr S w w') (q : ∀ k, k = 0 ∨ (5 ≤ k ∧ k ≤ 8) → ¬ S 1 k) : tkR w' := h.eq (fun k g => f 1 k (q k g))
def sm0 (w w' : eW) (cd : Int) : Prop := w' 1 14 = w 1 14 ∧ ∀ n, w' (cd + 1) n = w (cd + 1) n
theorem sm0.trans (h1 : sm0 w v cd) (h2 : sm0 v u cd) : sm0 w u cd := ⟨h2.1.trans h1.1, fun n => (h2.2 n).trans (h1.2 n)⟩
/-- an instruction of an expression between a and b; x: its place is still to be told -/
def xI (v a b : Int) (x : Prop) : Prop := (0 ≤ v ∧ v % 64 ≤ 24) ∧ (x → v % 64 = 12 ∨ v % 64 = 13) ∧ (v % 64 = 2 → v / 64 ≤ 31) ∧ (v % 64 = 12 ∨ v % 64 = 13 → x ∨ (a ≤ v / 64 ∧ v / 64 ≤ b))
def xG (w w' : eW) (cd s : Int) : Prop := 0 ≤ w cd 0 ∧ w cd 0 ≤ w' cd 0 ∧ w' cd 0 - w cd 0 ≤ w' 1 6 - w 1 6 + s
def xB (w w' : eW) (cd e : Int) : Prop := (e = -1 ∨ (w cd 0 ≤ e ∧ e < w' cd 0)) ∧ sm0 w w' cd ∧ (∀ p, 0 ≤ p → p < w cd 0 → w' (cd + 2) p = w (cd + 2) p) ∧ (∀ p, w cd 0 ≤ p → p < w' cd 0 → xI (w' (cd + 2) p) (w cd 0) (w' cd 0) (p = e))
/-- a step inside an expression: s more than the bytes read may have been written; if no fault was found and the program is not full, it is in order -/
def zS (w w' : eW) (cd s e : Int) : Prop := nF w' → nF w ∧ xG w w' cd s ∧ (w' cd 0 < 4000 → xB w w' cd e)
theorem xG.trans (h1 : xG w v cd s1) (h2 : xG v u cd s2) (hs : s1 + s2 ≤ s) : xG w u cd s := by
  obtain ⟨a1, a2, a3⟩ := h1
  obtain ⟨b1, b2, b3⟩ := h2
  exact ⟨a1, by omega, by omega⟩
theorem zS.trans (h1 : zS w v cd s1 e1) (h2 : zS v u cd s2 e2) (hs : s1 + s2 ≤ s) (g1 : e1 = e ∨ e1 = -1) (g2 : e2 = e ∨ e2 = -1) (g3 : e = -1 ∨ e = e1 ∨ e = e2) : zS w u cd s e := fun hn => by
  obtain ⟨n1, a1, a2⟩ := h2 hn
  obtain ⟨n0, b1, b2⟩ := h1 n1
  refine ⟨n0, b1.trans a1 hs, fun hl => ?_⟩
  obtain ⟨a1, a6, a7⟩ := a1
  obtain ⟨b1, b6, b7⟩ := b1
  obtain ⟨a2, a3, a4, a5⟩ := a2 hl
  obtain ⟨b2, b3, b4, b5⟩ := b2 (by omega)
  refine ⟨by omega, b3.trans a3, fun p g h => (a4 p g (by omega)).trans (b4 p g h), fun p g h => ?_⟩
  by_cases c : p < v cd 0
  · have q := b5 p g c
    rw [a4 p (by omega) c]
    exact ⟨q.1, fun y => q.2.1 (by omega), q.2.2.1, fun z => by rcases q.2.2.2 z with y | y; exact Or.inl (by omega); exact Or.inr (by omega)⟩
  · have q := a5 p (by omega) h
    exact ⟨q.1, fun y => q.2.1 (by omega), q.2.2.1, fun z => by rcases q.2.2.2 z with y | y; exact Or.inl (by omega); exact Or.inr (by omega)⟩
theorem zS.refl (h : 0 ≤ w cd 0) : zS w w cd 0 (-1) := fun hn => ⟨hn, ⟨h, by omega, by omega⟩, fun _ => ⟨Or.inl rfl, ⟨rfl, fun _ => rfl⟩, fun _ _ _ => rfl, fun p g1 g2 => by omega⟩⟩
theorem zS.dead (h : ¬ nF w') : zS w w' cd s e := fun hn => absurd hn h
theorem zS.le (h : zS w v cd s1 e) (hs : s1 ≤ s) : zS w v cd s e := fun hn => by
  obtain ⟨n0, ⟨b1, b2, b3⟩, b4⟩ := h hn
  exact ⟨n0, ⟨b1, b2, by omega⟩, b4⟩
theorem zS.tok (h0 : 0 ≤ w cd 0) (hL : w' cd 0 = w cd 0) (hs : sm0 w w' cd) (hR : ∀ p, w' (cd + 2) p = w (cd + 2) p) (hn : nF w' → nF w ∧ w 1 6 + m ≤ w' 1 6) : zS w w' cd (-m) (-1) := fun h => by
  obtain ⟨n0, g⟩ := hn h
  exact ⟨n0, ⟨h0, by omega, by omega⟩, fun _ => ⟨Or.inl rfl, hs, fun p _ _ => hR p, fun p g1 g2 => by omega⟩⟩
theorem fr_k {S : Int → Int → Prop} (f : e_fr S w w') (hS : ∀ c k, S c k → c = 1 ∧ k ≠ 14) (hc : isCd cd) : w' cd 0 = w cd 0 ∧ sm0 w w' cd ∧ ∀ p, w' (cd + 2) p = w (cd + 2) p := by
  unfold isCd at hc
  exact ⟨f _ _ (fun q => by have := hS _ _ q; omega), ⟨f _ _ (fun q => by have := hS _ _ q; omega), fun n => f _ _ (fun q => by have := hS _ _ q; omega)⟩, fun p => f _ _ (fun q => by have := hS _ _ q; omega)⟩
theorem zS.adv (hc : isCd cd) (h0 : 0 ≤ w cd 0) (f : e_fr kRa w w') (h : w 1 7 ≤ w' 1 6) (hm : w 1 6 + m ≤ w 1 7) : zS w w' cd (-m) (-1) := by
  obtain ⟨q1, q2, q3⟩ := fr_k f (fun c k g => by unfold kRa at g; omega) hc
  exact zS.tok h0 q1 q2 q3 (fun n => ⟨⟨by rw [← f 1 1 (by unfold kRa; omega)]; exact n.1, by rw [← f 1 9 (by unfold kRa; omega)]; exact n.2⟩, by omega⟩)
theorem zS.acc (hc : isCd cd) (h0 : 0 ≤ w cd 0) (f : e_fr kRk w w') (h : nF w' → nF w ∧ w 1 5 = x ∧ w 1 7 ≤ w' 1 6) (hm : w 1 5 = x → w 1 6 + m ≤ w 1 7) : zS w w' cd (-m) (-1) := by
  obtain ⟨q1, q2, q3⟩ := fr_k f (fun c k g => by unfold kRk at g; omega) hc
  exact zS.tok h0 q1 q2 q3 (fun n => by obtain ⟨a, b, c⟩ := h n; have := hm b; exact ⟨a, by omega⟩)
/-- a field that counts nothing here is written -/
theorem zS.wr (hc : isCd cd) (h0 : 0 ≤ w cd 0) (f : e_fr (fun c k => c = 1 ∧ 11 ≤ k ∧ k ≤ 13) w w') : zS w w' cd 0 (-1) := by
  obtain ⟨q1, q2, q3⟩ := fr_k f (fun c k g => by omega) hc
  exact zS.tok (m := 0) h0 q1 q2 q3 (fun n => ⟨⟨by rw [← f 1 1 (by omega)]; exact n.1, by rw [← f 1 9 (by omega)]; exact n.2⟩, by rw [f 1 6 (by omega)]; omega⟩)
theorem zS.cmp (hc : isCd cd) (h0 : 0 ≤ w cd 0) (f : e_fr kRc w w') (h : nF w' → nF w) : zS w w' cd 0 (-1) := by
  obtain ⟨q1, q2, q3⟩ := fr_k f (fun c k g => by unfold kRc at g; omega) hc
  exact zS.tok (m := 0) h0 q1 q2 q3 (fun n => ⟨h n, by rw [f 1 6 (by unfold kRc; omega)]; omega⟩)
theorem zS.drop (hc : isCd cd) (h0 : 0 ≤ w cd 0) (f : e_fr kRk w w') (h : ¬ nF w') : zS w w' cd 0 (-1) := zS.dead h
def emQ (w w' : eW) (cd op od z : Int) : Prop := (w cd 0 < 4000 ∧ w' cd 0 = w cd 0 + 1 ∧ z = w cd 0 ∧ w' (cd + 2) (w cd 0) = 64 * od + op ∧ ∀ k, k ≠ w cd 0 → w' (cd + 2) k = w (cd + 2) k) ∨ (w cd 0 = 4000 ∧ w' = w ∧ z = 3999)
def paQ (w w' : eW) (cd a od : Int) : Prop := (0 ≤ a ∧ a < w cd 0 ∧ w' (cd + 2) a = 64 * od + w (cd + 2) a % 64 ∧ ∀ k, k ≠ a → w' (cd + 2) k = w (cd + 2) k) ∨ ((a < 0 ∨ w cd 0 ≤ a) ∧ w' = w)
theorem emQ.ln (h : emQ w w' cd op od z) : (w cd 0 < 4000 ∧ w' cd 0 = w cd 0 + 1) ∨ (w cd 0 = 4000 ∧ w' cd 0 = 4000) := by
  rcases h with h | h
  · exact Or.inl ⟨h.1, h.2.1⟩
  · exact Or.inr ⟨h.1, by rw [h.2.1]; exact h.1⟩
theorem fr_e (f : e_fr (kEm cd) w w') (hc : isCd cd) : w' 1 1 = w 1 1 ∧ w' 1 9 = w 1 9 ∧ w' 1 6 = w 1 6 ∧ sm0 w w' cd := by
  unfold isCd at hc
  exact ⟨f _ _ (by unfold kEm; omega), f _ _ (by unfold kEm; omega), f _ _ (by unfold kEm; omega), f _ _ (by unfold kEm; omega), fun n => f _ _ (by unfold kEm; omega)⟩
theorem fr_p (f : e_fr (kPa cd) w w') (hc : isCd cd) : w' 1 1 = w 1 1 ∧ w' 1 9 = w 1 9 ∧ w' 1 6 = w 1 6 ∧ w' cd 0 = w cd 0 ∧ sm0 w w' cd := by
  unfold isCd at hc
  exact ⟨f _ _ (by unfold kPa; omega), f _ _ (by unfold kPa; omega), f _ _ (by unfold kPa; omega), f _ _ (by unfold kPa; omega), f _ _ (by unfold kPa; omega), fun n => f _ _ (by unfold kPa; omega)⟩
theorem zS.emit (hc : isCd cd) (h0 : 0 ≤ w cd 0) (f : e_fr (kEm cd) w w') (h : emQ w w' cd op od z) (ho : 0 ≤ op ∧ op ≤ 24) (hod : 0 ≤ od) (h2 : op = 2 → od ≤ 31) (he : (e = -1 ∧ op ≠ 12 ∧ op ≠ 13) ∨ (e = z ∧ (op = 12 ∨ op = 13))) : zS w w' cd 1 e := fun hn => by
  obtain ⟨f1, f2, f3, f4⟩ := fr_e f hc
  have n0 : nF w := ⟨by rw [← f1]; exact hn.1, by rw [← f2]; exact hn.2⟩
  rcases h with ⟨q1, q2, q3, q4, q5⟩ | ⟨q1, q2, q3⟩
  · refine ⟨n0, ⟨h0, by omega, by omega⟩, fun _ => ⟨by omega, f4, fun p g1 g2 => q5 p (by omega), fun p g1 g2 => ?_⟩⟩
    have e1 : p = w cd 0 := by omega
    rw [e1, q4]
    exact ⟨by omega, fun y => by omega, by omega, fun y => Or.inl (by omega)⟩
  · rw [q2]
    exact ⟨n0, ⟨h0, by omega, by omega⟩, fun hl => by omega⟩
theorem zS.patch (hc : isCd cd) (h : zS w v cd s e) (f : e_fr (kPa cd) v u) (q : paQ v u cd e x) (hx : x = v cd 0) : zS w u cd s (-1) := fun hn => by
  subst hx
  obtain ⟨f1, f2, f3, f4, f5⟩ := fr_p f hc
  obtain ⟨n0, ⟨b1, b6, b7⟩, b8⟩ := h ⟨by rw [← f1]; exact hn.1, by rw [← f2]; exact hn.2⟩
  refine ⟨n0, ⟨b1, by omega, by omega⟩, fun hl => ?_⟩
  obtain ⟨b2, b3, b4, b5⟩ := b8 (by omega)
  have ho : ∀ k, k ≠ e → u (cd + 2) k = v (cd + 2) k := fun k hk => by
    rcases q with q | q
    · exact q.2.2.2 k hk
    · rw [q.2]
  refine ⟨Or.inl rfl, b3.trans f5, fun p g1 g2 => (ho p (by omega)).trans (b4 p g1 g2), fun p g1 g2 => ?_⟩
  rw [f4] at g2 ⊢
  have k := b5 p g1 g2
  by_cases g : p = e
  · rcases q with q | q
    · have k2 := k.2.1 g
      have k1 := k.1
      rw [g] at k1 k2 ⊢
      rw [q.2.2.1]
      exact ⟨by omega, fun y => by omega, fun y => by omega, fun y => Or.inr (by omega)⟩
    · omega
  · rw [ho p g]
    exact ⟨k.1, fun y => by omega, k.2.2.1, fun y => by rcases k.2.2.2 y with z | z; exact absurd z g; exact Or.inr z⟩
/-- how many goals are collected at a place -/
def colR (r : Int → Int) : Nat → Int
  | 0 => 0
  | n + 1 => if r n % 64 = 26 then r n / 64 + 1 else if r n % 64 ≤ 24 ∨ r n % 64 = 50 then colR r n else 0
theorem colR_S (r : Int → Int) (n : Nat) : colR r (n + 1) = if r n % 64 = 26 then r n / 64 + 1 else if r n % 64 ≤ 24 ∨ r n % 64 = 50 then colR r n else 0 := rfl
theorem colR_eq2 {r r' : Int → Int} : ∀ (n : Nat), (∀ p : Int, 0 ≤ p → p < n → r' p = r p ∨ (r p % 64 ≠ 26 ∧ r' p % 64 = r p % 64)) → colR r' n = colR r n
  | 0, _ => rfl
  | n + 1, h => by
    have ih := colR_eq2 n (fun p g1 g2 => h p g1 (by omega))
    rw [colR_S, colR_S, ih]
    rcases h n (by omega) (by omega) with q | ⟨q1, q2⟩
    · rw [q]
    · rw [q2, if_neg q1, if_neg q1]
theorem colR_eq {r r' : Int → Int} (n : Nat) (h : ∀ p : Int, 0 ≤ p → p < n → r' p = r p ∨ (40 ≤ r p % 64 ∧ r' p % 64 = r p % 64)) : colR r' n = colR r n := colR_eq2 n (fun p g1 g2 => by
  rcases h p g1 g2 with q | q
  · exact Or.inl q
  · exact Or.inr ⟨by omega, q.2⟩)
def kcl (w : eW) (cd q : Int) : Int := colR (fun n => w (cd + 2) n) q.toNat
theorem kcl_S {q : Int} (h : 0 ≤ q) : kcl w cd (q + 1) = if w (cd + 2) q % 64 = 26 then w (cd + 2) q / 64 + 1 else if w (cd + 2) q % 64 ≤ 24 ∨ w (cd + 2) q % 64 = 50 then kcl w cd q else 0 := by
  unfold kcl
  rw [show (q + 1).toNat = q.toNat + 1 by omega, colR_S, show ((q.toNat : Nat) : Int) = q by omega]
theorem kcl_eq {q : Int} (h : ∀ p, 0 ≤ p → p < q → w' (cd + 2) p = w (cd + 2) p ∨ (40 ≤ w (cd + 2) p % 64 ∧ w' (cd + 2) p % 64 = w (cd + 2) p % 64)) : kcl w' cd q = kcl w cd q := colR_eq _ (fun p g1 g2 => h p g1 (by omega))
theorem kcl_run {a : Int} (h0 : 0 ≤ a) : ∀ (n : Nat), (∀ p, a ≤ p → p < a + n → w (cd + 2) p % 64 ≤ 24) → kcl w cd (a + n) = kcl w cd a
  | 0, _ => by rw [show a + ((0 : Nat) : Int) = a by omega]
  | n + 1, h => by
    rw [show a + ((n + 1 : Nat) : Int) = a + n + 1 by omega, kcl_S (by omega)]
    have q := h (a + n) (by omega) (by omega)
    rw [if_neg (by omega), if_pos (Or.inl q)]
    exact kcl_run h0 n (fun p g1 g2 => h p g1 (by omega))
theorem kcl_run' {a q : Int} (h0 : 0 ≤ a) (h1 : a ≤ q) (h : ∀ p, a ≤ p → p < q → w (cd + 2) p % 64 ≤ 24) : kcl w cd q = kcl w cd a := by
  have k := kcl_run (w := w) (cd := cd) h0 (q - a).toNat (fun p g1 g2 => h p g1 (by omega))
  rw [show a + ((q - a).toNat : Int) = q by omega] at k
  exact k
/-- what has been written stays, but for where jumps lead to -/
def stb (w w' : eW) (cd n : Int) : Prop := ∀ p, 0 ≤ p → p < n → w' (cd + 2) p = w (cd + 2) p ∨ (40 ≤ w (cd + 2) p % 64 ∧ w' (cd + 2) p % 64 = w (cd + 2) p % 64)
theorem stb.opq (h : stb w v cd n) (g1 : 0 ≤ p) (g2 : p < n) : v (cd + 2) p % 64 = w (cd + 2) p % 64 := by
  rcases h p g1 g2 with q | q
  · rw [q]
  · exact q.2
theorem stb.trans (h1 : stb w v cd n) (h2 : stb v u cd m) (hm : n ≤ m) : stb w u cd n := fun p g1 g2 => by
  have o1 := h1.opq g1 g2
  rcases h2 p g1 (by omega) with q | q
  · rw [q]; exact h1 p g1 g2
  · exact Or.inr ⟨by omega, by omega⟩
theorem stb.of (h : ∀ p, 0 ≤ p → p < n → w' (cd + 2) p = w (cd + 2) p) : stb w w' cd n := fun p g1 g2 => Or.inl (h p g1 g2)
/-- q may be gone to: an instruction from 40 on stands there, or nothing yet (only if b = 0) -/
def rfo (w : eW) (cd b q : Int) : Prop := (0 ≤ q ∧ q + b ≤ w cd 0) ∧ (q < w cd 0 → 40 ≤ w (cd + 2) q % 64)
theorem rfo.to (q : rfo w cd b x) (h01 : 0 ≤ b) (hL : w cd 0 ≤ w' cd 0) (hs : stb w w' cd (w cd 0)) (hb : w cd 0 + b' ≤ w' cd 0 + b) (hn : b = 0 → w cd 0 < w' cd 0 → 40 ≤ w' (cd + 2) (w cd 0) % 64) : rfo w' cd b' x := by
  refine ⟨⟨q.1.1, by have := q.1.2; omega⟩, fun g => ?_⟩
  by_cases c : x < w cd 0
  · rw [hs.opq q.1.1 c]; exact q.2 c
  · have q1 := q.1.2
    have e1 : x = w cd 0 := by omega
    rw [e1] at g ⊢
    exact hn (by omega) g
def rwO (w : eW) (cd b p v : Int) : Prop := (0 ≤ v ∧ v % 64 ≤ 50) ∧ (v % 64 = 2 ∨ v % 64 = 25 → v / 64 ≤ 31) ∧ (v % 64 = 40 ∨ v % 64 = 41 ∨ v % 64 = 49 → rfo w cd b (v / 64)) ∧ (v % 64 = 41 ∨ (45 ≤ v % 64 ∧ v % 64 ≠ 50) ∨ (25 ≤ v % 64 ∧ v % 64 ≤ 39 ∧ v % 64 ≠ 26) → rfo w cd b (p + 1)) ∧ (v % 64 = 46 → p + 3 < w cd 0 ∧ w (cd + 2) (p + 1) % 64 = 49 ∧ w (cd + 2) (p + 2) % 64 = 49 ∧ w (cd + 2) (p + 3) % 64 = 49) ∧ (v % 64 = 44 → v / 64 + 1 < w cd 0 ∧ w (cd + 2) (v / 64 + 1) % 64 = 49) ∧ (v % 64 = 12 ∨ v % 64 = 13 → v / 64 ≤ w cd 0 ∧ kcl w cd (v / 64) ≤ kcl w cd p) ∧ (v % 64 = 26 → v / 64 = kcl w cd p) ∧ (v % 64 = 27 → v / 64 ≤ kcl w cd p) ∧ (v % 64 = 29 → v / 64 ≤ w cd 0 ∧ kcl w cd (v / 64) ≤ 0) ∧ (40 ≤ v % 64 → kcl w cd p ≤ 0)
theorem rwO.to {v : Int} (q : rwO w cd b p v) (g : 0 ≤ p ∧ p < w cd 0) (h01 : 0 ≤ b) (hL : w cd 0 ≤ w' cd 0) (hs : stb w w' cd (w cd 0)) (hb : w cd 0 + b' ≤ w' cd 0 + b) (hn : b = 0 → w cd 0 < w' cd 0 → 40 ≤ w' (cd + 2) (w cd 0) % 64) : rwO w' cd b' p v := by
  obtain ⟨q1, q2, q3, q4, q5, q6, q7, q8, q9, qa, qb⟩ := q
  have kc : ∀ x, x ≤ w cd 0 → kcl w' cd x = kcl w cd x := fun x gx => kcl_eq (fun p g1 g2 => hs p g1 (by omega))
  refine ⟨q1, q2, fun h => (q3 h).to h01 hL hs hb hn, fun h => (q4 h).to h01 hL hs hb hn, fun h => ?_, fun h => ?_, fun h => ?_, fun h => ?_, fun h => ?_, fun h => ?_, fun h => ?_⟩
  · obtain ⟨a1, a2, a3, a4⟩ := q5 h
    exact ⟨by omega, by rw [hs.opq (by omega) (by omega)]; exact a2, by rw [hs.opq (by omega) (by omega)]; exact a3, by rw [hs.opq (by omega) (by omega)]; exact a4⟩
  · obtain ⟨a1, a2⟩ := q6 h
    exact ⟨by omega, by rw [hs.opq (by omega) (by omega)]; exact a2⟩
  · obtain ⟨a1, a2⟩ := q7 h
    exact ⟨by omega, by rw [kc _ a1, kc _ (by omega)]; exact a2⟩
  · rw [kc _ (by omega)]; exact q8 h
  · rw [kc _ (by omega)]; exact q9 h
  · obtain ⟨a1, a2⟩ := qa h
    exact ⟨by omega, by rw [kc _ a1]; exact a2⟩
  · rw [kc _ (by omega)]; exact qb h
/-- all that has been written is in order; b: 0 between statements, 1 inside one; c goals are collected -/
def zGI (w : eW) (cd b c : Int) : Prop := rfo w cd b 0 ∧ (∀ n, 0 ≤ n → n < 32 → n < w 1 14 → rfo w cd b (w (cd + 1) n)) ∧ kcl w cd (w cd 0) = c ∧ ∀ p, 0 ≤ p → p < w cd 0 → rwO w cd b p (w (cd + 2) p)
theorem zGI.ext (G : zGI w cd b c) (h01 : 0 ≤ b) (hL : w cd 0 ≤ w' cd 0) (hR : ∀ p, 0 ≤ p → p < w cd 0 → w' (cd + 2) p = w (cd + 2) p) (hs : sm0 w w' cd) (hb : w cd 0 + b' ≤ w' cd 0 + b) (hn : b = 0 → w cd 0 < w' cd 0 → 40 ≤ w' (cd + 2) (w cd 0) % 64) (hc : kcl w' cd (w' cd 0) = c') (hnew : ∀ p, w cd 0 ≤ p → p < w' cd 0 → rwO w' cd b' p (w' (cd + 2) p)) : zGI w' cd b' c' := by
  obtain ⟨q1, q2, q3, q4⟩ := G
  have st : stb w w' cd (w cd 0) := stb.of hR
  refine ⟨q1.to h01 hL st hb hn, fun n g1 g2 g3 => ?_, hc, fun p g1 g2 => ?_⟩
  · rw [hs.2 n]; rw [hs.1] at g3
    exact (q2 n g1 g2 g3).to h01 hL st hb hn
  · by_cases g : p < w cd 0
    · rw [hR p g1 g]
      exact (q4 p g1 g).to ⟨g1, g⟩ h01 hL st hb hn
    · exact hnew p (by omega) g2
theorem zGI.ex (G : zGI w cd 1 c) (hb : xG w w' cd s) (h : xB w w' cd (-1)) : zGI w' cd 1 c := by
  obtain ⟨b2, b3, b4, b5⟩ := h
  obtain ⟨b1, b6, b7⟩ := hb
  have k0 : kcl w' cd (w cd 0) = c := (kcl_eq (fun p g1 g2 => Or.inl (b4 p g1 g2))).trans G.2.2.1
  have kq : ∀ q, w cd 0 ≤ q → q ≤ w' cd 0 → kcl w' cd q = c := fun q g1 g2 => (kcl_run' (by omega) g1 (fun p h1 h2 => (b5 p h1 (by omega)).1.2)).trans k0
  refine G.ext (by omega) (by omega) b4 b3 (by omega) (fun h => by omega) (kq _ (by omega) (by omega)) (fun p g1 g2 => ?_)
  obtain ⟨x1, x2, x3, x4⟩ := b5 p g1 g2
  generalize w' (cd + 2) p = v at x1 x2 x3 x4
  refine ⟨⟨x1.1, by omega⟩, fun y => x3 (by omega), fun y => by omega, fun y => by omega, fun y => by omega, fun y => by omega, fun y => ?_, fun y => by omega, fun y => by omega, fun y => by omega, fun y => by omega⟩
  rcases x4 y with z | z
  · omega
  · rw [kq _ z.1 z.2, kq _ g1 (by omega)]
    exact ⟨z.2, Int.le_refl _⟩
theorem zGI.em {v : Int} (G : zGI w cd b c) (h0 : 0 ≤ w cd 0) (h01 : 0 ≤ b) (hL : w' cd 0 = w cd 0 + 1) (hv : w' (cd + 2) (w cd 0) = v) (hR : ∀ k, k ≠ w cd 0 → w' (cd + 2) k = w (cd + 2) k) (hs : sm0 w w' cd) (hb : b' ≤ b + 1) (hop : b = 0 → 40 ≤ v % 64) (hc : (if v % 64 = 26 then v / 64 + 1 else if v % 64 ≤ 24 ∨ v % 64 = 50 then c else 0) = c') (hrow : kcl w' cd (w cd 0) = c → rwO w' cd b' (w cd 0) v) : zGI w' cd b' c' := by
  have k0 : kcl w' cd (w cd 0) = c := (kcl_eq (fun p g1 g2 => Or.inl (hR p (by omega)))).trans G.2.2.1
  refine G.ext h01 (by omega) (fun p g1 g2 => hR p (by omega)) hs (by omega) (fun g1 _ => by rw [hv]; exact hop g1) ?_ (fun p g1 g2 => ?_)
  · rw [hL, kcl_S h0, hv, k0]; exact hc
  · have e1 : p = w cd 0 := by omega
    rw [e1, hv]
    exact hrow k0
/-- a step of statements -/
def gB (w w' : eW) (cd b c b' c' : Int) : Prop := stb w w' cd (w cd 0) ∧ (zGI w cd b c → zGI w' cd b' c')
def gS (w w' : eW) (cd s b c b' c' : Int) : Prop := nF w' → nF w ∧ xG w w' cd s ∧ (w' cd 0 < 4000 → gB w w' cd b c b' c')
theorem gS.trans (h1 : gS w v cd s1 b c b1 c1) (h2 : gS v u cd s2 b1 c1 b' c') (hs : s1 + s2 ≤ s) : gS w u cd s b c b' c' := fun hn => by
  obtain ⟨n1, a1, a2⟩ := h2 hn
  obtain ⟨n0, d1, d2⟩ := h1 n1
  refine ⟨n0, d1.trans a1 hs, fun hl => ?_⟩
  obtain ⟨a1, a6, a7⟩ := a1
  obtain ⟨a2, a3⟩ := a2 hl
  obtain ⟨d2, d3⟩ := d2 (by omega)
  exact ⟨d2.trans a2 d1.2.1, fun G => a3 (d3 G)⟩
theorem gS.refl (h : 0 ≤ w cd 0) : gS w w cd 0 b c b c := fun hn => ⟨hn, ⟨h, by omega, by omega⟩, fun _ => ⟨fun _ _ _ => Or.inl rfl, fun G => G⟩⟩
theorem gS.dead (h : ¬ nF w') : gS w w' cd s b c b' c' := fun hn => absurd hn h
theorem gS.le (h : gS w v cd s1 b c b' c') (hs : s1 ≤ s) : gS w v cd s b c b' c' := fun hn => by
  obtain ⟨n0, ⟨b1, b2, b3⟩, b4⟩ := h hn
  exact ⟨n0, ⟨b1, b2, by omega⟩, b4⟩
theorem gS.ex (h : zS w w' cd s (-1)) : gS w w' cd s 1 c 1 c := fun hn => by
  obtain ⟨n0, q, q2⟩ := h hn
  exact ⟨n0, q, fun hl => ⟨stb.of (q2 hl).2.2.1, fun G => G.ex q (q2 hl)⟩⟩
theorem gS.tok (h0 : 0 ≤ w cd 0) (h01 : 0 ≤ b) (hL : w' cd 0 = w cd 0) (hs : sm0 w w' cd) (hR : ∀ p, w' (cd + 2) p = w (cd + 2) p) (hn : nF w' → nF w ∧ w 1 6 + m ≤ w' 1 6) : gS w w' cd (-m) b c b c := fun h => by
  obtain ⟨n0, g⟩ := hn h
  refine ⟨n0, ⟨h0, by omega, by omega⟩, fun _ => ⟨stb.of (fun p _ _ => hR p), fun G => G.ext h01 (by omega) (fun p _ _ => hR p) hs (by omega) (fun _ g => by omega) ?_ (fun p g1 g2 => by omega)⟩⟩
  rw [hL]
  exact (kcl_eq (fun p _ _ => Or.inl (hR p))).trans G.2.2.1
theorem gS.adv (hc : isCd cd) (h0 : 0 ≤ w cd 0) (h01 : 0 ≤ b) (f : e_fr kRa w w') (h : w 1 7 ≤ w' 1 6) (hm : w 1 6 + m ≤ w 1 7) : gS w w' cd (-m) b c b c := by
  obtain ⟨q1, q2, q3⟩ := fr_k f (fun c k g => by unfold kRa at g; omega) hc
  exact gS.tok h0 h01 q1 q2 q3 (fun n => ⟨⟨by rw [← f 1 1 (by unfold kRa; omega)]; exact n.1, by rw [← f 1 9 (by unfold kRa; omega)]; exact n.2⟩, by omega⟩)
theorem gS.acc (hc : isCd cd) (h0 : 0 ≤ w cd 0) (h01 : 0 ≤ b) (f : e_fr kRk w w') (h : nF w' → nF w ∧ w 1 5 = x ∧ w 1 7 ≤ w' 1 6) (hm : w 1 5 = x → w 1 6 + m ≤ w 1 7) : gS w w' cd (-m) b c b c := by
  obtain ⟨q1, q2, q3⟩ := fr_k f (fun c k g => by unfold kRk at g; omega) hc
  exact gS.tok h0 h01 q1 q2 q3 (fun n => by obtain ⟨a, b, c⟩ := h n; have := hm b; exact ⟨a, by omega⟩)
theorem gS.wr (hc : isCd cd) (h0 : 0 ≤ w cd 0) (h01 : 0 ≤ b) (f : e_fr (fun c k => c = 1 ∧ 11 ≤ k ∧ k ≤ 13) w w') : gS w w' cd 0 b c b c := by
  obtain ⟨q1, q2, q3⟩ := fr_k f (fun c k g => by omega) hc
  exact gS.tok (m := 0) h0 h01 q1 q2 q3 (fun n => ⟨⟨by rw [← f 1 1 (by omega)]; exact n.1, by rw [← f 1 9 (by omega)]; exact n.2⟩, by rw [f 1 6 (by omega)]; omega⟩)
theorem gS.cmp (hc : isCd cd) (h0 : 0 ≤ w cd 0) (h01 : 0 ≤ b) (f : e_fr kRc w w') (h : nF w' → nF w) : gS w w' cd 0 b c b c := by
  obtain ⟨q1, q2, q3⟩ := fr_k f (fun c k g => by unfold kRc at g; omega) hc
  exact gS.tok (m := 0) h0 h01 q1 q2 q3 (fun n => ⟨h n, by rw [f 1 6 (by unfold kRc; omega)]; omega⟩)
/-- an instruction is written: all that its place asks -/
theorem gS.em (hc : isCd cd) (h0 : 0 ≤ w cd 0) (h01 : 0 ≤ b) (f : e_fr (kEm cd) w w') (h : emQ w w' cd op od z) (hb : b' ≤ b + 1) (ho : 0 ≤ op ∧ op ≤ 50) (hop : b = 0 → 40 ≤ op) (hcc : (if op = 26 then od + 1 else if op ≤ 24 ∨ op = 50 then c else 0) = c') (hrow : nF w → w cd 0 < 4000 → w' cd 0 = w cd 0 + 1 → w' (cd + 2) (w cd 0) = 64 * od + op → (∀ k, k ≠ w cd 0 → w' (cd + 2) k = w (cd + 2) k) → zGI w cd b c → kcl w' cd (w cd 0) = c → rwO w' cd b' (w cd 0) (64 * od + op)) : gS w w' cd 1 b c b' c' := fun hn => by
  obtain ⟨f1, f2, f3, f4⟩ := fr_e f hc
  have n0 : nF w := ⟨by rw [← f1]; exact hn.1, by rw [← f2]; exact hn.2⟩
  rcases h with ⟨q1, q2, q3, q4, q5⟩ | ⟨q1, q2, q3⟩
  · refine ⟨n0, ⟨h0, by omega, by omega⟩, fun _ => ⟨stb.of (fun p g1 g2 => q5 p (by omega)), fun G => ?_⟩⟩
    have e1 : (64 * od + op) % 64 = op := by omega
    have e2 : (64 * od + op) / 64 = od := by omega
    exact G.em h0 h01 q2 q4 q5 f4 hb (by rw [e1]; exact hop) (by rw [e1, e2]; exact hcc) (hrow n0 q1 q2 q4 q5 G)
  · rw [q2]
    exact ⟨n0, ⟨h0, by omega, by omega⟩, fun hl => by omega⟩
theorem rwO.big (ho : 40 ≤ op ∧ op ≤ 50 ∧ op ≠ 46) (hod : 0 ≤ od) (hk : kcl w cd p ≤ 0) (h4 : op = 40 ∨ op = 41 ∨ op = 49 → rfo w cd b od) (h5 : op = 41 ∨ (45 ≤ op ∧ op ≠ 50) → rfo w cd b (p + 1)) (h6 : op = 44 → od + 1 < w cd 0 ∧ w (cd + 2) (od + 1) % 64 = 49) : rwO w cd b p (64 * od + op) := by
  have e1 : (64 * od + op) % 64 = op := by omega
  have e2 : (64 * od + op) / 64 = od := by omega
  unfold rwO
  rw [e1, e2]
  exact ⟨by omega, fun y => by omega, h4, fun y => h5 (by omega), fun y => by omega, h6, fun y => by omega, fun y => by omega, fun y => by omega, fun y => by omega, fun _ => hk⟩
theorem gS.beg (hc : isCd cd) (h0 : 0 ≤ w cd 0) (f : e_fr (kEm cd) w w') (h : emQ w w' cd 50 0 z) : gS w w' cd 1 0 0 1 0 :=
  gS.em hc h0 (by omega) f h (by omega) (by omega) (fun _ => by omega) rfl (fun _ _ _ _ _ _ hk => rwO.big (by omega) (by omega) (by omega) (fun y => by omega) (fun y => by omega) (fun y => by omega))
theorem gS.big (hc : isCd cd) (h0 : 0 ≤ w cd 0) (h01 : 0 ≤ b) (f : e_fr (kEm cd) w w') (h : emQ w w' cd op od z) (ho : 40 ≤ op ∧ op ≤ 49 ∧ op ≠ 46) (hd : 0 ≤ od) (h4 : op = 40 ∨ op = 41 ∨ op = 49 → od = 0 ∨ (nF w → w cd 0 < 4000 → od < w cd 0 ∧ 40 ≤ w (cd + 2) od % 64)) (h6 : op = 44 → nF w → w cd 0 < 4000 → od + 1 < w cd 0 ∧ w (cd + 2) (od + 1) % 64 = 49) : gS w w' cd 1 b 0 0 0 := by
  refine gS.em hc h0 h01 f h (by omega) (by omega) (fun _ => by omega) (by rw [if_neg (by omega), if_neg (by omega)]) (fun n0 hl hL hv hR G hk => rwO.big (by omega) hd (by omega) (fun y => ?_) (fun y => ⟨by omega, fun g => by omega⟩) (fun y => ?_))
  · rcases h4 y with g | g
    · subst g
      refine ⟨by omega, fun g => ?_⟩
      by_cases g2 : w cd 0 = 0
      · have e : w' (cd + 2) 0 = 64 * 0 + op := by rw [← hv, g2]
        rw [e]; omega
      · rw [hR 0 (by omega)]
        exact G.1.2 (by omega)
    · obtain ⟨g1, g2⟩ := g n0 hl
      exact ⟨by omega, fun _ => by rw [hR _ (by omega)]; exact g2⟩
  · obtain ⟨g1, g2⟩ := h6 y n0 hl
    exact ⟨by omega, by rw [hR _ (by omega)]; exact g2⟩
theorem rwO.act (ho : 25 ≤ op ∧ op ≤ 39 ∧ op ≠ 26) (hod : 0 ≤ od) (h1 : op = 25 → od ≤ 31) (h2 : rfo w cd b (p + 1)) (h3 : op = 27 → od ≤ kcl w cd p) (h4 : op = 29 → od ≤ w cd 0 ∧ kcl w cd od ≤ 0) : rwO w cd b p (64 * od + op) := by
  have e1 : (64 * od + op) % 64 = op := by omega
  have e2 : (64 * od + op) / 64 = od := by omega
  unfold rwO
  rw [e1, e2]
  exact ⟨by omega, fun y => h1 (by omega), fun y => by omega, fun _ => h2, fun y => by omega, fun y => by omega, fun y => by omega, fun y => by omega, h3, h4, fun y => by omega⟩
theorem gS.act (hc : isCd cd) (h0 : 0 ≤ w cd 0) (f : e_fr (kEm cd) w w') (h : emQ w w' cd op od z) (ho : 25 ≤ op ∧ op ≤ 39 ∧ op ≠ 26 ∧ op ≠ 29) (hd : 0 ≤ od) (h1 : op = 25 → od ≤ 31) (h3 : op = 27 → od ≤ c) : gS w w' cd 1 1 c 0 0 :=
  gS.em hc h0 (by omega) f h (by omega) (by omega) (fun y => by omega) (by rw [if_neg (by omega), if_neg (by omega)]) (fun n0 _ hL _ hR G hk => rwO.act (by omega) hd h1 ⟨by omega, fun g => by omega⟩ (fun y => by rw [hk]; exact h3 y) (fun y => by omega))
/-- an expression and what is done with it: the place of the expression is told too -/
theorem gS.wn (hc : isCd cd) (hx : zS w v cd s (-1)) (f : e_fr (kEm cd) v u) (h : emQ v u cd op x z) (hxe : x = w cd 0) (ho : 25 ≤ op ∧ op ≤ 39 ∧ op ≠ 26 ∧ op ≠ 25 ∧ op ≠ 27) (h0v : 0 ≤ v cd 0) : gS w u cd (s + 1) 1 0 0 0 := fun hn => by
  obtain ⟨f1, f2, f3, f4⟩ := fr_e f hc
  have nv : nF v := ⟨by rw [← f1]; exact hn.1, by rw [← f2]; exact hn.2⟩
  obtain ⟨n0, hb, q⟩ := hx nv
  have hb1 := hb.1
  have hb2 := hb.2.1
  have k : gS v u cd 1 1 0 0 0 := gS.em hc h0v (by omega) f h (by omega) (by omega) (fun y => by omega) (by rw [if_neg (by omega), if_neg (by omega)]) (fun _ hl hL _ hR G hk => rwO.act (by omega) (by omega) (fun y => by omega) ⟨by omega, fun g => by omega⟩ (fun y => by omega) (fun y => ⟨by omega, by
    have e0 : kcl u cd x = kcl v cd x := kcl_eq (fun p g1 g2 => Or.inl (hR p (by omega)))
    have e1 : kcl v cd (v cd 0) = kcl v cd x := by
      rw [hxe]
      exact kcl_run' hb1 hb2 (fun p h1 h2 => ((q hl).2.2.2 p h1 h2).1.2)
    rw [e0, ← e1, G.2.2.1]
    omega⟩))
  exact (gS.trans (gS.ex hx) k (Int.le_refl _)) hn
theorem gS.col (hc : isCd cd) (h0 : 0 ≤ w cd 0) (f : e_fr (kEm cd) w w') (h : emQ w w' cd 26 c z) (hc0 : 0 ≤ c) : gS w w' cd 1 1 c 1 (c + 1) :=
  gS.em hc h0 (by omega) f h (by omega) (by omega) (fun y => by omega) rfl (fun n0 _ hL _ hR G hk => by
    have e1 : (64 * c + 26) % 64 = 26 := by omega
    have e2 : (64 * c + 26) / 64 = c := by omega
    unfold rwO
    rw [e1, e2]
    exact ⟨by omega, fun y => by omega, fun y => by omega, fun y => by omega, fun y => by omega, fun y => by omega, fun y => by omega, fun _ => hk.symm, fun y => by omega, fun y => by omega, fun y => by omega⟩)
/-- a try and its three places -/
theorem gS.try {a1 a2 a3 a4 : eW} {z1 z2 z3 z4 : Int} (hc : isCd cd) (h0 : 0 ≤ w cd 0) (h01 : 0 ≤ b) (f1 : e_fr (kEm cd) w a1) (f2 : e_fr (kEm cd) a1 a2) (f3 : e_fr (kEm cd) a2 a3) (f4 : e_fr (kEm cd) a3 a4) (q1 : emQ w a1 cd 46 0 z1) (q2 : emQ a1 a2 cd 49 0 z2) (q3 : emQ a2 a3 cd 49 0 z3) (q4 : emQ a3 a4 cd 49 0 z4) : gS w a4 cd 4 b 0 0 0 := fun hn => by
  obtain ⟨k1, k2, k3, k4⟩ := fr_e f1 hc
  obtain ⟨l1, l2, l3, l4⟩ := fr_e f2 hc
  obtain ⟨m1, m2, m3, m4⟩ := fr_e f3 hc
  obtain ⟨p1, p2, p3, p4⟩ := fr_e f4 hc
  have n0 : nF w := ⟨by rw [← k1, ← l1, ← m1, ← p1]; exact hn.1, by rw [← k2, ← l2, ← m2, ← p2]; exact hn.2⟩
  have t1 := q1.ln
  have t2 := q2.ln
  have t3 := q3.ln
  have t4 := q4.ln
  have hg : xG w a4 cd 4 := ⟨h0, by omega, by omega⟩
  refine ⟨n0, hg, fun hl => ?_⟩
  rcases q1 with ⟨a0, b0, c0, d0, g0⟩ | ⟨a0, b0, c0⟩
  rotate_left
  · omega
  rcases q2 with ⟨a5, b5, c5, d5, g5⟩ | ⟨a5, b5, c5⟩
  rotate_left
  · omega
  rcases q3 with ⟨a6, b6, c6, d6, g6⟩ | ⟨a6, b6, c6⟩
  rotate_left
  · omega
  rcases q4 with ⟨a7, b7, c7, d7, g7⟩ | ⟨a7, b7, c7⟩
  rotate_left
  · omega
  have r0 : a4 (cd + 2) (w cd 0) = 46 := by rw [g7 _ (by omega), g6 _ (by omega), g5 _ (by omega), d0]; rfl
  have r1 : a4 (cd + 2) (w cd 0 + 1) = 49 := by rw [g7 _ (by omega), g6 _ (by omega), ← b0, d5]; rfl
  have r2 : a4 (cd + 2) (w cd 0 + 2) = 49 := by rw [g7 _ (by omega), show w cd 0 + 2 = a2 cd 0 by omega, d6]; rfl
  have r3 : a4 (cd + 2) (w cd 0 + 3) = 49 := by rw [show w cd 0 + 3 = a3 cd 0 by omega, d7]; rfl
  have hL : a4 cd 0 = w cd 0 + 4 := by omega
  have hR : ∀ p, 0 ≤ p → p < w cd 0 → a4 (cd + 2) p = w (cd + 2) p := fun p _ g2 => by rw [g7 _ (by omega), g6 _ (by omega), g5 _ (by omega), g0 _ (by omega)]
  refine ⟨stb.of hR, fun G => ?_⟩
  have k0 : kcl a4 cd (w cd 0) = 0 := (kcl_eq (fun p g1 g2 => Or.inl (hR p g1 g2))).trans G.2.2.1
  have kS : ∀ q, 0 ≤ q → a4 (cd + 2) q = 46 ∨ a4 (cd + 2) q = 49 → kcl a4 cd (q + 1) = 0 := fun q g1 g2 => by
    rw [kcl_S g1]
    rcases g2 with g | g
    all_goals rw [g]; rfl
  have e1 := kS (w cd 0) h0 (Or.inl r0)
  have e2 := kS (w cd 0 + 1) (by omega) (Or.inr r1)
  have e3 := kS (w cd 0 + 2) (by omega) (Or.inr r2)
  have e4 := kS (w cd 0 + 3) (by omega) (Or.inr r3)
  rw [show w cd 0 + 1 + 1 = w cd 0 + 2 by omega] at e2
  rw [show w cd 0 + 2 + 1 = w cd 0 + 3 by omega] at e3
  rw [show w cd 0 + 3 + 1 = w cd 0 + 4 by omega] at e4
  have rf0 : rfo a4 cd 0 0 := by
    refine ⟨by omega, fun _ => ?_⟩
    by_cases g : w cd 0 = 0
    · rw [show a4 (cd + 2) 0 = 46 by rw [← g]; exact r0]; omega
    · rw [hR 0 (by omega) (by omega)]
      exact G.1.2 (by omega)
  refine G.ext h01 (by omega) hR (k4.trans (l4.trans (m4.trans p4))) (by omega) (fun _ _ => by rw [r0]; omega) (by rw [hL]; exact e4) (fun p g1 g2 => ?_)
  obtain rfl | rfl | rfl | rfl : p = w cd 0 ∨ p = w cd 0 + 1 ∨ p = w cd 0 + 2 ∨ p = w cd 0 + 3 := by omega
  · rw [r0]
    exact ⟨by omega, fun y => by omega, fun y => by omega, fun _ => ⟨by omega, fun _ => by rw [r1]; omega⟩, fun _ => ⟨by omega, by rw [r1]; rfl, by rw [r2]; rfl, by rw [r3]; rfl⟩, fun y => by omega, fun y => by omega, fun y => by omega, fun y => by omega, fun y => by omega, fun _ => by omega⟩
  · rw [r1]
    exact ⟨by omega, fun y => by omega, fun _ => rf0, fun _ => ⟨by omega, fun _ => by rw [show w cd 0 + 1 + 1 = w cd 0 + 2 by omega, r2]; omega⟩, fun y => by omega, fun y => by omega, fun y => by omega, fun y => by omega, fun y => by omega, fun y => by omega, fun _ => by omega⟩
  · rw [r2]
    exact ⟨by omega, fun y => by omega, fun _ => rf0, fun _ => ⟨by omega, fun _ => by rw [show w cd 0 + 2 + 1 = w cd 0 + 3 by omega, r3]; omega⟩, fun y => by omega, fun y => by omega, fun y => by omega, fun y => by omega, fun y => by omega, fun y => by omega, fun _ => by omega⟩
  · rw [r3]
    exact ⟨by omega, fun y => by omega, fun _ => rf0, fun _ => ⟨by omega, fun y => by omega⟩, fun y => by omega, fun y => by omega, fun y => by omega, fun y => by omega, fun y => by omega, fun y => by omega, fun _ => by omega⟩
/-- a place and what stands there -/
def zpl (w : eW) (cd z op : Int) : Prop := nF w → w cd 0 < 4000 → 0 ≤ z ∧ z < w cd 0 ∧ w (cd + 2) z % 64 = op
theorem zpl.step (h : zpl w cd z op) (g : gS w v cd s b c b' c') : zpl v cd z op := fun hn hl => by
  obtain ⟨n0, b1, b2⟩ := g hn
  have b3 := b1.2.1
  obtain ⟨a1, a2, a3⟩ := h n0 (by omega)
  exact ⟨a1, by omega, by rw [(b2 hl).1.opq a1 a2]; exact a3⟩
theorem zpl.em (hc : isCd cd) (h0 : 0 ≤ w cd 0) (f : e_fr (kEm cd) w w') (h : emQ w w' cd op od z) (ho : 0 ≤ op ∧ op ≤ 50) : zpl w' cd z op := fun hn hl => by
  rcases h with ⟨q1, q2, q3, q4, q5⟩ | ⟨q1, q2, q3⟩
  · exact ⟨by omega, by omega, by rw [q3, q4]; omega⟩
  · rw [q2] at hl; omega
/-- the place behind one -/
theorem zpl.nx {a1 a2 : eW} {z2 op1 od1 : Int} (h0 : 0 ≤ w cd 0) (q1 : emQ w a1 cd op1 od1 z) (he : a2 cd 0 = a1 cd 0) (q2 : emQ a2 w' cd op od z2) (ho : 0 ≤ op ∧ op ≤ 50) : zpl w' cd (z + 1) op := fun hn hl => by
  rcases q2 with ⟨r1, r2, r3, r4, r5⟩ | ⟨r1, r2, r3⟩
  · rcases q1 with ⟨p1, p2, p3, p4, p5⟩ | ⟨p1, p2, p3⟩
    · exact ⟨by omega, by omega, by rw [show z + 1 = a2 cd 0 by omega, r4]; omega⟩
    · rw [p2] at he; omega
  · rw [r2] at hl; omega
theorem zpl.try {a1 a2 a3 a4 : eW} {z1 z2 z3 z4 : Int} (h0 : 0 ≤ w cd 0) (q1 : emQ w a1 cd 46 0 z1) (q2 : emQ a1 a2 cd 49 0 z2) (q3 : emQ a2 a3 cd 49 0 z3) (q4 : emQ a3 a4 cd 49 0 z4) : zpl a4 cd (z1 + 1) 49 ∧ zpl a4 cd (z1 + 2) 49 ∧ zpl a4 cd (z1 + 3) 49 := by
  have key : a4 cd 0 < 4000 → z1 = w cd 0 ∧ a4 cd 0 = w cd 0 + 4 ∧ a4 (cd + 2) (w cd 0 + 1) = 49 ∧ a4 (cd + 2) (w cd 0 + 2) = 49 ∧ a4 (cd + 2) (w cd 0 + 3) = 49 := fun hl => by
    have t1 := q1.ln
    have t2 := q2.ln
    have t3 := q3.ln
    have t4 := q4.ln
    rcases q1 with ⟨a0, b0, c0, d0, g0⟩ | ⟨a0, b0, c0⟩
    rotate_left
    · omega
    rcases q2 with ⟨a5, b5, c5, d5, g5⟩ | ⟨a5, b5, c5⟩
    rotate_left
    · omega
    rcases q3 with ⟨a6, b6, c6, d6, g6⟩ | ⟨a6, b6, c6⟩
    rotate_left
    · omega
    rcases q4 with ⟨a7, b7, c7, d7, g7⟩ | ⟨a7, b7, c7⟩
    rotate_left
    · omega
    exact ⟨c0, by omega, by rw [g7 _ (by omega), g6 _ (by omega), ← b0, d5]; rfl, by rw [g7 _ (by omega), show w cd 0 + 2 = a2 cd 0 by omega, d6]; rfl, by rw [show w cd 0 + 3 = a3 cd 0 by omega, d7]; rfl⟩
  refine ⟨fun hn hl => ?_, fun hn hl => ?_, fun hn hl => ?_⟩
  all_goals
    obtain ⟨e1, e2, e3, e4, e5⟩ := key hl
    refine ⟨by omega, by omega, ?_⟩
    rw [e1]
  · rw [e3]; rfl
  · rw [e4]; rfl
  · rw [e5]; rfl
/-- where a jump leads to is told: to here -/
theorem gS.pat (hc : isCd cd) (h0 : 0 ≤ w cd 0) (f : e_fr (kPa cd) w w') (q : paQ w w' cd e x) (hx : x = w cd 0) (hp : zpl w cd e op) (ho : op = 40 ∨ op = 41 ∨ op = 49) : gS w w' cd 0 0 0 0 0 := fun hn => by
  subst hx
  obtain ⟨f1, f2, f3, f4, f5⟩ := fr_p f hc
  have n0 : nF w := ⟨by rw [← f1]; exact hn.1, by rw [← f2]; exact hn.2⟩
  refine ⟨n0, ⟨h0, by omega, by omega⟩, fun hl => ?_⟩
  obtain ⟨a1, a2, a3⟩ := hp n0 (by omega)
  rcases q with ⟨q1, q2, q3, q4⟩ | ⟨q1, q2⟩
  · have st : stb w w' cd (w cd 0) := fun p g1 g2 => by
      by_cases g : p = e
      · rw [g, q3]; exact Or.inr ⟨by omega, by omega⟩
      · exact Or.inl (q4 p g)
    refine ⟨st, fun G => ?_⟩
    obtain ⟨g1, g2, g3, g4⟩ := G
    have hn' : (0 : Int) = 0 → w cd 0 < w' cd 0 → 40 ≤ w' (cd + 2) (w cd 0) % 64 := fun _ g => by omega
    refine ⟨g1.to (by omega) (by omega) st (by omega) hn', fun n k1 k2 k3 => ?_, ?_, fun p k1 k2 => ?_⟩
    · rw [f5.2 n]; rw [f5.1] at k3
      exact (g2 n k1 k2 k3).to (by omega) (by omega) st (by omega) hn'
    · rw [f4]; exact (kcl_eq st).trans g3
    · rw [f4] at k2
      have old := (g4 p k1 k2).to (w' := w') (b' := 0) ⟨k1, k2⟩ (by omega) (by omega) st (by omega) hn'
      by_cases g : p = e
      · rw [g] at old ⊢
        have h50 := old.1.2
        have hk : kcl w' cd e ≤ 0 := old.2.2.2.2.2.2.2.2.2.2 (by omega)
        have hr : op = 41 ∨ (45 ≤ op ∧ op ≠ 50) → rfo w' cd 0 (e + 1) := fun y => old.2.2.2.1 (by omega)
        clear old
        rw [q3, a3]
        exact rwO.big (by omega) (by omega) hk (fun _ => ⟨by omega, fun y => by omega⟩) hr (fun y => by omega)
      · rw [q4 p g]; exact old
  · omega
end RD
end
