-- part dk
section
noncomputable section
/-! the class's reader: what it has written so far -/
def kRb : List (Int × Int) := [(0, 4000), (-2147483648, 2147483647), (-2147483648, 2147483647), (1, 0), (1, 0), (0, 53), (0, 4000), (0, 4000), (-2147483648, 2147483647), (-2147483648, 2147483647), (-2147483648, 2147483647), (0, 30), (0, 30), (-1, 4000), (0, 500), (1, 0), (1, 0)]
def kRy (c k : Int) : Int × Int := if c = 1 then (if k < 0 then (1, 0) else x_nthP kRb k.toNat) else if 5 ≤ c ∧ c ≤ 7 then (-2147483648, 2147483647) else (1, 0)
theorem kRy_rg {c k : Int} (h : (kRy c k).1 ≤ (kRy c k).2) : c = 1 ∨ (5 ≤ c ∧ c ≤ 7) := by
  unfold kRy at h
  by_cases g : c = 1
  · exact Or.inl g
  · by_cases g2 : 5 ≤ c ∧ c ≤ 7
    · exact Or.inr g2
    · rw [if_neg g, if_neg g2] at h
      exact absurd h (by decide)
theorem kRy_D {c k : Int} (h : 2 ≤ c) (h2 : c < 5 ∨ 7 < c) : kRy c k = (1, 0) := by
  unfold kRy
  rw [if_neg (by omega), if_neg (by omega)]
def kRa (c k : Int) : Prop := c = 1 ∧ 5 ≤ k ∧ k ≤ 8
def kRk (c k : Int) : Prop := c = 1 ∧ (k = 1 ∨ k = 2 ∨ (5 ≤ k ∧ k ≤ 8))
def kRc (c k : Int) : Prop := c = 1 ∧ (k = 9 ∨ k = 10)
def kEm (cd c k : Int) : Prop := (c = cd ∧ k = 0) ∨ c = cd + 2
def kPa (cd c _k : Int) : Prop := c = cd + 2
def kRx (cd c k : Int) : Prop := (c = 1 ∧ (k = 1 ∨ k = 2 ∨ (5 ≤ k ∧ k ≤ 11))) ∨ (c = cd ∧ k = 0) ∨ c = cd + 2
def kRt (cd c k : Int) : Prop := (c = 1 ∧ (k = 1 ∨ k = 2 ∨ (5 ≤ k ∧ k ≤ 13))) ∨ (c = cd ∧ k = 0) ∨ c = cd + 2
/-- no fault as yet -/
def nF (w : eW) : Prop := w 1 1 = 0 ∧ w 1 9 = 0
/-- the token -/
def tkR (w : eW) : Prop := (w 1 6 ≤ w 1 7 ∧ w 1 7 ≤ w 1 0) ∧ (w 1 5 ≠ 0 → w 1 5 ≠ 4 → w 1 6 + 1 ≤ w 1 7) ∧ (21 ≤ w 1 5 → w 1 6 + 2 ≤ w 1 7) ∧ (w 1 5 = 23 ∨ w 1 5 = 41 ∨ w 1 5 = 42 → w 1 6 + 3 ≤ w 1 7) ∧ (w 1 5 = 2 → 0 ≤ w 1 8 ∧ (10 ≤ w 1 8 → w 1 6 + 2 ≤ w 1 7))
theorem H_fr {S : Int → Int → Prop} {w w' : eW} (f : e_fr S w w') (hS : ∀ c k, S c k → c ≠ 1 ∧ (c < 5 ∨ 7 < c)) (h : e_Has kRy w) : e_Has kRy w' := fun c k hl => by
  have g := kRy_rg hl
  rw [f c k (fun q => by have := hS c k q; omega)]
  exact h c k hl
section RD
variable {w v u w' : eW} {cd s s1 s2 e e1 e2 op od z m j b c b' c' b1 c1 x p n : Int}
theorem tkR.a0 (h : tkR w) : w 1 6 + 0 ≤ w 1 7 := by have := h.1; omega
theorem tkR.a1 (h : tkR w) (g : w 1 5 ≠ 0 ∧ w 1 5 ≠ 4) : w 1 6 + 1 ≤ w 1 7 := h.2.1 g.1 g.2
theorem tkR.a2 (h : tkR w) (g : 21 ≤ w 1 5) : w 1 6 + 2 ≤ w 1 7 := h.2.2.1 g
theorem tkR.a3 (h : tkR w) (g : w 1 5 = 23 ∨ w 1 5 = 41 ∨ w 1 5 = 42) : w 1 6 + 3 ≤ w 1 7 := h.2.2.2.1 g
theorem tkR.nm (h : tkR w) (g : w 1 5 = 2) : 0 ≤ w 1 8 ∧ (10 ≤ w 1 8 → w 1 6 + 2 ≤ w 1 7) := h.2.2.2.2 g
theorem tkR.eq (h : tkR w) (q : ∀ k, k = 0 ∨ (5 ≤ k ∧ k ≤ 8) → w' 1 k = w 1 k) : tkR w' := by
  unfold tkR
  rw [q 0 (by omega), q 5 (by omega), q 6 (by omega), q 7 (by omega), q 8 (by omega)]
  exact h
theorem tkR.fr {S : Int → Int → Prop} (h : tkR w) (f : e_fr S w w') (q : ∀ k, k = 0 ∨ (5 ≤ k ∧ k ≤ 8) → ¬ S 1 k) : tkR w' := h.eq (fun k g => f 1 k (q k g))
def sm0 (w w' : eW) (cd : Int) : Prop := w' 1 14 = w 1 14 ∧ ∀ n, w' (cd + 1) n = w (cd + 1) n
theorem sm0.trans (h1 : sm0 w v cd) (h2 : sm0 v u cd) : sm0 w u cd := ⟨h2.1.trans h1.1, fun n => (h2.2 n).trans (h1.2 n)⟩
/-- an instruction of an expression between a and b; x: its place is still to be told -/
def xI (v a b : Int) (x : Prop) : Prop := (0 ≤ v ∧ v % 64 ≤ 24) ∧ (x → v % 64 = 12 ∨ v % 64 = 13) ∧ (v % 64 = 2 → v / 64 ≤ 31) ∧ (v % 64 = 12 ∨ v % 64 = 13 → x ∨ (a ≤ v / 64 ∧ v / 64 ≤ b))
def xG (w w' : eW) (cd s : Int) : Prop := 0 ≤ w cd 0 ∧ w cd 0 ≤ w' cd 0 ∧ w' cd 0 - w cd 0 ≤ w' 1 6 - w 1 6 + s
def xB (w w' : eW) (cd e : Int) : Prop := (e = -1 ∨ (w cd 0 ≤ e ∧ e < w' cd 0)) ∧ sm0 w w' cd ∧ (∀ p, 0 ≤ p → p < w cd 0 → w' (cd + 2) p = w (cd + 2) p) ∧ (∀ p, w cd 0 ≤ p → p < w' cd 0 → xI (w' (cd + 2) p) (w cd 0) (w' cd 0) (p = e))
/-- a step inside an expression: s more than the bytes read may have been written; if no fault was found and the program is not full, it is in order -/
def zS (w w' : eW) (cd s e : Int) : Prop := nF w' → nF w ∧ xG w w' cd s ∧ (w' cd 0 < 4000 → xB w w' cd e)
theorem xG.trans (h1 : xG w v cd s1) (h2 : xG v u cd s2) (hs : s1 + s2 ≤ s) : xG w u cd s := by
  obtain ⟨a1, a2, a3⟩ := h1
  obtain ⟨b1, b2, b3⟩ := h2
  exact ⟨a1, by omega, by omega⟩
theorem zS.trans (h1 : zS w v cd s1 e1) (h2 : zS v u cd s2 e2) (hs : s1 + s2 ≤ s) (g1 : e1 = e ∨ e1 = -1) (g2 : e2 = e ∨ e2 = -1) (g3 : e = -1 ∨ e = e1 ∨ e = e2) : zS w u cd s e := fun hn => by
  obtain ⟨n1, a1, a2⟩ := h2 hn
  obtain ⟨n0, b1, b2⟩ := h1 n1
  refine ⟨n0, b1.trans a1 hs, fun hl => ?_⟩
  obtain ⟨a1, a6, a7⟩ := a1
  obtain ⟨b1, b6, b7⟩ := b1
  obtain ⟨a2, a3, a4, a5⟩ := a2 hl
  obtain ⟨b2, b3, b4, b5⟩ := b2 (by omega)
  refine ⟨by omega, b3.trans a3, fun p g h => (a4 p g (by omega)).trans (b4 p g h), fun p g h => ?_⟩
  by_cases c : p < v cd 0
  · have q := b5 p g c
    rw [a4 p (by omega) c]
    exact ⟨q.1, fun y => q.2.1 (by omega), q.2.2.1, fun z => by rcases q.2.2.2 z with y | y; exact Or.inl (by omega); exact Or.inr (by omega)⟩
  · have q := a5 p (by omega) h
    exact ⟨q.1, fun y => q.2.1 (by omega), q.2.2.1, fun z => by rcases q.2.2.2 z with y | y; exact Or.inl (by omega); exact Or.inr (by omega)⟩
theorem zS.refl (h : 0 ≤ w cd 0) : zS w w cd 0 (-1) := fun hn => ⟨hn, ⟨h, by omega, by omega⟩, fun _ => ⟨Or.inl rfl, ⟨rfl, fun _ => rfl⟩, fun _ _ _ => rfl, fun p g1 g2 => by omega⟩⟩
theorem zS.dead (h : ¬ nF w') : zS w w' cd s e := fun hn => absurd hn h
theorem zS.le (h : zS w v cd s1 e) (hs : s1 ≤ s) : zS w v cd s e := fun hn => by
  obtain ⟨n0, ⟨b1, b2, b3⟩, b4⟩ := h hn
  exact ⟨n0, ⟨b1, b2, by omega⟩, b4⟩
theorem zS.tok (h0 : 0 ≤ w cd 0) (hL : w' cd 0 = w cd 0) (hs : sm0 w w' cd) (hR : ∀ p, w' (cd + 2) p = w (cd + 2) p) (hn : nF w' → nF w ∧ w 1 6 + m ≤ w' 1 6) : zS w w' cd (-m) (-1) := fun h => by
  obtain ⟨n0, g⟩ := hn h
  exact ⟨n0, ⟨h0, by omega, by omega⟩, fun _ => ⟨Or.inl rfl, hs, fun p _ _ => hR p, fun p g1 g2 => by omega⟩⟩
theorem fr_k {S : Int → Int → Prop} (f : e_fr S w w') (hS : ∀ c k, S c k → c = 1 ∧ k ≠ 14) (hc : isCd cd) : w' cd 0 = w cd 0 ∧ sm0 w w' cd ∧ ∀ p, w' (cd + 2) p = w (cd + 2) p := by
  unfold isCd at hc
  exact ⟨f _ _ (fun q => by have := hS _ _ q; omega), ⟨f _ _ (fun q => by have := hS _ _ q; omega), fun n => f _ _ (fun q => by have := hS _ _ q; omega)⟩, fun p => f _ _ (fun q => by have := hS _ _ q; omega)⟩
theorem no_dk_0 : ¬ kRa 1 1 := by unfold kRa; omega
theorem no_dk_1 : ¬ kRa 1 9 := by unfold kRa; omega
theorem zS.adv (hc : isCd cd) (h0 : 0 ≤ w cd 0) (f : e_fr kRa w w') (h : w 1 7 ≤ w' 1 6) (hm : w 1 6 + m ≤ w 1 7) : zS w w' cd (-m) (-1) := by
  obtain ⟨q1, q2, q3⟩ := fr_k f (fun c k g => by unfold kRa at g; omega) hc
  exact zS.tok h0 q1 q2 q3 (fun n => ⟨⟨by rw [← f 1 1 no_dk_0]; exact n.1, by rw [← f 1 9 no_dk_1]; exact n.2⟩, by omega⟩)
theorem zS.acc (hc : isCd cd) (h0 : 0 ≤ w cd 0) (f : e_fr kRk w w') (h : nF w' → nF w ∧ w 1 5 = x ∧ w 1 7 ≤ w' 1 6) (hm : w 1 5 = x → w 1 6 + m ≤ w 1 7) : zS w w' cd (-m) (-1) := by
  obtain ⟨q1, q2, q3⟩ := fr_k f (fun c k g => by unfold kRk at g; omega) hc
  exact zS.tok h0 q1 q2 q3 (fun n => by obtain ⟨a, b, c⟩ := h n; have := hm b; exact ⟨a, by omega⟩)
/-- a field that counts nothing here is written -/
theorem zS.wr (hc : isCd cd) (h0 : 0 ≤ w cd 0) (f : e_fr (fun c k => c = 1 ∧ 11 ≤ k ∧ k ≤ 13) w w') : zS w w' cd 0 (-1) := by
  obtain ⟨q1, q2, q3⟩ := fr_k f (fun c k g => by omega) hc
  exact zS.tok (m := 0) h0 q1 q2 q3 (fun n => ⟨⟨by rw [← f 1 1 (by omega)]; exact n.1, by rw [← f 1 9 (by omega)]; exact n.2⟩, by rw [f 1 6 (by omega)]; omega⟩)
theorem no_dk_2 : ¬ kRc 1 6 := by unfold kRc; omega
theorem zS.cmp (hc : isCd cd) (h0 : 0 ≤ w cd 0) (f : e_fr kRc w w') (h : nF w' → nF w) : zS w w' cd 0 (-1) := by
  obtain ⟨q1, q2, q3⟩ := fr_k f (fun c k g => by unfold kRc at g; omega) hc
  exact zS.tok (m := 0) h0 q1 q2 q3 (fun n => ⟨h n, by rw [f 1 6 no_dk_2]; omega⟩)
theorem zS.drop (hc : isCd cd) (h0 : 0 ≤ w cd 0) (f : e_fr kRk w w') (h : ¬ nF w') : zS w w' cd 0 (-1) := zS.dead h
def emQ (w w' : eW) (cd op od z : Int) : Prop := (w cd 0 < 4000 ∧ w' cd 0 = w cd 0 + 1 ∧ z = w cd 0 ∧ w' (cd + 2) (w cd 0) = 64 * od + op ∧ ∀ k, k ≠ w cd 0 → w' (cd + 2) k = w (cd + 2) k) ∨ (w cd 0 = 4000 ∧ w' = w ∧ z = 3999)
def paQ (w w' : eW) (cd a od : Int) : Prop := (0 ≤ a ∧ a < w cd 0 ∧ w' (cd + 2) a = 64 * od + w (cd + 2) a % 64 ∧ ∀ k, k ≠ a → w' (cd + 2) k = w (cd + 2) k) ∨ ((a < 0 ∨ w cd 0 ≤ a) ∧ w' = w)
theorem emQ.ln (h : emQ w w' cd op od z) : (w cd 0 < 4000 ∧ w' cd 0 = w cd 0 + 1) ∨ (w cd 0 = 4000 ∧ w' cd 0 = 4000) := by
  rcases h with h | h
  · exact Or.inl ⟨h.1, h.2.1⟩
  · exact Or.inr ⟨h.1, by rw [h.2.1]; exact h.1⟩
theorem fr_e (f : e_fr (kEm cd) w w') (hc : isCd cd) : w' 1 1 = w 1 1 ∧ w' 1 9 = w 1 9 ∧ w' 1 6 = w 1 6 ∧ sm0 w w' cd := by
  unfold isCd at hc
  exact ⟨f _ _ (by unfold kEm; omega), f _ _ (by unfold kEm; omega), f _ _ (by unfold kEm; omega), f _ _ (by unfold kEm; omega), fun n => f _ _ (by unfold kEm; omega)⟩
theorem fr_p (f : e_fr (kPa cd) w w') (hc : isCd cd) : w' 1 1 = w 1 1 ∧ w' 1 9 = w 1 9 ∧ w' 1 6 = w 1 6 ∧ w' cd 0 = w cd 0 ∧ sm0 w w' cd := by
  unfold isCd at hc
  exact ⟨f _ _ (by unfold kPa; omega), f _ _ (by unfold kPa; omega), f _ _ (by unfold kPa; omega), f _ _ (by unfold kPa; omega), f _ _ (by unfold kPa; omega), fun n => f _ _ (by unfold kPa; omega)⟩
theorem zS.emit (hc : isCd cd) (h0 : 0 ≤ w cd 0) (f : e_fr (kEm cd) w w') (h : emQ w w' cd op od z) (ho : 0 ≤ op ∧ op ≤ 24) (hod : 0 ≤ od) (h2 : op = 2 → od ≤ 31) (he : (e = -1 ∧ op ≠ 12 ∧ op ≠ 13) ∨ (e = z ∧ (op = 12 ∨ op = 13))) : zS w w' cd 1 e := fun hn => by
  obtain ⟨f1, f2, f3, f4⟩ := fr_e f hc
  have n0 : nF w := ⟨by rw [← f1]; exact hn.1, by rw [← f2]; exact hn.2⟩
  rcases h with ⟨q1, q2, q3, q4, q5⟩ | ⟨q1, q2, q3⟩
  · refine ⟨n0, ⟨h0, by omega, by omega⟩, fun _ => ⟨by omega, f4, fun p g1 g2 => q5 p (by omega), fun p g1 g2 => ?_⟩⟩
    have e1 : p = w cd 0 := by omega
    rw [e1, q4]
    exact ⟨by omega, fun y => by omega, by omega, fun y => Or.inl (by omega)⟩
  · rw [q2]
    exact ⟨n0, ⟨h0, by omega, by omega⟩, fun hl => by omega⟩
theorem zS.patch (hc : isCd cd) (h : zS w v cd s e) (f : e_fr (kPa cd) v u) (q : paQ v u cd e x) (hx : x = v cd 0) : zS w u cd s (-1) := fun hn => by
  subst hx
  obtain ⟨f1, f2, f3, f4, f5⟩ := fr_p f hc
  obtain ⟨n0, ⟨b1, b6, b7⟩, b8⟩ := h ⟨by rw [← f1]; exact hn.1, by rw [← f2]; exact hn.2⟩
  refine ⟨n0, ⟨b1, by omega, by omega⟩, fun hl => ?_⟩
  obtain ⟨b2, b3, b4, b5⟩ := b8 (by omega)
  have ho : ∀ k, k ≠ e → u (cd + 2) k = v (cd + 2) k := fun k hk => by
    rcases q with q | q
    · exact q.2.2.2 k hk
    · rw [q.2]
  refine ⟨Or.inl rfl, b3.trans f5, fun p g1 g2 => (ho p (by omega)).trans (b4 p g1 g2), fun p g1 g2 => ?_⟩
  rw [f4] at g2 ⊢
  have k := b5 p g1 g2
  by_cases g : p = e
  · rcases q with q | q
    · have k2 := k.2.1 g
      have k1 := k.1
      rw [g] at k1 k2 ⊢
      rw [q.2.2.1]
      exact ⟨by omega, fun y => by omega, fun y => by omega, fun y => Or.inr (by omega)⟩
    · omega
  · rw [ho p g]
    exact ⟨k.1, fun y => by omega, k.2.2.1, fun y => by rcases k.2.2.2 y with z | z; exact absurd z g; exact Or.inr z⟩
/-- how many goals are collected at a place -/
def colR (r : Int → Int) : Nat → Int
  | 0 => 0
  | n + 1 => if r n % 64 = 26 then r n / 64 + 1 else if r n % 64 ≤ 24 ∨ r n % 64 = 50 then colR r n else 0
theorem colR_S (r : Int → Int) (n : Nat) : colR r (n + 1) = if r n % 64 = 26 then r n / 64 + 1 else if r n % 64 ≤ 24 ∨ r n % 64 = 50 then colR r n else 0 := rfl
theorem colR_eq2 {r r' : Int → Int} : ∀ (n : Nat), (∀ p : Int, 0 ≤ p → p < n → r' p = r p ∨ (r p % 64 ≠ 26 ∧ r' p % 64 = r p % 64)) → colR r' n = colR r n
  | 0, _ => rfl
  | n + 1, h => by
    have ih := colR_eq2 n (fun p g1 g2 => h p g1 (by omega))
    rw [colR_S, colR_S, ih]
    rcases h n (by omega) (by omega) with q | ⟨q1, q2⟩
    · rw [q]
    · rw [q2, if_neg q1, if_neg q1]
theorem colR_eq {r r' : Int → Int} (n : Nat) (h : ∀ p : Int, 0 ≤ p → p < n → r' p = r p ∨ (40 ≤ r p % 64 ∧ r' p % 64 = r p % 64)) : colR r' n = colR r n := colR_eq2 n (fun p g1 g2 => by
  rcases h p g1 g2 with q | q
  · exact Or.inl q
  · exact Or.inr ⟨by omega, q.2⟩)
def kcl (w : eW) (cd q : Int) : Int := colR (fun n => w (cd + 2) n) q.toNat
theorem kcl_S {q : Int} (h : 0 ≤ q) : kcl w cd (q + 1) = if w (cd + 2) q % 64 = 26 then w (cd + 2) q / 64 + 1 else if w (cd + 2) q % 64 ≤ 24 ∨ w (cd + 2) q % 64 = 50 then kcl w cd q else 0 := by
  unfold kcl
  rw [show (q + 1).toNat = q.toNat + 1 by omega, colR_S, show ((q.toNat : Nat) : Int) = q by omega]
theorem kcl_eq {q : Int} (h : ∀ p, 0 ≤ p → p < q → w' (cd + 2) p = w (cd + 2) p ∨ (40 ≤ w (cd + 2) p % 64 ∧ w' (cd + 2) p % 64 = w (cd + 2) p % 64)) : kcl w' cd q = kcl w cd q := colR_eq _ (fun p g1 g2 => h p g1 (by omega))
theorem kcl_run {a : Int} (h0 : 0 ≤ a) : ∀ (n : Nat), (∀ p, a ≤ p → p < a + n → w (cd + 2) p % 64 ≤ 24) → kcl w cd (a + n) = kcl w cd a
  | 0, _ => by rw [show a + ((0 : Nat) : Int) = a by omega]
  | n + 1, h => by
    rw [show a + ((n + 1 : Nat) : Int) = a + n + 1 by omega, kcl_S (by omega)]
    have q := h (a + n) (by omega) (by omega)
    rw [if_neg (by omega), if_pos (Or.inl q)]
    exact kcl_run h0 n (fun p g1 g2 => h p g1 (by omega))
theorem kcl_run' {a q : Int} (h0 : 0 ≤ a) (h1 : a ≤ q) (h : ∀ p, a ≤ p → p < q → w (cd + 2) p % 64 ≤ 24) : kcl w cd q = kcl w cd a := by
  have k := kcl_run (w := w) (cd := cd) h0 (q - a).toNat (fun p g1 g2 => h p g1 (by omega))
  rw [show a + ((q - a).toNat : Int) = q by omega] at k
  exact k
/-- what has been written stays, but for where jumps lead to -/
def stb (w w' : eW) (cd n : Int) : Prop := ∀ p, 0 ≤ p → p < n → w' (cd + 2) p = w (cd + 2) p ∨ (40 ≤ w (cd + 2) p % 64 ∧ w' (cd + 2) p % 64 = w (cd + 2) p % 64)
theorem stb.opq (h : stb w v cd n) (g1 : 0 ≤ p) (g2 : p < n) : v (cd + 2) p % 64 = w (cd + 2) p % 64 := by
  rcases h p g1 g2 with q | q
  · rw [q]
  · exact q.2
theorem stb.trans (h1 : stb w v cd n) (h2 : stb v u cd m) (hm : n ≤ m) : stb w u cd n := fun p g1 g2 => by
  have o1 := h1.opq g1 g2
  rcases h2 p g1 (by omega) with q | q
  · rw [q]; exact h1 p g1 g2
  · exact Or.inr ⟨by omega, by omega⟩
theorem stb.of (h : ∀ p, 0 ≤ p → p < n → w' (cd + 2) p = w (cd + 2) p) : stb w w' cd n := fun p g1 g2 => Or.inl (h p g1 g2)
/-- q may be gone to: an instruction from 40 on stands there, or nothing yet (only if b = 0) -/
def rfo (w : eW) (cd b q : Int) : Prop := (0 ≤ q ∧ q + b ≤ w cd 0) ∧ (q < w cd 0 → 40 ≤ w (cd + 2) q % 64)
theorem rfo.to (q : rfo w cd b x) (h01 : 0 ≤ b) (hL : w cd 0 ≤ w' cd 0) (hs : stb w w' cd (w cd 0)) (hb : w cd 0 + b' ≤ w' cd 0 + b) (hn : b = 0 → w cd 0 < w' cd 0 → 40 ≤ w' (cd + 2) (w cd 0) % 64) : rfo w' cd b' x := by
  refine ⟨⟨q.1.1, by have := q.1.2; omega⟩, fun g => ?_⟩
  by_cases c : x < w cd 0
  · rw [hs.opq q.1.1 c]; exact q.2 c
  · have q1 := q.1.2
    have e1 : x = w cd 0 := by omega
    rw [e1] at g ⊢
    exact hn (by omega) g
def rwO (w : eW) (cd b p v : Int) : Prop := (0 ≤ v ∧ v % 64 ≤ 50) ∧ (v % 64 = 2 ∨ v % 64 = 25 → v / 64 ≤ 31) ∧ (v % 64 = 40 ∨ v % 64 = 41 ∨ v % 64 = 49 → rfo w cd b (v / 64)) ∧ (v % 64 = 41 ∨ (45 ≤ v % 64 ∧ v % 64 ≠ 50) ∨ (25 ≤ v % 64 ∧ v % 64 ≤ 39 ∧ v % 64 ≠ 26) → rfo w cd b (p + 1)) ∧ (v % 64 = 46 → p + 3 < w cd 0 ∧ w (cd + 2) (p + 1) % 64 = 49 ∧ w (cd + 2) (p + 2) % 64 = 49 ∧ w (cd + 2) (p + 3) % 64 = 49) ∧ (v % 64 = 44 → v / 64 + 1 < w cd 0 ∧ w (cd + 2) (v / 64 + 1) % 64 = 49) ∧ (v % 64 = 12 ∨ v % 64 = 13 → v / 64 ≤ w cd 0 ∧ kcl w cd (v / 64) ≤ kcl w cd p) ∧ (v % 64 = 26 → v / 64 = kcl w cd p) ∧ (v % 64 = 27 → v / 64 ≤ kcl w cd p) ∧ (v % 64 = 29 → v / 64 ≤ w cd 0 ∧ kcl w cd (v / 64) ≤ 0) ∧ (40 ≤ v % 64 → kcl w cd p ≤ 0)
theorem rwO.to {v : Int} (q : rwO w cd b p v) (g : 0 ≤ p ∧ p < w cd 0) (h01 : 0 ≤ b) (hL : w cd 0 ≤ w' cd 0) (hs : stb w w' cd (w cd 0)) (hb : w cd 0 + b' ≤ w' cd 0 + b) (hn : b = 0 → w cd 0 < w' cd 0 → 40 ≤ w' (cd + 2) (w cd 0) % 64) : rwO w' cd b' p v := by
  obtain ⟨q1, q2, q3, q4, q5, q6, q7, q8, q9, qa, qb⟩ := q
  have kc : ∀ x, x ≤ w cd 0 → kcl w' cd x = kcl w cd x := fun x gx => kcl_eq (fun p g1 g2 => hs p g1 (by omega))
  refine ⟨q1, q2, fun h => (q3 h).to h01 hL hs hb hn, fun h => (q4 h).to h01 hL hs hb hn, fun h => ?_, fun h => ?_, fun h => ?_, fun h => ?_, fun h => ?_, fun h => ?_, fun h => ?_⟩
  · obtain ⟨a1, a2, a3, a4⟩ := q5 h
    exact ⟨by omega, by rw [hs.opq (by omega) (by omega)]; exact a2, by rw [hs.opq (by omega) (by omega)]; exact a3, by rw [hs.opq (by omega) (by omega)]; exact a4⟩
  · obtain ⟨a1, a2⟩ := q6 h
    exact ⟨by omega, by rw [hs.opq (by omega) (by omega)]; exact a2⟩
  · obtain ⟨a1, a2⟩ := q7 h
    exact ⟨by omega, by rw [kc _ a1, kc _ (by omega)]; exact a2⟩
  · rw [kc _ (by omega)]; exact q8 h
  · rw [kc _ (by omega)]; exact q9 h
  · obtain ⟨a1, a2⟩ := qa h
    exact ⟨by omega, by rw [kc _ a1]; exact a2⟩
  · rw [kc _ (by omega)]; exact qb h
/-- all that has been written is in order; b: 0 between statements, 1 inside one; c goals are collected -/
def zGI (w : eW) (cd b c : Int) : Prop := rfo w cd b 0 ∧ (∀ n, 0 ≤ n → n < 32 → n < w 1 14 → rfo w cd b (w (cd + 1) n)) ∧ kcl w cd (w cd 0) = c ∧ ∀ p, 0 ≤ p → p < w cd 0 → rwO w cd b p (w (cd + 2) p)
theorem zGI.ext (G : zGI w cd b c) (h01 : 0 ≤ b) (hL : w cd 0 ≤ w' cd 0) (hR : ∀ p, 0 ≤ p → p < w cd 0 → w' (cd + 2) p = w (cd + 2) p) (hs : sm0 w w' cd) (hb : w cd 0 + b' ≤ w' cd 0 + b) (hn : b = 0 → w cd 0 < w' cd 0 → 40 ≤ w' (cd + 2) (w cd 0) % 64) (hc : kcl w' cd (w' cd 0) = c') (hnew : ∀ p, w cd 0 ≤ p → p < w' cd 0 → rwO w' cd b' p (w' (cd + 2) p)) : zGI w' cd b' c' := by
  obtain ⟨q1, q2, q3, q4⟩ := G
  have st : stb w w' cd (w cd 0) := stb.of hR
  refine ⟨q1.to h01 hL st hb hn, fun n g1 g2 g3 => ?_, hc, fun p g1 g2 => ?_⟩
  · rw [hs.2 n]; rw [hs.1] at g3
    exact (q2 n g1 g2 g3).to h01 hL st hb hn
  · by_cases g : p < w cd 0
    · rw [hR p g1 g]
      exact (q4 p g1 g).to ⟨g1, g⟩ h01 hL st hb hn
    · exact hnew p (by omega) g2
theorem zGI.ex (G : zGI w cd 1 c) (hb : xG w w' cd s) (h : xB w w' cd (-1)) : zGI w' cd 1 c := by
  obtain ⟨b2, b3, b4, b5⟩ := h
  obtain ⟨b1, b6, b7⟩ := hb
  have k0 : kcl w' cd (w cd 0) = c := (kcl_eq (fun p g1 g2 => Or.inl (b4 p g1 g2))).trans G.2.2.1
  have kq : ∀ q, w cd 0 ≤ q → q ≤ w' cd 0 → kcl w' cd q = c := fun q g1 g2 => (kcl_run' (by omega) g1 (fun p h1 h2 => (b5 p h1 (by omega)).1.2)).trans k0
  refine G.ext (by omega) (by omega) b4 b3 (by omega) (fun h => by omega) (kq _ (by omega) (by omega)) (fun p g1 g2 => ?_)
  obtain ⟨x1, x2, x3, x4⟩ := b5 p g1 g2
  generalize w' (cd + 2) p = v at x1 x2 x3 x4
  refine ⟨⟨x1.1, by omega⟩, fun y => x3 (by omega), fun y => by omega, fun y => by omega, fun y => by omega, fun y => by omega, fun y => ?_, fun y => by omega, fun y => by omega, fun y => by omega, fun y => by omega⟩
  rcases x4 y with z | z
  · omega
  · rw [kq _ z.1 z.2, kq _ g1 (by omega)]
    exact ⟨z.2, Int.le_refl _⟩
theorem zGI.em {v : Int} (G : zGI w cd b c) (h0 : 0 ≤ w cd 0) (h01 : 0 ≤ b) (hL : w' cd 0 = w cd 0 + 1) (hv : w' (cd + 2) (w cd 0) = v) (hR : ∀ k, k ≠ w cd 0 → w' (cd + 2) k = w (cd + 2) k) (hs : sm0 w w' cd) (hb : b' ≤ b + 1) (hop : b = 0 → 40 ≤ v % 64) (hc : (if v % 64 = 26 then v / 64 + 1 else if v % 64 ≤ 24 ∨ v % 64 = 50 then c else 0) = c') (hrow : kcl w' cd (w cd 0) = c → rwO w' cd b' (w cd 0) v) : zGI w' cd b' c' := by
  have k0 : kcl w' cd (w cd 0) = c := (kcl_eq (fun p g1 g2 => Or.inl (hR p (by omega)))).trans G.2.2.1
  refine G.ext h01 (by omega) (fun p g1 g2 => hR p (by omega)) hs (by omega) (fun g1 _ => by rw [hv]; exact hop g1) ?_ (fun p g1 g2 => ?_)
  · rw [hL, kcl_S h0, hv, k0]; exact hc
  · have e1 : p = w cd 0 := by omega
    rw [e1, hv]
    exact hrow k0
/-- a step of statements -/
def gB (w w' : eW) (cd b c b' c' : Int) : Prop := stb w w' cd (w cd 0) ∧ (zGI w cd b c → zGI w' cd b' c')
def gS (w w' : eW) (cd s b c b' c' : Int) : Prop := nF w' → nF w ∧ xG w w' cd s ∧ (w' cd 0 < 4000 → gB w w' cd b c b' c')
theorem gS.trans (h1 : gS w v cd s1 b c b1 c1) (h2 : gS v u cd s2 b1 c1 b' c') (hs : s1 + s2 ≤ s) : gS w u cd s b c b' c' := fun hn => by
  obtain ⟨n1, a1, a2⟩ := h2 hn
  obtain ⟨n0, d1, d2⟩ := h1 n1
  refine ⟨n0, d1.trans a1 hs, fun hl => ?_⟩
  obtain ⟨a1, a6, a7⟩ := a1
  obtain ⟨a2, a3⟩ := a2 hl
  obtain ⟨d2, d3⟩ := d2 (by omega)
  exact ⟨d2.trans a2 d1.2.1, fun G => a3 (d3 G)⟩
theorem gS.refl (h : 0 ≤ w cd 0) : gS w w cd 0 b c b c := fun hn => ⟨hn, ⟨h, by omega, by omega⟩, fun _ => ⟨fun _ _ _ => Or.inl rfl, fun G => G⟩⟩
theorem gS.dead (h : ¬ nF w') : gS w w' cd s b c b' c' := fun hn => absurd hn h
theorem gS.le (h : gS w v cd s1 b c b' c') (hs : s1 ≤ s) : gS w v cd s b c b' c' := fun hn => by
  obtain ⟨n0, ⟨b1, b2, b3⟩, b4⟩ := h hn
  exact ⟨n0, ⟨b1, b2, by omega⟩, b4⟩
theorem gS.ex (h : zS w w' cd s (-1)) : gS w w' cd s 1 c 1 c := fun hn => by
  obtain ⟨n0, q, q2⟩ := h hn
  exact ⟨n0, q, fun hl => ⟨stb.of (q2 hl).2.2.1, fun G => G.ex q (q2 hl)⟩⟩
theorem gS.tok (h0 : 0 ≤ w cd 0) (h01 : 0 ≤ b) (hL : w' cd 0 = w cd 0) (hs : sm0 w w' cd) (hR : ∀ p, w' (cd + 2) p = w (cd + 2) p) (hn : nF w' → nF w ∧ w 1 6 + m ≤ w' 1 6) : gS w w' cd (-m) b c b c := fun h => by
  obtain ⟨n0, g⟩ := hn h
  refine ⟨n0, ⟨h0, by omega, by omega⟩, fun _ => ⟨stb.of (fun p _ _ => hR p), fun G => G.ext h01 (by omega) (fun p _ _ => hR p) hs (by omega) (fun _ g => by omega) ?_ (fun p g1 g2 => by omega)⟩⟩
  rw [hL]
  exact (kcl_eq (fun p _ _ => Or.inl (hR p))).trans G.2.2.1
theorem gS.adv (hc : isCd cd) (h0 : 0 ≤ w cd 0) (h01 : 0 ≤ b) (f : e_fr kRa w w') (h : w 1 7 ≤ w' 1 6) (hm : w 1 6 + m ≤ w 1 7) : gS w w' cd (-m) b c b c := by
  obtain ⟨q1, q2, q3⟩ := fr_k f (fun c k g => by unfold kRa at g; omega) hc
  exact gS.tok h0 h01 q1 q2 q3 (fun n => ⟨⟨by rw [← f 1 1 no_dk_0]; exact n.1, by rw [← f 1 9 no_dk_1]; exact n.2⟩, by omega⟩)
theorem gS.acc (hc : isCd cd) (h0 : 0 ≤ w cd 0) (h01 : 0 ≤ b) (f : e_fr kRk w w') (h : nF w' → nF w ∧ w 1 5 = x ∧ w 1 7 ≤ w' 1 6) (hm : w 1 5 = x → w 1 6 + m ≤ w 1 7) : gS w w' cd (-m) b c b c := by
  obtain ⟨q1, q2, q3⟩ := fr_k f (fun c k g => by unfold kRk at g; omega) hc
  exact gS.tok h0 h01 q1 q2 q3 (fun n => by obtain ⟨a, b, c⟩ := h n; have := hm b; exact ⟨a, by omega⟩)
theorem gS.wr (hc : isCd cd) (h0 : 0 ≤ w cd 0) (h01 : 0 ≤ b) (f : e_fr (fun c k => c = 1 ∧ 11 ≤ k ∧ k ≤ 13) w w') : gS w w' cd 0 b c b c := by
  obtain ⟨q1, q2, q3⟩ := fr_k f (fun c k g => by omega) hc
  exact gS.tok (m := 0) h0 h01 q1 q2 q3 (fun n => ⟨⟨by rw [← f 1 1 (by omega)]; exact n.1, by rw [← f 1 9 (by omega)]; exact n.2⟩, by rw [f 1 6 (by omega)]; omega⟩)
theorem gS.cmp (hc : isCd cd) (h0 : 0 ≤ w cd 0) (h01 : 0 ≤ b) (f : e_fr kRc w w') (h : nF w' → nF w) : gS w w' cd 0 b c b c := by
  obtain ⟨q1, q2, q3⟩ := fr_k f (fun c k g => by unfold kRc at g; omega) hc
  exact gS.tok (m := 0) h0 h01 q1 q2 q3 (fun n => ⟨h n, by rw [f 1 6 no_dk_2]; omega⟩)
/-- an instruction is written: all that its place asks -/
theorem gS.em (hc : isCd cd) (h0 : 0 ≤ w cd 0) (h01 : 0 ≤ b) (f : e_fr (kEm cd) w w') (h : emQ w w' cd op od z) (hb : b' ≤ b + 1) (ho : 0 ≤ op ∧ op ≤ 50) (hop : b = 0 → 40 ≤ op) (hcc : (if op = 26 then od + 1 else if op ≤ 24 ∨ op = 50 then c else 0) = c') (hrow : nF w → w cd 0 < 4000 → w' cd 0 = w cd 0 + 1 → w' (cd + 2) (w cd 0) = 64 * od + op → (∀ k, k ≠ w cd 0 → w' (cd + 2) k = w (cd + 2) k) → zGI w cd b c → kcl w' cd (w cd 0) = c → rwO w' cd b' (w cd 0) (64 * od + op)) : gS w w' cd 1 b c b' c' := fun hn => by
  obtain ⟨f1, f2, f3, f4⟩ := fr_e f hc
  have n0 : nF w := ⟨by rw [← f1]; exact hn.1, by rw [← f2]; exact hn.2⟩
  rcases h with ⟨q1, q2, q3, q4, q5⟩ | ⟨q1, q2, q3⟩
  · refine ⟨n0, ⟨h0, by omega, by omega⟩, fun _ => ⟨stb.of (fun p g1 g2 => q5 p (by omega)), fun G => ?_⟩⟩
    have e1 : (64 * od + op) % 64 = op := by omega
    have e2 : (64 * od + op) / 64 = od := by omega
    exact G.em h0 h01 q2 q4 q5 f4 hb (by rw [e1]; exact hop) (by rw [e1, e2]; exact hcc) (hrow n0 q1 q2 q4 q5 G)
  · rw [q2]
    exact ⟨n0, ⟨h0, by omega, by omega⟩, fun hl => by omega⟩
theorem rwO.big (ho : 40 ≤ op ∧ op ≤ 50 ∧ op ≠ 46) (hod : 0 ≤ od) (hk : kcl w cd p ≤ 0) (h4 : op = 40 ∨ op = 41 ∨ op = 49 → rfo w cd b od) (h5 : op = 41 ∨ (45 ≤ op ∧ op ≠ 50) → rfo w cd b (p + 1)) (h6 : op = 44 → od + 1 < w cd 0 ∧ w (cd + 2) (od + 1) % 64 = 49) : rwO w cd b p (64 * od + op) := by
  have e1 : (64 * od + op) % 64 = op := by omega
  have e2 : (64 * od + op) / 64 = od := by omega
  unfold rwO
  rw [e1, e2]
  exact ⟨by omega, fun y => by omega, h4, fun y => h5 (by omega), fun y => by omega, h6, fun y => by omega, fun y => by omega, fun y => by omega, fun y => by omega, fun _ => hk⟩
theorem gS.beg (hc : isCd cd) (h0 : 0 ≤ w cd 0) (f : e_fr (kEm cd) w w') (h : emQ w w' cd 50 0 z) : gS w w' cd 1 0 0 1 0 :=
  gS.em hc h0 (by omega) f h (by omega) (by omega) (fun _ => by omega) rfl (fun _ _ _ _ _ _ hk => rwO.big (by omega) (by omega) (by omega) (fun y => by omega) (fun y => by omega) (fun y => by omega))
theorem gS.big (hc : isCd cd) (h0 : 0 ≤ w cd 0) (h01 : 0 ≤ b) (f : e_fr (kEm cd) w w') (h : emQ w w' cd op od z) (ho : 40 ≤ op ∧ op ≤ 49 ∧ op ≠ 46) (hd : 0 ≤ od) (h4 : op = 40 ∨ op = 41 ∨ op = 49 → od = 0 ∨ (nF w → w cd 0 < 4000 → od < w cd 0 ∧ 40 ≤ w (cd + 2) od % 64)) (h6 : op = 44 → nF w → w cd 0 < 4000 → od + 1 < w cd 0 ∧ w (cd + 2) (od + 1) % 64 = 49) : gS w w' cd 1 b 0 0 0 := by
  refine gS.em hc h0 h01 f h (by omega) (by omega) (fun _ => by omega) (by rw [if_neg (by omega), if_neg (by omega)]) (fun n0 hl hL hv hR G hk => rwO.big (by omega) hd (by omega) (fun y => ?_) (fun y => ⟨by omega, fun g => by omega⟩) (fun y => ?_))
  · rcases h4 y with g | g
    · subst g
      refine ⟨by omega, fun g => ?_⟩
      by_cases g2 : w cd 0 = 0
      · have e : w' (cd + 2) 0 = 64 * 0 + op := by rw [← hv, g2]
        rw [e]; omega
      · rw [hR 0 (by omega)]
        exact G.1.2 (by omega)
    · obtain ⟨g1, g2⟩ := g n0 hl
      exact ⟨by omega, fun _ => by rw [hR _ (by omega)]; exact g2⟩
  · obtain ⟨g1, g2⟩ := h6 y n0 hl
    exact ⟨by omega, by rw [hR _ (by omega)]; exact g2⟩
theorem rwO.act (ho : 25 ≤ op ∧ op ≤ 39 ∧ op ≠ 26) (hod : 0 ≤ od) (h1 : op = 25 → od ≤ 31) (h2 : rfo w cd b (p + 1)) (h3 : op = 27 → od ≤ kcl w cd p) (h4 : op = 29 → od ≤ w cd 0 ∧ kcl w cd od ≤ 0) : rwO w cd b p (64 * od + op) := by
  have e1 : (64 * od + op) % 64 = op := by omega
  have e2 : (64 * od + op) / 64 = od := by omega
  unfold rwO
  rw [e1, e2]
  exact ⟨by omega, fun y => h1 (by omega), fun y => by omega, fun _ => h2, fun y => by omega, fun y => by omega, fun y => by omega, fun y => by omega, h3, h4, fun y => by omega⟩
theorem gS.act (hc : isCd cd) (h0 : 0 ≤ w cd 0) (f : e_fr (kEm cd) w w') (h : emQ w w' cd op od z) (ho : 25 ≤ op ∧ op ≤ 39 ∧ op ≠ 26 ∧ op ≠ 29) (hd : 0 ≤ od) (h1 : op = 25 → od ≤ 31) (h3 : op = 27 → od ≤ c) : gS w w' cd 1 1 c 0 0 :=
  gS.em hc h0 (by omega) f h (by omega) (by omega) (fun y => by omega) (by rw [if_neg (by omega), if_neg (by omega)]) (fun n0 _ hL _ hR G hk => rwO.act (by omega) hd h1 ⟨by omega, fun g => by omega⟩ (fun y => by rw [hk]; exact h3 y) (fun y => by omega))
/-- an expression and what is done with it: the place of the expression is told too -/
theorem gS.wn (hc : isCd cd) (hx : zS w v cd s (-1)) (f : e_fr (kEm cd) v u) (h : emQ v u cd op x z) (hxe : x = w cd 0) (ho : 25 ≤ op ∧ op ≤ 39 ∧ op ≠ 26 ∧ op ≠ 25 ∧ op ≠ 27) (h0v : 0 ≤ v cd 0) : gS w u cd (s + 1) 1 0 0 0 := fun hn => by
  obtain ⟨f1, f2, f3, f4⟩ := fr_e f hc
  have nv : nF v := ⟨by rw [← f1]; exact hn.1, by rw [← f2]; exact hn.2⟩
  obtain ⟨n0, hb, q⟩ := hx nv
  have hb1 := hb.1
  have hb2 := hb.2.1
  have k : gS v u cd 1 1 0 0 0 := gS.em hc h0v (by omega) f h (by omega) (by omega) (fun y => by omega) (by rw [if_neg (by omega), if_neg (by omega)]) (fun _ hl hL _ hR G hk => rwO.act (by omega) (by omega) (fun y => by omega) ⟨by omega, fun g => by omega⟩ (fun y => by omega) (fun y => ⟨by omega, by
    have e0 : kcl u cd x = kcl v cd x := kcl_eq (fun p g1 g2 => Or.inl (hR p (by omega)))
    have e1 : kcl v cd (v cd 0) = kcl v cd x := by
      rw [hxe]
      exact kcl_run' hb1 hb2 (fun p h1 h2 => ((q hl).2.2.2 p h1 h2).1.2)
    rw [e0, ← e1, G.2.2.1]
    omega⟩))
  exact (gS.trans (gS.ex hx) k (Int.le_refl _)) hn
theorem gS.col (hc : isCd cd) (h0 : 0 ≤ w cd 0) (f : e_fr (kEm cd) w w') (h : emQ w w' cd 26 c z) (hc0 : 0 ≤ c) : gS w w' cd 1 1 c 1 (c + 1) :=
  gS.em hc h0 (by omega) f h (by omega) (by omega) (fun y => by omega) rfl (fun n0 _ hL _ hR G hk => by
    have e1 : (64 * c + 26) % 64 = 26 := by omega
    have e2 : (64 * c + 26) / 64 = c := by omega
    unfold rwO
    rw [e1, e2]
    exact ⟨by omega, fun y => by omega, fun y => by omega, fun y => by omega, fun y => by omega, fun y => by omega, fun y => by omega, fun _ => hk.symm, fun y => by omega, fun y => by omega, fun y => by omega⟩)
/-- a try and its three places -/
theorem gS.try {a1 a2 a3 a4 : eW} {z1 z2 z3 z4 : Int} (hc : isCd cd) (h0 : 0 ≤ w cd 0) (h01 : 0 ≤ b) (f1 : e_fr (kEm cd) w a1) (f2 : e_fr (kEm cd) a1 a2) (f3 : e_fr (kEm cd) a2 a3) (f4 : e_fr (kEm cd) a3 a4) (q1 : emQ w a1 cd 46 0 z1) (q2 : emQ a1 a2 cd 49 0 z2) (q3 : emQ a2 a3 cd 49 0 z3) (q4 : emQ a3 a4 cd 49 0 z4) : gS w a4 cd 4 b 0 0 0 := fun hn => by
  obtain ⟨k1, k2, k3, k4⟩ := fr_e f1 hc
  obtain ⟨l1, l2, l3, l4⟩ := fr_e f2 hc
  obtain ⟨m1, m2, m3, m4⟩ := fr_e f3 hc
  obtain ⟨p1, p2, p3, p4⟩ := fr_e f4 hc
  have n0 : nF w := ⟨by rw [← k1, ← l1, ← m1, ← p1]; exact hn.1, by rw [← k2, ← l2, ← m2, ← p2]; exact hn.2⟩
  have t1 := q1.ln
  have t2 := q2.ln
  have t3 := q3.ln
  have t4 := q4.ln
  have hg : xG w a4 cd 4 := ⟨h0, by omega, by omega⟩
  refine ⟨n0, hg, fun hl => ?_⟩
  rcases q1 with ⟨a0, b0, c0, d0, g0⟩ | ⟨a0, b0, c0⟩
  rotate_left
  · omega
  rcases q2 with ⟨a5, b5, c5, d5, g5⟩ | ⟨a5, b5, c5⟩
  rotate_left
  · omega
  rcases q3 with ⟨a6, b6, c6, d6, g6⟩ | ⟨a6, b6, c6⟩
  rotate_left
  · omega
  rcases q4 with ⟨a7, b7, c7, d7, g7⟩ | ⟨a7, b7, c7⟩
  rotate_left
  · omega
  have r0 : a4 (cd + 2) (w cd 0) = 46 := by rw [g7 _ (by omega), g6 _ (by omega), g5 _ (by omega), d0]; rfl
  have r1 : a4 (cd + 2) (w cd 0 + 1) = 49 := by rw [g7 _ (by omega), g6 _ (by omega), ← b0, d5]; rfl
  have r2 : a4 (cd + 2) (w cd 0 + 2) = 49 := by rw [g7 _ (by omega), show w cd 0 + 2 = a2 cd 0 by omega, d6]; rfl
  have r3 : a4 (cd + 2) (w cd 0 + 3) = 49 := by rw [show w cd 0 + 3 = a3 cd 0 by omega, d7]; rfl
  have hL : a4 cd 0 = w cd 0 + 4 := by omega
  have hR : ∀ p, 0 ≤ p → p < w cd 0 → a4 (cd + 2) p = w (cd + 2) p := fun p _ g2 => by rw [g7 _ (by omega), g6 _ (by omega), g5 _ (by omega), g0 _ (by omega)]
  refine ⟨stb.of hR, fun G => ?_⟩
  have k0 : kcl a4 cd (w cd 0) = 0 := (kcl_eq (fun p g1 g2 => Or.inl (hR p g1 g2))).trans G.2.2.1
  have kS : ∀ q, 0 ≤ q → a4 (cd + 2) q = 46 ∨ a4 (cd + 2) q = 49 → kcl a4 cd (q + 1) = 0 := fun q g1 g2 => by
    rw [kcl_S g1]
    rcases g2 with g | g
    all_goals rw [g]; rfl
  have e1 := kS (w cd 0) h0 (Or.inl r0)
  have e2 := kS (w cd 0 + 1) (by omega) (Or.inr r1)
  have e3 := kS (w cd 0 + 2) (by omega) (Or.inr r2)
  have e4 := kS (w cd 0 + 3) (by omega) (Or.inr r3)
  rw [show w cd 0 + 1 + 1 = w cd 0 + 2 by omega] at e2
  rw [show w cd 0 + 2 + 1 = w cd 0 + 3 by omega] at e3
  rw [show w cd 0 + 3 + 1 = w cd 0 + 4 by omega] at e4
  have rf0 : rfo a4 cd 0 0 := by
    refine ⟨by omega, fun _ => ?_⟩
    by_cases g : w cd 0 = 0
    · rw [show a4 (cd + 2) 0 = 46 by rw [← g]; exact r0]; omega
    · rw [hR 0 (by omega) (by omega)]
      exact G.1.2 (by omega)
  refine G.ext h01 (by omega) hR (k4.trans (l4.trans (m4.trans p4))) (by omega) (fun _ _ => by rw [r0]; omega) (by rw [hL]; exact e4) (fun p g1 g2 => ?_)
  obtain rfl | rfl | rfl | rfl : p = w cd 0 ∨ p = w cd 0 + 1 ∨ p = w cd 0 + 2 ∨ p = w cd 0 + 3 := by omega
  · rw [r0]
    exact ⟨by omega, fun y => by omega, fun y => by omega, fun _ => ⟨by omega, fun _ => by rw [r1]; omega⟩, fun _ => ⟨by omega, by rw [r1]; rfl, by rw [r2]; rfl, by rw [r3]; rfl⟩, fun y => by omega, fun y => by omega, fun y => by omega, fun y => by omega, fun y => by omega, fun _ => by omega⟩
  · rw [r1]
    exact ⟨by omega, fun y => by omega, fun _ => rf0, fun _ => ⟨by omega, fun _ => by rw [show w cd 0 + 1 + 1 = w cd 0 + 2 by omega, r2]; omega⟩, fun y => by omega, fun y => by omega, fun y => by omega, fun y => by omega, fun y => by omega, fun y => by omega, fun _ => by omega⟩
  · rw [r2]
    exact ⟨by omega, fun y => by omega, fun _ => rf0, fun _ => ⟨by omega, fun _ => by rw [show w cd 0 + 2 + 1 = w cd 0 + 3 by omega, r3]; omega⟩, fun y => by omega, fun y => by omega, fun y => by omega, fun y => by omega, fun y => by omega, fun y => by omega, fun _ => by omega⟩
  · rw [r3]
    exact ⟨by omega, fun y => by omega, fun _ => rf0, fun _ => ⟨by omega, fun y => by omega⟩, fun y => by omega, fun y => by omega, fun y => by omega, fun y => by omega, fun y => by omega, fun y => by omega, fun _ => by omega⟩
/-- a place and what stands there -/
def zpl (w : eW) (cd z op : Int) : Prop := nF w → w cd 0 < 4000 → 0 ≤ z ∧ z < w cd 0 ∧ w (cd + 2) z % 64 = op
theorem zpl.step (h : zpl w cd z op) (g : gS w v cd s b c b' c') : zpl v cd z op := fun hn hl => by
  obtain ⟨n0, b1, b2⟩ := g hn
  have b3 := b1.2.1
  obtain ⟨a1, a2, a3⟩ := h n0 (by omega)
  exact ⟨a1, by omega, by rw [(b2 hl).1.opq a1 a2]; exact a3⟩
theorem zpl.em (hc : isCd cd) (h0 : 0 ≤ w cd 0) (f : e_fr (kEm cd) w w') (h : emQ w w' cd op od z) (ho : 0 ≤ op ∧ op ≤ 50) : zpl w' cd z op := fun hn hl => by
  rcases h with ⟨q1, q2, q3, q4, q5⟩ | ⟨q1, q2, q3⟩
  · exact ⟨by omega, by omega, by rw [q3, q4]; omega⟩
  · rw [q2] at hl; omega
/-- the place behind one -/
theorem zpl.nx {a1 a2 : eW} {z2 op1 od1 : Int} (h0 : 0 ≤ w cd 0) (q1 : emQ w a1 cd op1 od1 z) (he : a2 cd 0 = a1 cd 0) (q2 : emQ a2 w' cd op od z2) (ho : 0 ≤ op ∧ op ≤ 50) : zpl w' cd (z + 1) op := fun hn hl => by
  rcases q2 with ⟨r1, r2, r3, r4, r5⟩ | ⟨r1, r2, r3⟩
  · rcases q1 with ⟨p1, p2, p3, p4, p5⟩ | ⟨p1, p2, p3⟩
    · exact ⟨by omega, by omega, by rw [show z + 1 = a2 cd 0 by omega, r4]; omega⟩
    · rw [p2] at he; omega
  · rw [r2] at hl; omega
theorem zpl.try {a1 a2 a3 a4 : eW} {z1 z2 z3 z4 : Int} (h0 : 0 ≤ w cd 0) (q1 : emQ w a1 cd 46 0 z1) (q2 : emQ a1 a2 cd 49 0 z2) (q3 : emQ a2 a3 cd 49 0 z3) (q4 : emQ a3 a4 cd 49 0 z4) : zpl a4 cd (z1 + 1) 49 ∧ zpl a4 cd (z1 + 2) 49 ∧ zpl a4 cd (z1 + 3) 49 := by
  have key : a4 cd 0 < 4000 → z1 = w cd 0 ∧ a4 cd 0 = w cd 0 + 4 ∧ a4 (cd + 2) (w cd 0 + 1) = 49 ∧ a4 (cd + 2) (w cd 0 + 2) = 49 ∧ a4 (cd + 2) (w cd 0 + 3) = 49 := fun hl => by
    have t1 := q1.ln
    have t2 := q2.ln
    have t3 := q3.ln
    have t4 := q4.ln
    rcases q1 with ⟨a0, b0, c0, d0, g0⟩ | ⟨a0, b0, c0⟩
    rotate_left
    · omega
    rcases q2 with ⟨a5, b5, c5, d5, g5⟩ | ⟨a5, b5, c5⟩
    rotate_left
    · omega
    rcases q3 with ⟨a6, b6, c6, d6, g6⟩ | ⟨a6, b6, c6⟩
    rotate_left
    · omega
    rcases q4 with ⟨a7, b7, c7, d7, g7⟩ | ⟨a7, b7, c7⟩
    rotate_left
    · omega
    exact ⟨c0, by omega, by rw [g7 _ (by omega), g6 _ (by omega), ← b0, d5]; rfl, by rw [g7 _ (by omega), show w cd 0 + 2 = a2 cd 0 by omega, d6]; rfl, by rw [show w cd 0 + 3 = a3 cd 0 by omega, d7]; rfl⟩
  refine ⟨fun hn hl => ?_, fun hn hl => ?_, fun hn hl => ?_⟩
  all_goals
    obtain ⟨e1, e2, e3, e4, e5⟩ := key hl
    refine ⟨by omega, by omega, ?_⟩
    rw [e1]
  · rw [e3]; rfl
  · rw [e4]; rfl
  · rw [e5]; rfl
/-- where a jump leads to is told: to here -/
theorem gS.pat (hc : isCd cd) (h0 : 0 ≤ w cd 0) (f : e_fr (kPa cd) w w') (q : paQ w w' cd e x) (hx : x = w cd 0) (hp : zpl w cd e op) (ho : op = 40 ∨ op = 41 ∨ op = 49) : gS w w' cd 0 0 0 0 0 := fun hn => by
  subst hx
  obtain ⟨f1, f2, f3, f4, f5⟩ := fr_p f hc
  have n0 : nF w := ⟨by rw [← f1]; exact hn.1, by rw [← f2]; exact hn.2⟩
  refine ⟨n0, ⟨h0, by omega, by omega⟩, fun hl => ?_⟩
  obtain ⟨a1, a2, a3⟩ := hp n0 (by omega)
  rcases q with ⟨q1, q2, q3, q4⟩ | ⟨q1, q2⟩
  · have st : stb w w' cd (w cd 0) := fun p g1 g2 => by
      by_cases g : p = e
      · rw [g, q3]; exact Or.inr ⟨by omega, by omega⟩
      · exact Or.inl (q4 p g)
    refine ⟨st, fun G => ?_⟩
    obtain ⟨g1, g2, g3, g4⟩ := G
    have hn' : (0 : Int) = 0 → w cd 0 < w' cd 0 → 40 ≤ w' (cd + 2) (w cd 0) % 64 := fun _ g => by omega
    refine ⟨g1.to (by omega) (by omega) st (by omega) hn', fun n k1 k2 k3 => ?_, ?_, fun p k1 k2 => ?_⟩
    · rw [f5.2 n]; rw [f5.1] at k3
      exact (g2 n k1 k2 k3).to (by omega) (by omega) st (by omega) hn'
    · rw [f4]; exact (kcl_eq st).trans g3
    · rw [f4] at k2
      have old := (g4 p k1 k2).to (w' := w') (b' := 0) ⟨k1, k2⟩ (by omega) (by omega) st (by omega) hn'
      by_cases g : p = e
      · rw [g] at old ⊢
        have h50 := old.1.2
        have hk : kcl w' cd e ≤ 0 := old.2.2.2.2.2.2.2.2.2.2 (by omega)
        have hr : op = 41 ∨ (45 ≤ op ∧ op ≠ 50) → rfo w' cd 0 (e + 1) := fun y => old.2.2.2.1 (by omega)
        clear old
        rw [q3, a3]
        exact rwO.big (by omega) (by omega) hk (fun _ => ⟨by omega, fun y => by omega⟩) hr (fun y => by omega)
      · rw [q4 p g]; exact old
  · omega
end RD
end
end
-- part dl
section
noncomputable section
/-! the class: the reader, tokens and names -/
def kRn (c k : Int) : Prop := c = 1 ∧ (k = 5 ∨ k = 7 ∨ k = 8)
def kRo (c k : Int) : Prop := c = 1 ∧ (k = 1 ∨ k = 2 ∨ (5 ≤ k ∧ k ≤ 8) ∨ k = 11)
def kyk (i : Int) : Int := (e_key.getD i.toNat 0).toInt
theorem kyk_in (i : Int) : -2147483648 ≤ kyk i ∧ kyk i ≤ 2147483647 := ⟨Int32.le_toInt _, Int32.toInt_le _⟩
/-- how many words are over at a place of the keywords, and how far it is in its word -/
def kypN : Nat → Int × Int
  | 0 => (0, 0)
  | n + 1 => if kyk n = 32 then ((kypN n).1 + 1, 0) else ((kypN n).1, (kypN n).2 + 1)
def kyp (i : Int) : Int × Int := kypN i.toNat
theorem kyp_0 : kyp 0 = (0, 0) := rfl
theorem kyp_n {i : Int} (h0 : 0 ≤ i) (h : kyk i ≠ 32) : (kyp (i + 1)).1 = (kyp i).1 ∧ (kyp (i + 1)).2 = (kyp i).2 + 1 := by
  unfold kyp
  rw [show (i + 1).toNat = i.toNat + 1 by omega, kypN, show ((i.toNat : Nat) : Int) = i by omega, if_neg h]
  exact ⟨rfl, rfl⟩
theorem kyp_s {i : Int} (h0 : 0 ≤ i) (h : kyk i = 32) : (kyp (i + 1)).1 = (kyp i).1 + 1 ∧ (kyp (i + 1)).2 = 0 := by
  unfold kyp
  rw [show (i + 1).toNat = i.toNat + 1 by omega, kypN, show ((i.toNat : Nat) : Int) = i by omega, if_pos h]
  exact ⟨rfl, rfl⟩
theorem kyp_all : ∀ i : Nat, i < 172 → ((0 ≤ (kypN i).1 ∧ (kypN i).1 ≤ 33) ∧ 0 ≤ (kypN i).2 ∧ (kypN i).2 ≤ 8) ∧ (i < 171 → kyk (i : Int) = 32 → (kypN i).1 ≤ 32 ∧ 2 ≤ (kypN i).2 ∧ ((kypN i).1 = 2 ∨ (kypN i).1 = 20 ∨ (kypN i).1 = 21 → 3 ≤ (kypN i).2)) := by decide +kernel
theorem kyp_r {i : Int} (h : 0 ≤ i ∧ i ≤ 171) : (0 ≤ (kyp i).1 ∧ (kyp i).1 ≤ 33) ∧ 0 ≤ (kyp i).2 ∧ (kyp i).2 ≤ 8 := (kyp_all i.toNat (by omega)).1
theorem kyp_k {i : Int} (h : 0 ≤ i ∧ i ≤ 170) (hs : kyk i = 32) : (kyp i).1 ≤ 32 ∧ 2 ≤ (kyp i).2 ∧ ((kyp i).1 = 2 ∨ (kyp i).1 = 20 ∨ (kyp i).1 = 21 → 3 ≤ (kyp i).2) := (kyp_all i.toNat (by omega)).2 (by omega) (by rw [show ((i.toNat : Nat) : Int) = i by omega]; exact hs)
section E9k
variable {fd : Nat} {lay : List eY} {code : Nat → Nat → eE} {I : Nat → xM} {d M a b p nx : Nat} {l : eL} {r : List eV} {w : eW} {Q : List eV → eW → Prop}
theorem e_Ok.kc {i : Int} (hi : 0 ≤ i ∧ i < 171) (hb : Nat.ble (e_cats r) 8 = true) (hc : code M p = (0, e_S (g_sc nx), a, b)) (h : e_Ok fd lay code I d M (nx, l, (0, kyk i) :: r, w) Q) : e_Ok fd lay code I d M (p, l, (0, i) :: (1, 357) :: r, w) Q := by
  refine e_Ok.step hc ?_ h
  have e : e_chr 357 i = some (kyk i) := by
    unfold e_chr
    rw [if_pos ⟨rfl, hi.1, hi.2⟩]
    rfl
  unfold e_S
  show ((bif Nat.ble (e_cats r) 8 then (e_chr 357 i).map (fun n => (nx, (0, n) :: r)) else none : Option (Nat × List eV))).map _ = _
  rw [hb, e]
  rfl
theorem e_Ok.ml {x y : Int} (hb : Nat.ble (e_cats r) 8 = true) (hc : code M p = (0, e_S (g_ml nx), a, b)) (h : ∀ z, (x ≤ y ∧ z = x) ∨ (y < x ∧ z = y) → e_Ok fd lay code I d M (nx, l, (4, z) :: r, w) Q) : e_Ok fd lay code I d M (p, l, (4, y) :: (4, x) :: r, w) Q := by
  refine e_Ok.step (t' := (nx, l, (4, if x ≤ y then x else y) :: r, w)) hc ?_ (h _ ?_)
  · unfold e_S
    show ((bif Nat.ble (e_cats r) 8 then some (nx, (4, if x ≤ y then x else y) :: r) else none : Option (Nat × List eV))).map _ = _
    rw [hb]
    rfl
  · by_cases g : x ≤ y
    · rw [if_pos g]; exact Or.inl ⟨g, rfl⟩
    · rw [if_neg g]; exact Or.inr ⟨by omega, rfl⟩
theorem e_Ok.ix {c : Int} (hb : Nat.ble (e_cats r) 8 = true) (hc : code M p = (0, e_S (g_ix nx), a, b)) (h : ∀ z, -1 ≤ z ∧ z ≤ 12 → e_Ok fd lay code I d M (nx, l, (0, z) :: r, w) Q) : e_Ok fd lay code I d M (p, l, (0, c) :: (1, 358) :: r, w) Q := by
  obtain ⟨z, hz, hr⟩ : ∃ z, e_idx 358 c = some z ∧ -1 ≤ z ∧ z ≤ 12 := by
    unfold e_idx
    rw [if_pos rfl]
    refine ⟨_, rfl, ?_⟩
    cases g : e_sgn.findIdx? (fun z => decide (z.toInt = c)) with
    | none => exact ⟨by show (-1 : Int) ≤ -1; omega, by show (-1 : Int) ≤ 12; omega⟩
    | some k =>
      have q := (List.findIdx?_eq_some_iff_findIdx_eq.mp g).1
      have q2 : e_sgn.length = 13 := by decide
      exact ⟨by show (-1 : Int) ≤ (k : Int); omega, by show (k : Int) ≤ 12; omega⟩
  refine e_Ok.step (t' := (nx, l, (0, z) :: r, w)) hc ?_ (h _ hr)
  unfold e_S
  show ((bif Nat.ble (e_cats r) 8 then (e_idx 358 c).map (fun n => (nx, (0, n) :: r)) else none : Option (Nat × List eV))).map _ = _
  rw [hb, hz]
  rfl
theorem e_Ok.i2c {x : Int} (hc : code M p = (0, ei_un (fun x => (0, ((Int32.ofInt x).toUInt32 % 65536).toInt32.toInt)) nx, a, b)) (h : ∀ z, e_Ok fd lay code I d M (nx, l, (0, z) :: r, w) Q) : e_Ok fd lay code I d M (p, l, (0, x) :: r, w) Q := e_Ok.step hc rfl (h _)
theorem e_Ok.l2iz {x : Int} (hc : code M p = (0, ei_unL (fun x => (0, e32 x)) nx, a, b)) (h : ∀ z, (-2147483648 ≤ z ∧ z ≤ 2147483647) → (-2147483648 ≤ x → x ≤ 2147483647 → z = x) → e_Ok fd lay code I d M (nx, l, (0, z) :: r, w) Q) : e_Ok fd lay code I d M (p, l, (4, x) :: r, w) Q := e_Ok.step hc rfl (h _ (e32_in _) (fun g1 g2 => e32_id g1 g2))
end E9k
theorem c_120 {d : Nat} {w : eW} (hT : e_Has kTy w) (hH : e_Has kRy w) {i : Int} (g_i : (-2147483648) ≤ i ∧ i ≤ 2147483647) : e_Ok 20 elay kcode eI d 120 (0, [(0, (1, 1)), (1, (0, i))], [], w) (fun r w' => ∃ z : Int, r = [(0, z)] ∧ w = w' ∧ (0 ≤ z ∧ z ≤ 255) ∧ ((0 ≤ i ∧ i < w 1 0 ∧ z = w 5 i % 256) ∨ ((i < 0 ∨ w 1 0 ≤ i) ∧ z = 0))) := by
  have h0 := e_Has.get hH (c := 1) (k := 0) (lo := 0) (hi := 4000) rfl (by decide)
  refine e_Ok.ps1 (x := (0, i)) (q := 1) 1 rfl ?_
  refine e_Ok.if1 rfl (fun h1 => ?_) (fun h1 => ?_)
  · replace h1 : (i : Int) < 0 := h1
    refine e_Ok.ps1 (x := (0, 0)) (q := 26) 1 rfl ?_
    refine e_Ok.rets rfl rfl ?_
    exact ⟨_, rfl, rfl, by omega, Or.inr ⟨by omega, rfl⟩⟩
  · replace h1 : (i : Int) ≥ 0 := Int.not_lt.mp (show ¬ ((i : Int) < 0) from h1)
    refine e_Ok.ps2 (x := (1, 1)) (y := (0, i)) (q := 6) 2 rfl ?_
    have h2 := (e_Has.get hH (c := 1) (k := 0) (lo := 0) (hi := 4000) rfl (by decide))
    refine e_Ok.getf (z := w 1 0) rfl (el_o rfl) rfl rfl rfl (e_bq h2 (by decide) (by decide)) ?_
    refine e_Ok.if2 rfl (fun h3 => ?_) (fun h3 => ?_)
    · replace h3 : (i : Int) ≥ w 1 0 := h3
      refine e_Ok.ps1 (x := (0, 0)) (q := 26) 1 rfl ?_
      refine e_Ok.rets rfl rfl ?_
      exact ⟨_, rfl, rfl, by omega, Or.inr ⟨by omega, rfl⟩⟩
    · replace h3 : (i : Int) < w 1 0 := Int.not_le.mp (show ¬ ((i : Int) ≥ w 1 0) from h3)
      refine e_Ok.ps1 (x := (1, 1)) (q := 13) 1 rfl ?_
      refine e_Ok.getr (z := 5) rfl (el_o rfl) rfl rfl (e_Has.eq hT (kt_o rfl)) ⟨by decide, by decide⟩ ?_
      refine e_Ok.ps1 (x := (0, i)) (q := 17) 1 rfl ?_
      have h4 := (e_Has.get hH (c := 5) (k := i) (lo := (-2147483648)) (hi := 2147483647) rfl (by decide))
      refine e_Ok.ald (z := w 5 i) rfl (el_o rfl) rfl (by omega) rfl (e_bq h4 (by decide) (by decide)) ?_
      refine e_Ok.ps1 (x := (0, 255)) (q := 21) 1 rfl ?_
      refine e_Ok.andm 255 8 rfl (by decide) (fun z5 hz5 => ?_)
      replace hz5 : z5 = (w 5 i) % 256 := hz5
      have hz5r : 0 ≤ z5 ∧ z5 ≤ 255 := by omega
      refine e_Ok.ps0 (q := 26) 1 rfl ?_
      refine e_Ok.rets rfl rfl ?_
      exact ⟨_, rfl, rfl, by omega, Or.inl ⟨by omega, by omega, by omega⟩⟩
theorem c_121 {d : Nat} {w : eW} {c : Int} (g_c : (-2147483648) ≤ c ∧ c ≤ 2147483647) : e_Ok 20 elay kcode eI d 121 (0, [(0, (0, c))], [], w) (fun r w' => ∃ z : Int, r = [(0, z)] ∧ w = w' ∧ ((z = 1 ∧ (48 ≤ c ∧ c ≤ 57)) ∨ (z = 0 ∧ (c < 48 ∨ 57 < c)))) := by
  refine e_Ok.ps2 (x := (0, 48)) (y := (0, c)) (q := 3) 2 rfl ?_
  refine e_Ok.if2 rfl (fun h1 => ?_) (fun h1 => ?_)
  · replace h1 : (c : Int) < 48 := h1
    refine e_Ok.ps1 (x := (0, 0)) (q := 17) 1 rfl ?_
    refine e_Ok.rets rfl rfl ?_
    exact ⟨_, rfl, rfl, Or.inr ⟨rfl, by omega⟩⟩
  · replace h1 : (c : Int) ≥ 48 := Int.not_lt.mp (show ¬ ((c : Int) < 48) from h1)
    refine e_Ok.ps2 (x := (0, 57)) (y := (0, c)) (q := 9) 2 rfl ?_
    refine e_Ok.if2 rfl (fun h2 => ?_) (fun h2 => ?_)
    · replace h2 : (c : Int) > 57 := h2
      refine e_Ok.ps1 (x := (0, 0)) (q := 17) 1 rfl ?_
      refine e_Ok.rets rfl rfl ?_
      exact ⟨_, rfl, rfl, Or.inr ⟨rfl, by omega⟩⟩
    · replace h2 : (c : Int) ≤ 57 := Int.not_lt.mp (show ¬ ((c : Int) > 57) from h2)
      refine e_Ok.ps1 (x := (0, 1)) (q := 17) 2 rfl ?_
      refine e_Ok.rets rfl rfl ?_
      exact ⟨_, rfl, rfl, Or.inl ⟨rfl, by omega⟩⟩
theorem c_122 {d : Nat} {w : eW} {c : Int} (g_c : (-2147483648) ≤ c ∧ c ≤ 2147483647) : e_Ok 20 elay kcode eI d 122 (0, [(0, (0, c))], [], w) (fun r w' => ∃ z : Int, r = [(0, z)] ∧ w = w' ∧ ((z = 1 ∧ ((97 ≤ c ∧ c ≤ 122) ∨ (65 ≤ c ∧ c ≤ 90) ∨ (48 ≤ c ∧ c ≤ 57))) ∨ (z = 0 ∧ ((c < 97 ∨ 122 < c) ∧ (c < 65 ∨ 90 < c) ∧ (c < 48 ∨ 57 < c))))) := by
  refine e_Ok.ps2 (x := (0, 97)) (y := (0, c)) (q := 3) 2 rfl ?_
  refine e_Ok.if2 rfl (fun h1 => ?_) (fun h1 => ?_)
  · replace h1 : (c : Int) < 97 := h1
    refine e_Ok.ps2 (x := (0, 65)) (y := (0, c)) (q := 15) 2 rfl ?_
    refine e_Ok.if2 rfl (fun h2 => ?_) (fun h2 => ?_)
    · replace h2 : (c : Int) < 65 := h2
      refine e_Ok.ps2 (x := (0, 48)) (y := (0, c)) (q := 27) 2 rfl ?_
      refine e_Ok.if2 rfl (fun h3 => ?_) (fun h3 => ?_)
      · replace h3 : (c : Int) < 48 := h3
        refine e_Ok.ps1 (x := (0, 0)) (q := 41) 1 rfl ?_
        refine e_Ok.rets rfl rfl ?_
        exact ⟨_, rfl, rfl, Or.inr ⟨rfl, by omega⟩⟩
      · replace h3 : (c : Int) ≥ 48 := Int.not_lt.mp (show ¬ ((c : Int) < 48) from h3)
        refine e_Ok.ps2 (x := (0, 57)) (y := (0, c)) (q := 33) 2 rfl ?_
        refine e_Ok.if2 rfl (fun h4 => ?_) (fun h4 => ?_)
        · replace h4 : (c : Int) > 57 := h4
          refine e_Ok.ps1 (x := (0, 0)) (q := 41) 1 rfl ?_
          refine e_Ok.rets rfl rfl ?_
          exact ⟨_, rfl, rfl, Or.inr ⟨rfl, by omega⟩⟩
        · replace h4 : (c : Int) ≤ 57 := Int.not_lt.mp (show ¬ ((c : Int) > 57) from h4)
          refine e_Ok.ps1 (x := (0, 1)) (q := 41) 2 rfl ?_
          refine e_Ok.rets rfl rfl ?_
          exact ⟨_, rfl, rfl, Or.inl ⟨rfl, by omega⟩⟩
    · replace h2 : (c : Int) ≥ 65 := Int.not_lt.mp (show ¬ ((c : Int) < 65) from h2)
      refine e_Ok.ps2 (x := (0, 90)) (y := (0, c)) (q := 21) 2 rfl ?_
      refine e_Ok.if2 rfl (fun h5 => ?_) (fun h5 => ?_)
      · replace h5 : (c : Int) ≤ 90 := h5
        refine e_Ok.ps1 (x := (0, 1)) (q := 41) 2 rfl ?_
        refine e_Ok.rets rfl rfl ?_
        exact ⟨_, rfl, rfl, Or.inl ⟨rfl, by omega⟩⟩
      · replace h5 : (c : Int) > 90 := Int.not_le.mp (show ¬ ((c : Int) ≤ 90) from h5)
        refine e_Ok.ps2 (x := (0, 48)) (y := (0, c)) (q := 27) 2 rfl ?_
        refine e_Ok.if2 rfl (fun h6 => ?_) (fun h6 => ?_)
        · replace h6 : (c : Int) < 48 := h6
          exfalso; omega
        · replace h6 : (c : Int) ≥ 48 := Int.not_lt.mp (show ¬ ((c : Int) < 48) from h6)
          refine e_Ok.ps2 (x := (0, 57)) (y := (0, c)) (q := 33) 2 rfl ?_
          refine e_Ok.if2 rfl (fun h7 => ?_) (fun h7 => ?_)
          · replace h7 : (c : Int) > 57 := h7
            refine e_Ok.ps1 (x := (0, 0)) (q := 41) 1 rfl ?_
            refine e_Ok.rets rfl rfl ?_
            exact ⟨_, rfl, rfl, Or.inr ⟨rfl, by omega⟩⟩
          · replace h7 : (c : Int) ≤ 57 := Int.not_lt.mp (show ¬ ((c : Int) > 57) from h7)
            exfalso; omega
  · replace h1 : (c : Int) ≥ 97 := Int.not_lt.mp (show ¬ ((c : Int) < 97) from h1)
    refine e_Ok.ps2 (x := (0, 122)) (y := (0, c)) (q := 9) 2 rfl ?_
    refine e_Ok.if2 rfl (fun h8 => ?_) (fun h8 => ?_)
    · replace h8 : (c : Int) ≤ 122 := h8
      refine e_Ok.ps1 (x := (0, 1)) (q := 41) 2 rfl ?_
      refine e_Ok.rets rfl rfl ?_
      exact ⟨_, rfl, rfl, Or.inl ⟨rfl, by omega⟩⟩
    · replace h8 : (c : Int) > 122 := Int.not_le.mp (show ¬ ((c : Int) ≤ 122) from h8)
      refine e_Ok.ps2 (x := (0, 65)) (y := (0, c)) (q := 15) 2 rfl ?_
      refine e_Ok.if2 rfl (fun h9 => ?_) (fun h9 => ?_)
      · replace h9 : (c : Int) < 65 := h9
        exfalso; omega
      · replace h9 : (c : Int) ≥ 65 := Int.not_lt.mp (show ¬ ((c : Int) < 65) from h9)
        refine e_Ok.ps2 (x := (0, 90)) (y := (0, c)) (q := 21) 2 rfl ?_
        refine e_Ok.if2 rfl (fun h10 => ?_) (fun h10 => ?_)
        · replace h10 : (c : Int) ≤ 90 := h10
          exfalso; omega
        · replace h10 : (c : Int) > 90 := Int.not_le.mp (show ¬ ((c : Int) ≤ 90) from h10)
          refine e_Ok.ps2 (x := (0, 48)) (y := (0, c)) (q := 27) 2 rfl ?_
          refine e_Ok.if2 rfl (fun h11 => ?_) (fun h11 => ?_)
          · replace h11 : (c : Int) < 48 := h11
            exfalso; omega
          · replace h11 : (c : Int) ≥ 48 := Int.not_lt.mp (show ¬ ((c : Int) < 48) from h11)
            refine e_Ok.ps2 (x := (0, 57)) (y := (0, c)) (q := 33) 2 rfl ?_
            refine e_Ok.if2 rfl (fun h12 => ?_) (fun h12 => ?_)
            · replace h12 : (c : Int) > 57 := h12
              refine e_Ok.ps1 (x := (0, 0)) (q := 41) 1 rfl ?_
              refine e_Ok.rets rfl rfl ?_
              exact ⟨_, rfl, rfl, Or.inr ⟨rfl, by omega⟩⟩
            · replace h12 : (c : Int) ≤ 57 := Int.not_lt.mp (show ¬ ((c : Int) > 57) from h12)
              exfalso; omega
theorem no_dl_0 : ¬ kRn 1 0 := by unfold kRn; omega
theorem no_dl_1 : ¬ kRn 1 6 := by unfold kRn; omega
theorem no_dl_2 {k : Int} : ¬ kRn 5 k := by unfold kRn; omega
theorem c_124 {d : Nat} (hd : 21 ≤ d) {w : eW} (hT : e_Has kTy w) (hH : e_Has kRy w) (hn : w 1 7 ≤ w 1 0) : e_Ok 20 elay kcode eI d 124 (0, [(0, (1, 1))], [], w) (fun r w' => r = [] ∧ e_fr kRn w w' ∧ e_Has kTy w' ∧ e_Has kRy w' ∧ (w 1 7 ≤ w' 1 7 ∧ w' 1 7 ≤ w 1 0)) := by
  obtain ⟨d, rfl⟩ : ∃ e, d = e + 1 := ⟨d - 1, by omega⟩
  have p0 := e_Has.get hH (c := 1) (k := 0) (lo := 0) (hi := 4000) rfl (by decide)
  have p6 := e_Has.get hH (c := 1) (k := 6) (lo := 0) (hi := 4000) rfl (by decide)
  have p7 := e_Has.get hH (c := 1) (k := 7) (lo := 0) (hi := 4000) rfl (by decide)
  refine e_Ok.run (t' := (2, [(1, (0, 0)), (0, (1, 1))], [], w)) 2 rfl ?_
  have hL1 : ∀ (nn : Nat) (y1 : Int) (v1 : eW), e_fr kRn w v1 ∧ e_Has kTy v1 ∧ e_Has kRy v1 ∧ ((w 1 7 ≤ v1 1 7 ∧ v1 1 7 ≤ w 1 0)) ∧ ((0 ≤ y1 ∧ y1 ≤ 1)) → 4001 - v1 1 7 < nn → e_Ok 20 elay kcode eI (d + 1) 124 (2, [(0, (1, 1)), (1, (0, y1))], [], v1) (fun r w' => r = [] ∧ e_fr kRn w w' ∧ e_Has kTy w' ∧ e_Has kRy w' ∧ (w 1 7 ≤ w' 1 7 ∧ w' 1 7 ≤ w 1 0)) := by
    intro nn
    induction nn with
    | zero => intro y1 v1 hj hm; obtain ⟨j3, j4, j5, j6, j7⟩ := hj; exfalso; omega
    | succ nn ih2 =>
      intro y1 v1 hj hm
      obtain ⟨j3, j4, j5, j6, j7⟩ := hj
      have u7 := e_Has.get j5 (c := 1) (k := 7) (lo := 0) (hi := 4000) rfl (by decide)
      refine e_Ok.run (t' := (3, [(0, (1, 1)), (1, (0, y1))], [(1, 1)], v1)) 1 rfl ?_
      refine e_Ok.getf (z := v1 1 7) rfl (el_o rfl) rfl rfl rfl (by omega) ?_
      refine e_Ok.ps1 (x := (1, 1)) (q := 7) 1 rfl ?_
      have h8 := (e_Has.get hH (c := 1) (k := 0) (lo := 0) (hi := 4000) rfl (by decide))
      refine e_Ok.getf (z := w 1 0) rfl (el_o rfl) rfl rfl ((j3 1 0 no_dl_0).trans rfl) (e_bq h8 (by decide) (by decide)) ?_
      refine e_Ok.if2 rfl (fun h9 => ?_) (fun h9 => ?_)
      · replace h9 : (v1 1 7 : Int) ≥ w 1 0 := h9
        refine e_Ok.rets rfl rfl ?_
        have y5 : v1 1 5 = v1 1 5 := rfl
        have y6 : v1 1 6 = w 1 6 := ((j3 1 6 no_dl_1).trans rfl)
        have y7 : v1 1 7 = v1 1 7 := rfl
        have y8 : v1 1 8 = v1 1 8 := rfl
        exact ⟨rfl, j3, j4, j5, by omega⟩
      · replace h9 : (v1 1 7 : Int) < w 1 0 := Int.not_le.mp (show ¬ ((v1 1 7 : Int) ≥ w 1 0) from h9)
        refine e_Ok.ps2 (x := (1, 1)) (y := (1, 1)) (q := 15) 2 rfl ?_
        refine e_Ok.getf (z := v1 1 7) rfl (el_o rfl) rfl rfl rfl (by omega) ?_
        refine e_Ok.callV rfl (e_dq hd rfl) rfl rfl rfl rfl (c_120 j4 j5 (by omega)) (fun r10 w11 h12 => ?_)
        obtain ⟨z13, rfl, rfl, q14r, q14x⟩ := h12
        replace q14x : (0 ≤ (v1 1 7) ∧ (v1 1 7) < (w 1 0) ∧ z13 = (w 5 (v1 1 7)) % 256) ∨ (((v1 1 7) < 0 ∨ (w 1 0) ≤ (v1 1 7)) ∧ z13 = 0) := by rw [show v1 1 0 = w 1 0 from ((j3 1 0 no_dl_0).trans rfl), show v1 5 (v1 1 7) = w 5 (v1 1 7) from ((j3 5 (v1 1 7) no_dl_2).trans rfl)] at q14x; exact q14x
        refine e_Ok.nrm (q := 21) (st' := [(0, z13)]) rfl rfl ?_
        refine e_Ok.run (t' := (25, [(2, (0, z13)), (0, (1, 1)), (1, (0, y1))], [(0, 35), (0, z13)], v1)) 3 rfl ?_
        refine e_Ok.if2 rfl (fun h15 => ?_) (fun h15 => ?_)
        · replace h15 : (z13 : Int) ≠ 35 := h15
          refine e_Ok.ps2 (x := (0, 10)) (y := (0, z13)) (q := 36) 2 rfl ?_
          refine e_Ok.if2 rfl (fun h16 => ?_) (fun h16 => ?_)
          · replace h16 : (z13 : Int) ≠ 10 := h16
            refine e_Ok.ps2 (x := (0, 32)) (y := (0, z13)) (q := 47) 2 rfl ?_
            refine e_Ok.if2 rfl (fun h17 => ?_) (fun h17 => ?_)
            · replace h17 : (z13 : Int) ≤ 32 := h17
              refine e_Ok.ps2 (x := (1, 1)) (y := (1, 1)) (q := 57) 2 rfl ?_
              refine e_Ok.getf (z := v1 1 7) rfl (el_o rfl) rfl rfl rfl (by omega) ?_
              refine e_Ok.ps1 (x := (0, 1)) (q := 61) 1 rfl ?_
              refine e_Ok.add (z := v1 1 7 + 1) rfl rfl (by omega) ?_
              refine e_Ok.putf rfl (el_o rfl) rfl rfl ?_
              generalize hw18 : e_up v1 1 7 (v1 1 7 + 1) = w18
              have hT20 : e_Has kTy w18 := e_Has.ups j4 hw18 rfl
              have hH21 : e_Has kRy w18 := e_Has.upr j5 hw18 rfl (by omega)
              refine e_Ok.ps0 (q := 2) 1 rfl ?_
              refine e_Ok.sub kAlk (e_sub_of rfl ?_) (ih2 y1 w18 ⟨(show e_fr kRn w w18 from e_fr.up j3 hw18 (by first | exact ⟨rfl, Or.inr (Or.inl rfl)⟩ | (unfold kRn; omega))), hT20, hH21, (by have g7 : w18 1 7 = v1 1 7 + 1 := (e_ue hw18); omega), (by omega)⟩ ((by have g7 : w18 1 7 = v1 1 7 + 1 := (e_ue hw18); omega)))
              exact ⟨rfl, rfl, trivial⟩
            · replace h17 : (z13 : Int) > 32 := Int.not_le.mp (show ¬ ((z13 : Int) ≤ 32) from h17)
              refine e_Ok.ps1 (x := (0, y1)) (q := 51) 1 rfl ?_
              refine e_Ok.if1 rfl (fun h22 => ?_) (fun h22 => ?_)
              · replace h22 : (y1 : Int) ≠ 0 := h22
                refine e_Ok.ps2 (x := (1, 1)) (y := (1, 1)) (q := 57) 2 rfl ?_
                refine e_Ok.getf (z := v1 1 7) rfl (el_o rfl) rfl rfl rfl (by omega) ?_
                refine e_Ok.ps1 (x := (0, 1)) (q := 61) 1 rfl ?_
                refine e_Ok.add (z := v1 1 7 + 1) rfl rfl (by omega) ?_
                refine e_Ok.putf rfl (el_o rfl) rfl rfl ?_
                generalize hw23 : e_up v1 1 7 (v1 1 7 + 1) = w23
                have hT25 : e_Has kTy w23 := e_Has.ups j4 hw23 rfl
                have hH26 : e_Has kRy w23 := e_Has.upr j5 hw23 rfl (by omega)
                refine e_Ok.ps0 (q := 2) 1 rfl ?_
                refine e_Ok.sub kAlk (e_sub_of rfl ?_) (ih2 y1 w23 ⟨(show e_fr kRn w w23 from e_fr.up j3 hw23 (by first | exact ⟨rfl, Or.inr (Or.inl rfl)⟩ | (unfold kRn; omega))), hT25, hH26, (by have g7 : w23 1 7 = v1 1 7 + 1 := (e_ue hw23); omega), (by omega)⟩ ((by have g7 : w23 1 7 = v1 1 7 + 1 := (e_ue hw23); omega)))
                exact ⟨rfl, rfl, trivial⟩
              · replace h22 : (y1 : Int) = 0 := Classical.not_not.mp (show ¬ ((y1 : Int) ≠ 0) from h22)
                refine e_Ok.rets rfl rfl ?_
                have y5 : v1 1 5 = v1 1 5 := rfl
                have y6 : v1 1 6 = w 1 6 := ((j3 1 6 no_dl_1).trans rfl)
                have y7 : v1 1 7 = v1 1 7 := rfl
                have y8 : v1 1 8 = v1 1 8 := rfl
                exact ⟨rfl, j3, j4, j5, by omega⟩
          · replace h16 : (z13 : Int) = 10 := Classical.not_not.mp (show ¬ ((z13 : Int) ≠ 10) from h16)
            refine e_Ok.run (t' := (57, [(1, (0, 0)), (2, (0, z13)), (0, (1, 1))], [(1, 1), (1, 1)], v1)) 5 rfl ?_
            refine e_Ok.getf (z := v1 1 7) rfl (el_o rfl) rfl rfl rfl (by omega) ?_
            refine e_Ok.ps1 (x := (0, 1)) (q := 61) 1 rfl ?_
            refine e_Ok.add (z := v1 1 7 + 1) rfl rfl (by omega) ?_
            refine e_Ok.putf rfl (el_o rfl) rfl rfl ?_
            generalize hw27 : e_up v1 1 7 (v1 1 7 + 1) = w27
            have hT29 : e_Has kTy w27 := e_Has.ups j4 hw27 rfl
            have hH30 : e_Has kRy w27 := e_Has.upr j5 hw27 rfl (by omega)
            refine e_Ok.ps0 (q := 2) 1 rfl ?_
            refine e_Ok.sub kAlk (e_sub_of rfl ?_) (ih2 0 w27 ⟨(show e_fr kRn w w27 from e_fr.up j3 hw27 (by first | exact ⟨rfl, Or.inr (Or.inl rfl)⟩ | (unfold kRn; omega))), hT29, hH30, (by have g7 : w27 1 7 = v1 1 7 + 1 := (e_ue hw27); omega), (by omega)⟩ ((by have g7 : w27 1 7 = v1 1 7 + 1 := (e_ue hw27); omega)))
            exact ⟨rfl, rfl, trivial⟩
        · replace h15 : (z13 : Int) = 35 := Classical.not_not.mp (show ¬ ((z13 : Int) ≠ 35) from h15)
          refine e_Ok.run (t' := (57, [(1, (0, 1)), (2, (0, z13)), (0, (1, 1))], [(1, 1), (1, 1)], v1)) 5 rfl ?_
          refine e_Ok.getf (z := v1 1 7) rfl (el_o rfl) rfl rfl rfl (by omega) ?_
          refine e_Ok.ps1 (x := (0, 1)) (q := 61) 1 rfl ?_
          refine e_Ok.add (z := v1 1 7 + 1) rfl rfl (by omega) ?_
          refine e_Ok.putf rfl (el_o rfl) rfl rfl ?_
          generalize hw31 : e_up v1 1 7 (v1 1 7 + 1) = w31
          have hT33 : e_Has kTy w31 := e_Has.ups j4 hw31 rfl
          have hH34 : e_Has kRy w31 := e_Has.upr j5 hw31 rfl (by omega)
          refine e_Ok.ps0 (q := 2) 1 rfl ?_
          refine e_Ok.sub kAlk (e_sub_of rfl ?_) (ih2 1 w31 ⟨(show e_fr kRn w w31 from e_fr.up j3 hw31 (by first | exact ⟨rfl, Or.inr (Or.inl rfl)⟩ | (unfold kRn; omega))), hT33, hH34, (by have g7 : w31 1 7 = v1 1 7 + 1 := (e_ue hw31); omega), (by omega)⟩ ((by have g7 : w31 1 7 = v1 1 7 + 1 := (e_ue hw31); omega)))
          exact ⟨rfl, rfl, trivial⟩
  refine e_Ok.sub kAlk (e_sub_of rfl ?_) (hL1 (4001 + 1 : Int).toNat 0 w ⟨(e_fr.refl w), hT, hH, (by omega), (by omega)⟩ (by omega))
  exact ⟨rfl, rfl, trivial⟩
set_option maxHeartbeats 4000000 in
theorem c_127 {d : Nat} (hd : 21 ≤ d) {w : eW} (hT : e_Has kTy w) (hH : e_Has kRy w) (hn : w 1 7 < w 1 0) (ha : w 1 6 = w 1 7) (hdg : 48 ≤ w 5 (w 1 7) % 256 ∧ w 5 (w 1 7) % 256 ≤ 57) : e_Ok 20 elay kcode eI d 127 (0, [(0, (1, 1))], [], w) (fun r w' => r = [] ∧ e_fr kRn w w' ∧ e_Has kTy w' ∧ e_Has kRy w' ∧ (w 1 7 < w' 1 7 ∧ w' 1 7 ≤ w 1 0) ∧ (w' 1 5 = 2 ∨ w' 1 5 = 3) ∧ (w' 1 5 = 2 → 0 ≤ w' 1 8 ∧ (10 ≤ w' 1 8 → w 1 7 + 2 ≤ w' 1 7))) := by
  obtain ⟨d, rfl⟩ : ∃ e, d = e + 1 := ⟨d - 1, by omega⟩
  have p0 := e_Has.get hH (c := 1) (k := 0) (lo := 0) (hi := 4000) rfl (by decide)
  have p6 := e_Has.get hH (c := 1) (k := 6) (lo := 0) (hi := 4000) rfl (by decide)
  have p7 := e_Has.get hH (c := 1) (k := 7) (lo := 0) (hi := 4000) rfl (by decide)
  refine e_Ok.run (t' := (2, [(1, (4, 0)), (0, (1, 1))], [], w)) 2 rfl ?_
  have hL1 : ∀ (nn : Nat) (y1 : Int) (v1 : eW), e_fr kRn w v1 ∧ e_Has kTy v1 ∧ e_Has kRy v1 ∧ ((w 1 7 ≤ v1 1 7 ∧ v1 1 7 ≤ w 1 0)) ∧ ((w 1 7 < v1 1 7 ∨ (v1 1 7 = w 1 7 ∧ w 5 (v1 1 7) = w 5 (w 1 7)))) ∧ ((0 ≤ y1 ∧ y1 ≤ 4294967296)) ∧ (v1 1 7 ≤ w 1 7 → y1 = 0) ∧ (v1 1 7 ≤ w 1 7 + 1 → y1 ≤ 9) → 4001 - v1 1 7 < nn → e_Ok 20 elay kcode eI (d + 1) 127 (2, [(0, (1, 1)), (1, (4, y1))], [], v1) (fun r w' => r = [] ∧ e_fr kRn w w' ∧ e_Has kTy w' ∧ e_Has kRy w' ∧ (w 1 7 < w' 1 7 ∧ w' 1 7 ≤ w 1 0) ∧ (w' 1 5 = 2 ∨ w' 1 5 = 3) ∧ (w' 1 5 = 2 → 0 ≤ w' 1 8 ∧ (10 ≤ w' 1 8 → w 1 7 + 2 ≤ w' 1 7))) := by
    intro nn
    induction nn with
    | zero => intro y1 v1 hj hm; obtain ⟨j3, j4, j5, j6, j7, j8, j9, j10⟩ := hj; exfalso; omega
    | succ nn ih2 =>
      intro y1 v1 hj hm
      obtain ⟨j3, j4, j5, j6, j7, j8, j9, j10⟩ := hj
      have u7 := e_Has.get j5 (c := 1) (k := 7) (lo := 0) (hi := 4000) rfl (by decide)
      refine e_Ok.run (t' := (3, [(0, (1, 1)), (1, (4, y1))], [(1, 1)], v1)) 1 rfl ?_
      refine e_Ok.getf (z := v1 1 7) rfl (el_o rfl) rfl rfl rfl (by omega) ?_
      refine e_Ok.ps1 (x := (1, 1)) (q := 7) 1 rfl ?_
      have h11 := (e_Has.get hH (c := 1) (k := 0) (lo := 0) (hi := 4000) rfl (by decide))
      refine e_Ok.getf (z := w 1 0) rfl (el_o rfl) rfl rfl ((j3 1 0 no_dl_0).trans rfl) (e_bq h11 (by decide) (by decide)) ?_
      refine e_Ok.if2 rfl (fun h12 => ?_) (fun h12 => ?_)
      · replace h12 : (v1 1 7 : Int) ≥ w 1 0 := h12
        refine e_Ok.ps3 (x := (4, 2147483647)) (y := (4, y1)) (z := (1, 1)) (q := 71) 3 rfl ?_
        refine e_Ok.lcmp rfl (fun z13 z13a z13b z13c => ?_)
        refine e_Ok.if1 rfl (fun h14 => ?_) (fun h14 => ?_)
        · replace h14 : (z13 : Int) ≤ 0 := h14
          refine e_Ok.ps1 (x := (0, 2)) (q := 80) 1 rfl ?_
          refine e_Ok.putf rfl (el_o rfl) rfl rfl ?_
          generalize hw15 : e_up v1 1 5 2 = w15
          have hT17 : e_Has kTy w15 := e_Has.ups j4 hw15 rfl
          have hH18 : e_Has kRy w15 := e_Has.upr j5 hw15 rfl (by omega)
          refine e_Ok.ps2 (x := (4, y1)) (y := (1, 1)) (q := 85) 2 rfl ?_
          refine e_Ok.l2iz rfl (fun z19 z19a z19b => ?_)
          replace z19b : -2147483648 ≤ y1 → y1 ≤ 2147483647 → z19 = y1 := z19b
          refine e_Ok.putf rfl (el_o rfl) rfl rfl ?_
          generalize hw20 : e_up w15 1 8 z19 = w20
          have hT22 : e_Has kTy w20 := e_Has.ups hT17 hw20 (kt_o rfl)
          have hH23 : e_Has kRy w20 := e_Has.upr hH18 hw20 rfl (by omega)
          refine e_Ok.rets rfl rfl ?_
          have y5 : w20 1 5 = 2 := (e_uq hw20 (Or.inr (by decide)) (e_ue hw15))
          have y6 : w20 1 6 = w 1 6 := (e_uq hw20 (Or.inr (by decide)) (e_uq hw15 (Or.inr (by decide)) ((j3 1 6 no_dl_1).trans rfl)))
          have y7 : w20 1 7 = v1 1 7 := (e_uq hw20 (Or.inr (by decide)) (e_uq hw15 (Or.inr (by decide)) rfl))
          have y8 : w20 1 8 = z19 := (e_ue hw20)
          exact ⟨rfl, (show e_fr kRn w w20 from e_fr.up (show e_fr kRn w w15 from e_fr.up j3 hw15 (by first | exact ⟨rfl, Or.inl rfl⟩ | (unfold kRn; omega))) hw20 (by first | exact ⟨rfl, Or.inr (Or.inr rfl)⟩ | (unfold kRn; omega))), hT22, hH23, ⟨by omega, by omega⟩, (by omega), fun h => ⟨by omega, fun h2 => by omega⟩⟩
        · replace h14 : (z13 : Int) > 0 := Int.not_le.mp (show ¬ ((z13 : Int) ≤ 0) from h14)
          refine e_Ok.ps1 (x := (0, 3)) (q := 80) 2 rfl ?_
          refine e_Ok.putf rfl (el_o rfl) rfl rfl ?_
          generalize hw24 : e_up v1 1 5 3 = w24
          have hT26 : e_Has kTy w24 := e_Has.ups j4 hw24 rfl
          have hH27 : e_Has kRy w24 := e_Has.upr j5 hw24 rfl (by omega)
          refine e_Ok.ps2 (x := (4, y1)) (y := (1, 1)) (q := 85) 2 rfl ?_
          refine e_Ok.l2iz rfl (fun z28 z28a z28b => ?_)
          replace z28b : -2147483648 ≤ y1 → y1 ≤ 2147483647 → z28 = y1 := z28b
          refine e_Ok.putf rfl (el_o rfl) rfl rfl ?_
          generalize hw29 : e_up w24 1 8 z28 = w29
          have hT31 : e_Has kTy w29 := e_Has.ups hT26 hw29 (kt_o rfl)
          have hH32 : e_Has kRy w29 := e_Has.upr hH27 hw29 rfl (by omega)
          refine e_Ok.rets rfl rfl ?_
          have y5 : w29 1 5 = 3 := (e_uq hw29 (Or.inr (by decide)) (e_ue hw24))
          have y6 : w29 1 6 = w 1 6 := (e_uq hw29 (Or.inr (by decide)) (e_uq hw24 (Or.inr (by decide)) ((j3 1 6 no_dl_1).trans rfl)))
          have y7 : w29 1 7 = v1 1 7 := (e_uq hw29 (Or.inr (by decide)) (e_uq hw24 (Or.inr (by decide)) rfl))
          have y8 : w29 1 8 = z28 := (e_ue hw29)
          exact ⟨rfl, (show e_fr kRn w w29 from e_fr.up (show e_fr kRn w w24 from e_fr.up j3 hw24 (by first | exact ⟨rfl, Or.inl rfl⟩ | (unfold kRn; omega))) hw29 (by first | exact ⟨rfl, Or.inr (Or.inr rfl)⟩ | (unfold kRn; omega))), hT31, hH32, ⟨by omega, by omega⟩, (by omega), fun h => ⟨by omega, fun h2 => by omega⟩⟩
      · replace h12 : (v1 1 7 : Int) < w 1 0 := Int.not_le.mp (show ¬ ((v1 1 7 : Int) ≥ w 1 0) from h12)
        refine e_Ok.ps2 (x := (1, 1)) (y := (1, 1)) (q := 15) 2 rfl ?_
        refine e_Ok.getf (z := v1 1 7) rfl (el_o rfl) rfl rfl rfl (by omega) ?_
        refine e_Ok.callV rfl (e_dq hd rfl) rfl rfl rfl rfl (c_120 j4 j5 (by omega)) (fun r33 w34 h35 => ?_)
        obtain ⟨z36, rfl, rfl, q37r, q37x⟩ := h35
        replace q37x : (0 ≤ (v1 1 7) ∧ (v1 1 7) < (w 1 0) ∧ z36 = (w 5 (v1 1 7)) % 256) ∨ (((v1 1 7) < 0 ∨ (w 1 0) ≤ (v1 1 7)) ∧ z36 = 0) := by rw [show v1 1 0 = w 1 0 from ((j3 1 0 no_dl_0).trans rfl), show v1 5 (v1 1 7) = w 5 (v1 1 7) from ((j3 5 (v1 1 7) no_dl_2).trans rfl)] at q37x; exact q37x
        refine e_Ok.nrm (q := 21) (st' := [(0, z36)]) rfl rfl ?_
        refine e_Ok.callS rfl (e_dq hd rfl) rfl rfl (c_121 (by omega)) (fun r38 w40 h41 => ?_)
        obtain ⟨z42, rfl, rfl, q43⟩ := h41
        obtain ⟨rfl, q43⟩ | ⟨rfl, q43⟩ := q43
        · refine e_Ok.nrm (q := 24) (st' := [(0, 1)]) rfl rfl ?_
          refine e_Ok.if1 rfl (fun h44 => ?_) (fun h44 => ?_)
          · replace h44 : (1 : Int) = 0 := h44
            exfalso; omega
          · replace h44 : (1 : Int) ≠ 0 := (show ¬ ((1 : Int) = 0) from h44)
            refine e_Ok.ps2 (x := (4, 10)) (y := (4, y1)) (q := 31) 2 rfl ?_
            refine e_Ok.mulL (z := 10 * y1) rfl (by omega) (by omega) ?_
            refine e_Ok.ps2 (x := (1, 1)) (y := (1, 1)) (q := 34) 2 rfl ?_
            refine e_Ok.getf (z := v1 1 7) rfl (el_o rfl) rfl rfl rfl (by omega) ?_
            refine e_Ok.callV rfl (e_dq hd rfl) rfl rfl rfl rfl (c_120 j4 j5 (by omega)) (fun r46 w47 h48 => ?_)
            obtain ⟨z49, rfl, rfl, q50r, q50x⟩ := h48
            replace q50x : (0 ≤ (v1 1 7) ∧ (v1 1 7) < (w 1 0) ∧ z49 = (w 5 (v1 1 7)) % 256) ∨ (((v1 1 7) < 0 ∨ (w 1 0) ≤ (v1 1 7)) ∧ z49 = 0) := by rw [show v1 1 0 = w 1 0 from ((j3 1 0 no_dl_0).trans rfl), show v1 5 (v1 1 7) = w 5 (v1 1 7) from ((j3 5 (v1 1 7) no_dl_2).trans rfl)] at q50x; exact q50x
            refine e_Ok.nrm (q := 40) (st' := [(0, z49), (4, 10 * y1)]) rfl rfl ?_
            refine e_Ok.run (t' := (41, [(0, (1, 1)), (1, (4, y1))], [(4, z49), (4, 10 * y1)], v1)) 1 rfl ?_
            refine e_Ok.addL (z := 10 * y1 + z49) rfl (by omega) (by omega) ?_
            refine e_Ok.ps1 (x := (4, 48)) (q := 45) 1 rfl ?_
            refine e_Ok.subL (z := 10 * y1 + z49 - 48) rfl (by omega) (by omega) ?_
            refine e_Ok.ps1 (x := (4, 4294967296)) (q := 49) 1 rfl ?_
            refine e_Ok.ml rfl rfl (fun x53 hx53 => ?_)
            replace hx53 : ((10 * y1 + z49 - 48) ≤ 4294967296 ∧ x53 = 10 * y1 + z49 - 48) ∨ (4294967296 < 10 * y1 + z49 - 48 ∧ x53 = 4294967296) := hx53
            refine e_Ok.run (t' := (55, [(1, (4, x53)), (0, (1, 1))], [(1, 1), (1, 1)], v1)) 3 rfl ?_
            refine e_Ok.getf (z := v1 1 7) rfl (el_o rfl) rfl rfl rfl (by omega) ?_
            refine e_Ok.ps1 (x := (0, 1)) (q := 59) 1 rfl ?_
            refine e_Ok.add (z := v1 1 7 + 1) rfl rfl (by omega) ?_
            refine e_Ok.putf rfl (el_o rfl) rfl rfl ?_
            generalize hw54 : e_up v1 1 7 (v1 1 7 + 1) = w54
            have hT56 : e_Has kTy w54 := e_Has.ups j4 hw54 rfl
            have hH57 : e_Has kRy w54 := e_Has.upr j5 hw54 rfl (by omega)
            refine e_Ok.ps0 (q := 2) 1 rfl ?_
            refine e_Ok.sub kAlk (e_sub_of rfl ?_) (ih2 x53 w54 ⟨(show e_fr kRn w w54 from e_fr.up j3 hw54 (by first | exact ⟨rfl, Or.inr (Or.inl rfl)⟩ | (unfold kRn; omega))), hT56, hH57, (by have g7 : w54 1 7 = v1 1 7 + 1 := (e_ue hw54); omega), (Or.inl (by have g7 : w54 1 7 = v1 1 7 + 1 := (e_ue hw54); omega)), (by omega), (fun g => by have g7 : w54 1 7 = v1 1 7 + 1 := (e_ue hw54); omega), (fun g => by have g7 : w54 1 7 = v1 1 7 + 1 := (e_ue hw54); omega)⟩ ((by have g7 : w54 1 7 = v1 1 7 + 1 := (e_ue hw54); omega)))
            exact ⟨rfl, rfl, trivial⟩
        · refine e_Ok.nrm (q := 24) (st' := [(0, 0)]) rfl rfl ?_
          refine e_Ok.if1 rfl (fun h58 => ?_) (fun h58 => ?_)
          · replace h58 : (0 : Int) = 0 := h58
            refine e_Ok.ps3 (x := (4, 2147483647)) (y := (4, y1)) (z := (1, 1)) (q := 71) 3 rfl ?_
            refine e_Ok.lcmp rfl (fun z59 z59a z59b z59c => ?_)
            refine e_Ok.if1 rfl (fun h60 => ?_) (fun h60 => ?_)
            · replace h60 : (z59 : Int) ≤ 0 := h60
              refine e_Ok.ps1 (x := (0, 2)) (q := 80) 1 rfl ?_
              refine e_Ok.putf rfl (el_o rfl) rfl rfl ?_
              generalize hw61 : e_up v1 1 5 2 = w61
              have hT63 : e_Has kTy w61 := e_Has.ups j4 hw61 rfl
              have hH64 : e_Has kRy w61 := e_Has.upr j5 hw61 rfl (by omega)
              refine e_Ok.ps2 (x := (4, y1)) (y := (1, 1)) (q := 85) 2 rfl ?_
              refine e_Ok.l2iz rfl (fun z65 z65a z65b => ?_)
              replace z65b : -2147483648 ≤ y1 → y1 ≤ 2147483647 → z65 = y1 := z65b
              refine e_Ok.putf rfl (el_o rfl) rfl rfl ?_
              generalize hw66 : e_up w61 1 8 z65 = w66
              have hT68 : e_Has kTy w66 := e_Has.ups hT63 hw66 (kt_o rfl)
              have hH69 : e_Has kRy w66 := e_Has.upr hH64 hw66 rfl (by omega)
              refine e_Ok.rets rfl rfl ?_
              have y5 : w66 1 5 = 2 := (e_uq hw66 (Or.inr (by decide)) (e_ue hw61))
              have y6 : w66 1 6 = w 1 6 := (e_uq hw66 (Or.inr (by decide)) (e_uq hw61 (Or.inr (by decide)) ((j3 1 6 no_dl_1).trans rfl)))
              have y7 : w66 1 7 = v1 1 7 := (e_uq hw66 (Or.inr (by decide)) (e_uq hw61 (Or.inr (by decide)) rfl))
              have y8 : w66 1 8 = z65 := (e_ue hw66)
              exact ⟨rfl, (show e_fr kRn w w66 from e_fr.up (show e_fr kRn w w61 from e_fr.up j3 hw61 (by first | exact ⟨rfl, Or.inl rfl⟩ | (unfold kRn; omega))) hw66 (by first | exact ⟨rfl, Or.inr (Or.inr rfl)⟩ | (unfold kRn; omega))), hT68, hH69, ⟨by omega, by omega⟩, (by omega), fun h => ⟨by omega, fun h2 => by omega⟩⟩
            · replace h60 : (z59 : Int) > 0 := Int.not_le.mp (show ¬ ((z59 : Int) ≤ 0) from h60)
              refine e_Ok.ps1 (x := (0, 3)) (q := 80) 2 rfl ?_
              refine e_Ok.putf rfl (el_o rfl) rfl rfl ?_
              generalize hw70 : e_up v1 1 5 3 = w70
              have hT72 : e_Has kTy w70 := e_Has.ups j4 hw70 rfl
              have hH73 : e_Has kRy w70 := e_Has.upr j5 hw70 rfl (by omega)
              refine e_Ok.ps2 (x := (4, y1)) (y := (1, 1)) (q := 85) 2 rfl ?_
              refine e_Ok.l2iz rfl (fun z74 z74a z74b => ?_)
              replace z74b : -2147483648 ≤ y1 → y1 ≤ 2147483647 → z74 = y1 := z74b
              refine e_Ok.putf rfl (el_o rfl) rfl rfl ?_
              generalize hw75 : e_up w70 1 8 z74 = w75
              have hT77 : e_Has kTy w75 := e_Has.ups hT72 hw75 (kt_o rfl)
              have hH78 : e_Has kRy w75 := e_Has.upr hH73 hw75 rfl (by omega)
              refine e_Ok.rets rfl rfl ?_
              have y5 : w75 1 5 = 3 := (e_uq hw75 (Or.inr (by decide)) (e_ue hw70))
              have y6 : w75 1 6 = w 1 6 := (e_uq hw75 (Or.inr (by decide)) (e_uq hw70 (Or.inr (by decide)) ((j3 1 6 no_dl_1).trans rfl)))
              have y7 : w75 1 7 = v1 1 7 := (e_uq hw75 (Or.inr (by decide)) (e_uq hw70 (Or.inr (by decide)) rfl))
              have y8 : w75 1 8 = z74 := (e_ue hw75)
              exact ⟨rfl, (show e_fr kRn w w75 from e_fr.up (show e_fr kRn w w70 from e_fr.up j3 hw70 (by first | exact ⟨rfl, Or.inl rfl⟩ | (unfold kRn; omega))) hw75 (by first | exact ⟨rfl, Or.inr (Or.inr rfl)⟩ | (unfold kRn; omega))), hT77, hH78, ⟨by omega, by omega⟩, (by omega), fun h => ⟨by omega, fun h2 => by omega⟩⟩
          · replace h58 : (0 : Int) ≠ 0 := (show ¬ ((0 : Int) = 0) from h58)
            exfalso; omega
  refine e_Ok.sub kAlk (e_sub_of rfl ?_) (hL1 (4001 + 1 : Int).toNat 0 w ⟨(e_fr.refl w), hT, hH, (by omega), (Or.inr ⟨rfl, rfl⟩), (by omega), (fun _ => rfl), (by omega)⟩ (by omega))
  exact ⟨rfl, rfl, trivial⟩
set_option maxHeartbeats 4000000 in
theorem c_126 {d : Nat} (hd : 19 ≤ d) {w : eW} (hT : e_Has kTy w) (hH : e_Has kRy w) (ha : w 1 6 < w 1 7) (hn : w 1 7 ≤ w 1 0) : e_Ok 20 elay kcode eI d 126 (0, [(0, (1, 1))], [], w) (fun r w' => ∃ z : Int, r = [(0, z)] ∧ w = w' ∧ (z = 1 ∨ ((21 ≤ z ∧ z ≤ 53) ∧ w 1 6 + 2 ≤ w 1 7 ∧ (z = 23 ∨ z = 41 ∨ z = 42 → w 1 6 + 3 ≤ w 1 7)))) := by
  obtain ⟨d, rfl⟩ : ∃ e, d = e + 1 := ⟨d - 1, by omega⟩
  have p0 := e_Has.get hH (c := 1) (k := 0) (lo := 0) (hi := 4000) rfl (by decide)
  have p6 := e_Has.get hH (c := 1) (k := 6) (lo := 0) (hi := 4000) rfl (by decide)
  have p7 := e_Has.get hH (c := 1) (k := 7) (lo := 0) (hi := 4000) rfl (by decide)
  refine e_Ok.run (t' := (4, [(1, (0, 21)), (0, (1, 1))], [(1, 1)], w)) 3 rfl ?_
  have h1 := (e_Has.get hH (c := 1) (k := 6) (lo := 0) (hi := 4000) rfl (by decide))
  refine e_Ok.getf (z := w 1 6) rfl (el_o rfl) rfl rfl rfl (e_bq h1 (by decide) (by decide)) ?_
  refine e_Ok.run (t' := (13, [(4, (0, 0)), (3, (0, 1)), (2, (0, w 1 6)), (1, (0, 21)), (0, (1, 1))], [], w)) 5 rfl ?_
  have hL2 : ∀ (nn : Nat) (y1 : Int) (y2 : Int) (y3 : Int) (y4 : Int), ((0 ≤ y4 ∧ y4 ≤ 171)) ∧ ((y1 = 21 + (kyp y4).1 ∧ y2 = w 1 6 + (kyp y4).2)) ∧ ((0 ≤ y3 ∧ y3 ≤ 1)) → 172 - y4 < nn → e_Ok 20 elay kcode eI (d + 1) 126 (13, [(0, (1, 1)), (1, (0, y1)), (2, (0, y2)), (3, (0, y3)), (4, (0, y4))], [], w) (fun r w' => ∃ z : Int, r = [(0, z)] ∧ w = w' ∧ (z = 1 ∨ ((21 ≤ z ∧ z ≤ 53) ∧ w 1 6 + 2 ≤ w 1 7 ∧ (z = 23 ∨ z = 41 ∨ z = 42 → w 1 6 + 3 ≤ w 1 7)))) := by
    intro nn
    induction nn with
    | zero => intro y1 y2 y3 y4 hj hm; obtain ⟨j4, j5, j6⟩ := hj; exfalso; omega
    | succ nn ih3 =>
      intro y1 y2 y3 y4 hj hm
      obtain ⟨j4, j5, j6⟩ := hj
      have kb := kyp_r (i := y4) (by omega)
      refine e_Ok.run (t' := (15, [(0, (1, 1)), (1, (0, y1)), (2, (0, y2)), (3, (0, y3)), (4, (0, y4))], [(0, y4)], w)) 1 rfl ?_
      refine e_Ok.ps1 (x := (1, 357)) (q := 17) 1 rfl ?_
      refine e_Ok.run (t' := (20, [(0, (1, 1)), (1, (0, y1)), (2, (0, y2)), (3, (0, y3)), (4, (0, y4))], [(0, 171), (0, y4)], w)) 1 rfl ?_
      refine e_Ok.if2 rfl (fun h7 => ?_) (fun h7 => ?_)
      · replace h7 : (y4 : Int) ≥ 171 := h7
        refine e_Ok.ps1 (x := (0, 1)) (q := 105) 1 rfl ?_
        refine e_Ok.rets rfl rfl ?_
        exact ⟨_, rfl, rfl, Or.inl rfl⟩
      · replace h7 : (y4 : Int) < 171 := Int.not_le.mp (show ¬ ((y4 : Int) ≥ 171) from h7)
        refine e_Ok.ps1 (x := (1, 357)) (q := 25) 1 rfl ?_
        refine e_Ok.ps1 (x := (0, y4)) (q := 27) 1 rfl ?_
        refine e_Ok.kc (by omega) rfl rfl ?_
        have z8b := kyk_in (y4)
        generalize hz8 : kyk (y4) = z8
        rw [hz8] at z8b
        refine e_Ok.run (t' := (36, [(5, (0, z8)), (0, (1, 1)), (1, (0, y1)), (2, (0, y2)), (3, (0, y3)), (4, (0, y4))], [(0, 32), (0, z8)], w)) 3 rfl ?_
        refine e_Ok.if2 rfl (fun h9 => ?_) (fun h9 => ?_)
        · replace h9 : (z8 : Int) = 32 := h9
          refine e_Ok.ps1 (x := (0, y3)) (q := 75) 1 rfl ?_
          refine e_Ok.if1 rfl (fun h10 => ?_) (fun h10 => ?_)
          · replace h10 : (y3 : Int) = 0 := h10
            refine e_Ok.inc (z := y1 + 1) rfl rfl (by first | with_reducible rfl | omega) (by omega) ?_
            show e_Ok 20 elay kcode eI (d + 1) 126 (91, [(1, (0, y1 + 1)), (5, (0, z8)), (0, (1, 1)), (2, (0, y2)), (3, (0, y3)), (4, (0, y4))], [], w) _
            refine e_Ok.ps1 (x := (1, 1)) (q := 92) 1 rfl ?_
            refine e_Ok.getf (z := w 1 6) rfl (el_o rfl) rfl rfl rfl (by omega) ?_
            refine e_Ok.run (t' := (98, [(3, (0, 1)), (2, (0, w 1 6)), (1, (0, y1 + 1)), (5, (0, z8)), (0, (1, 1)), (4, (0, y4))], [], w)) 3 rfl ?_
            refine e_Ok.inc (z := y4 + 1) rfl rfl (by first | with_reducible rfl | omega) (by omega) ?_
            show e_Ok 20 elay kcode eI (d + 1) 126 (101, [(4, (0, y4 + 1)), (3, (0, 1)), (2, (0, w 1 6)), (1, (0, y1 + 1)), (5, (0, z8)), (0, (1, 1))], [], w) _
            refine e_Ok.ps0 (q := 13) 1 rfl ?_
            refine e_Ok.sub kAlk (e_sub_of rfl ?_) (ih3 (y1 + 1) (w 1 6) 1 (y4 + 1) ⟨(by omega), (by first | (have a := kyp_n (i := y4) (by omega) (by rw [hz8]; omega); omega) | (have a := kyp_s (i := y4) (by omega) (by rw [hz8]; omega); omega)), (by omega)⟩ (by omega))
            exact ⟨rfl, rfl, rfl, rfl, rfl, trivial⟩
          · replace h10 : (y3 : Int) ≠ 0 := (show ¬ ((y3 : Int) = 0) from h10)
            refine e_Ok.ps2 (x := (1, 1)) (y := (0, y2)) (q := 80) 2 rfl ?_
            have h11 := (e_Has.get hH (c := 1) (k := 7) (lo := 0) (hi := 4000) rfl (by decide))
            refine e_Ok.getf (z := w 1 7) rfl (el_o rfl) rfl rfl rfl (e_bq h11 (by decide) (by decide)) ?_
            refine e_Ok.if2 rfl (fun h12 => ?_) (fun h12 => ?_)
            · replace h12 : (y2 : Int) ≠ w 1 7 := h12
              refine e_Ok.inc (z := y1 + 1) rfl rfl (by first | with_reducible rfl | omega) (by omega) ?_
              show e_Ok 20 elay kcode eI (d + 1) 126 (91, [(1, (0, y1 + 1)), (5, (0, z8)), (0, (1, 1)), (2, (0, y2)), (3, (0, y3)), (4, (0, y4))], [], w) _
              refine e_Ok.ps1 (x := (1, 1)) (q := 92) 1 rfl ?_
              refine e_Ok.getf (z := w 1 6) rfl (el_o rfl) rfl rfl rfl (by omega) ?_
              refine e_Ok.run (t' := (98, [(3, (0, 1)), (2, (0, w 1 6)), (1, (0, y1 + 1)), (5, (0, z8)), (0, (1, 1)), (4, (0, y4))], [], w)) 3 rfl ?_
              refine e_Ok.inc (z := y4 + 1) rfl rfl (by first | with_reducible rfl | omega) (by omega) ?_
              show e_Ok 20 elay kcode eI (d + 1) 126 (101, [(4, (0, y4 + 1)), (3, (0, 1)), (2, (0, w 1 6)), (1, (0, y1 + 1)), (5, (0, z8)), (0, (1, 1))], [], w) _
              refine e_Ok.ps0 (q := 13) 1 rfl ?_
              refine e_Ok.sub kAlk (e_sub_of rfl ?_) (ih3 (y1 + 1) (w 1 6) 1 (y4 + 1) ⟨(by omega), (by first | (have a := kyp_n (i := y4) (by omega) (by rw [hz8]; omega); omega) | (have a := kyp_s (i := y4) (by omega) (by rw [hz8]; omega); omega)), (by omega)⟩ (by omega))
              exact ⟨rfl, rfl, rfl, rfl, rfl, trivial⟩
            · replace h12 : (y2 : Int) = w 1 7 := Classical.not_not.mp (show ¬ ((y2 : Int) ≠ w 1 7) from h12)
              refine e_Ok.ps1 (x := (0, y1)) (q := 87) 1 rfl ?_
              refine e_Ok.rets rfl rfl ?_
              exact ⟨_, rfl, rfl, Or.inr (by have k := kyp_k (i := y4) (by omega) (by rw [hz8]; omega); omega)⟩
        · replace h9 : (z8 : Int) ≠ 32 := (show ¬ ((z8 : Int) = 32) from h9)
          refine e_Ok.ps1 (x := (0, y3)) (q := 40) 1 rfl ?_
          refine e_Ok.if1 rfl (fun h13 => ?_) (fun h13 => ?_)
          · replace h13 : (y3 : Int) = 0 := h13
            refine e_Ok.run (t' := (68, [(3, (0, 0)), (5, (0, z8)), (0, (1, 1)), (1, (0, y1)), (2, (0, y2)), (4, (0, y4))], [], w)) 2 rfl ?_
            refine e_Ok.inc (z := y2 + 1) rfl rfl (by first | with_reducible rfl | omega) (by omega) ?_
            show e_Ok 20 elay kcode eI (d + 1) 126 (71, [(2, (0, y2 + 1)), (3, (0, 0)), (5, (0, z8)), (0, (1, 1)), (1, (0, y1)), (4, (0, y4))], [], w) _
            refine e_Ok.ps0 (q := 98) 1 rfl ?_
            refine e_Ok.inc (z := y4 + 1) rfl rfl (by first | with_reducible rfl | omega) (by omega) ?_
            show e_Ok 20 elay kcode eI (d + 1) 126 (101, [(4, (0, y4 + 1)), (2, (0, y2 + 1)), (3, (0, 0)), (5, (0, z8)), (0, (1, 1)), (1, (0, y1))], [], w) _
            refine e_Ok.ps0 (q := 13) 1 rfl ?_
            refine e_Ok.sub kAlk (e_sub_of rfl ?_) (ih3 y1 (y2 + 1) 0 (y4 + 1) ⟨(by omega), (by first | (have a := kyp_n (i := y4) (by omega) (by rw [hz8]; omega); omega) | (have a := kyp_s (i := y4) (by omega) (by rw [hz8]; omega); omega)), (by omega)⟩ (by omega))
            exact ⟨rfl, rfl, rfl, rfl, rfl, trivial⟩
          · replace h13 : (y3 : Int) ≠ 0 := (show ¬ ((y3 : Int) = 0) from h13)
            refine e_Ok.ps2 (x := (1, 1)) (y := (0, y2)) (q := 45) 2 rfl ?_
            have h14 := (e_Has.get hH (c := 1) (k := 7) (lo := 0) (hi := 4000) rfl (by decide))
            refine e_Ok.getf (z := w 1 7) rfl (el_o rfl) rfl rfl rfl (e_bq h14 (by decide) (by decide)) ?_
            refine e_Ok.if2 rfl (fun h15 => ?_) (fun h15 => ?_)
            · replace h15 : (y2 : Int) ≥ w 1 7 := h15
              refine e_Ok.run (t' := (68, [(3, (0, 0)), (5, (0, z8)), (0, (1, 1)), (1, (0, y1)), (2, (0, y2)), (4, (0, y4))], [], w)) 2 rfl ?_
              refine e_Ok.inc (z := y2 + 1) rfl rfl (by first | with_reducible rfl | omega) (by omega) ?_
              show e_Ok 20 elay kcode eI (d + 1) 126 (71, [(2, (0, y2 + 1)), (3, (0, 0)), (5, (0, z8)), (0, (1, 1)), (1, (0, y1)), (4, (0, y4))], [], w) _
              refine e_Ok.ps0 (q := 98) 1 rfl ?_
              refine e_Ok.inc (z := y4 + 1) rfl rfl (by first | with_reducible rfl | omega) (by omega) ?_
              show e_Ok 20 elay kcode eI (d + 1) 126 (101, [(4, (0, y4 + 1)), (2, (0, y2 + 1)), (3, (0, 0)), (5, (0, z8)), (0, (1, 1)), (1, (0, y1))], [], w) _
              refine e_Ok.ps0 (q := 13) 1 rfl ?_
              refine e_Ok.sub kAlk (e_sub_of rfl ?_) (ih3 y1 (y2 + 1) 0 (y4 + 1) ⟨(by omega), (by first | (have a := kyp_n (i := y4) (by omega) (by rw [hz8]; omega); omega) | (have a := kyp_s (i := y4) (by omega) (by rw [hz8]; omega); omega)), (by omega)⟩ (by omega))
              exact ⟨rfl, rfl, rfl, rfl, rfl, trivial⟩
            · replace h15 : (y2 : Int) < w 1 7 := Int.not_le.mp (show ¬ ((y2 : Int) ≥ w 1 7) from h15)
              refine e_Ok.ps1 (x := (1, 1)) (q := 52) 1 rfl ?_
              refine e_Ok.getr (z := 5) rfl (el_o rfl) rfl rfl (e_Has.eq hT (kt_o rfl)) ⟨by decide, by decide⟩ ?_
              refine e_Ok.ps1 (x := (0, y2)) (q := 56) 1 rfl ?_
              have h16 := (e_Has.get hH (c := 5) (k := y2) (lo := (-2147483648)) (hi := 2147483647) rfl (by decide))
              refine e_Ok.ald (z := w 5 y2) rfl (el_o rfl) rfl (by omega) rfl (e_bq h16 (by decide) (by decide)) ?_
              refine e_Ok.ps1 (x := (0, z8)) (q := 59) 1 rfl ?_
              refine e_Ok.if2 rfl (fun h17 => ?_) (fun h17 => ?_)
              · replace h17 : (w 5 y2 : Int) ≠ z8 := h17
                refine e_Ok.run (t' := (68, [(3, (0, 0)), (5, (0, z8)), (0, (1, 1)), (1, (0, y1)), (2, (0, y2)), (4, (0, y4))], [], w)) 2 rfl ?_
                refine e_Ok.inc (z := y2 + 1) rfl rfl (by first | with_reducible rfl | omega) (by omega) ?_
                show e_Ok 20 elay kcode eI (d + 1) 126 (71, [(2, (0, y2 + 1)), (3, (0, 0)), (5, (0, z8)), (0, (1, 1)), (1, (0, y1)), (4, (0, y4))], [], w) _
                refine e_Ok.ps0 (q := 98) 1 rfl ?_
                refine e_Ok.inc (z := y4 + 1) rfl rfl (by first | with_reducible rfl | omega) (by omega) ?_
                show e_Ok 20 elay kcode eI (d + 1) 126 (101, [(4, (0, y4 + 1)), (2, (0, y2 + 1)), (3, (0, 0)), (5, (0, z8)), (0, (1, 1)), (1, (0, y1))], [], w) _
                refine e_Ok.ps0 (q := 13) 1 rfl ?_
                refine e_Ok.sub kAlk (e_sub_of rfl ?_) (ih3 y1 (y2 + 1) 0 (y4 + 1) ⟨(by omega), (by first | (have a := kyp_n (i := y4) (by omega) (by rw [hz8]; omega); omega) | (have a := kyp_s (i := y4) (by omega) (by rw [hz8]; omega); omega)), (by omega)⟩ (by omega))
                exact ⟨rfl, rfl, rfl, rfl, rfl, trivial⟩
              · replace h17 : (w 5 y2 : Int) = z8 := Classical.not_not.mp (show ¬ ((w 5 y2 : Int) ≠ z8) from h17)
                refine e_Ok.run (t' := (68, [(3, (0, 1)), (5, (0, z8)), (0, (1, 1)), (1, (0, y1)), (2, (0, y2)), (4, (0, y4))], [], w)) 3 rfl ?_
                refine e_Ok.inc (z := y2 + 1) rfl rfl (by first | with_reducible rfl | omega) (by omega) ?_
                show e_Ok 20 elay kcode eI (d + 1) 126 (71, [(2, (0, y2 + 1)), (3, (0, 1)), (5, (0, z8)), (0, (1, 1)), (1, (0, y1)), (4, (0, y4))], [], w) _
                refine e_Ok.ps0 (q := 98) 1 rfl ?_
                refine e_Ok.inc (z := y4 + 1) rfl rfl (by first | with_reducible rfl | omega) (by omega) ?_
                show e_Ok 20 elay kcode eI (d + 1) 126 (101, [(4, (0, y4 + 1)), (2, (0, y2 + 1)), (3, (0, 1)), (5, (0, z8)), (0, (1, 1)), (1, (0, y1))], [], w) _
                refine e_Ok.ps0 (q := 13) 1 rfl ?_
                refine e_Ok.sub kAlk (e_sub_of rfl ?_) (ih3 y1 (y2 + 1) 1 (y4 + 1) ⟨(by omega), (by first | (have a := kyp_n (i := y4) (by omega) (by rw [hz8]; omega); omega) | (have a := kyp_s (i := y4) (by omega) (by rw [hz8]; omega); omega)), (by omega)⟩ (by omega))
                exact ⟨rfl, rfl, rfl, rfl, rfl, trivial⟩
  refine e_Ok.sub kAlk (e_sub_of rfl ?_) (hL2 (172 + 1 : Int).toNat 21 (w 1 6) 1 0 ⟨(by omega), (by rw [kyp_0]; exact ⟨rfl, by show _ = w 1 6 + (0 : Int); omega⟩), (by omega)⟩ (by omega))
  exact ⟨rfl, rfl, rfl, rfl, rfl, trivial⟩
set_option maxHeartbeats 4000000 in
theorem c_125 {d : Nat} (hd : 22 ≤ d) {w : eW} (hT : e_Has kTy w) (hH : e_Has kRy w) (hn : w 1 7 < w 1 0) (ha : w 1 6 = w 1 7) (hdg : ((97 ≤ w 5 (w 1 7) % 256 ∧ w 5 (w 1 7) % 256 ≤ 122) ∨ (65 ≤ w 5 (w 1 7) % 256 ∧ w 5 (w 1 7) % 256 ≤ 90) ∨ (48 ≤ w 5 (w 1 7) % 256 ∧ w 5 (w 1 7) % 256 ≤ 57))) : e_Ok 20 elay kcode eI d 125 (0, [(0, (1, 1))], [], w) (fun r w' => r = [] ∧ e_fr kRn w w' ∧ e_Has kTy w' ∧ e_Has kRy w' ∧ (w 1 7 < w' 1 7 ∧ w' 1 7 ≤ w 1 0) ∧ ((w' 1 5 = 1 ∨ w' 1 5 = 3 ∨ (21 ≤ w' 1 5 ∧ w' 1 5 ≤ 53)) ∧ (21 ≤ w' 1 5 → w 1 7 + 2 ≤ w' 1 7) ∧ (w' 1 5 = 23 ∨ w' 1 5 = 41 ∨ w' 1 5 = 42 → w 1 7 + 3 ≤ w' 1 7))) := by
  obtain ⟨d, rfl⟩ : ∃ e, d = e + 1 := ⟨d - 1, by omega⟩
  have p0 := e_Has.get hH (c := 1) (k := 0) (lo := 0) (hi := 4000) rfl (by decide)
  have p6 := e_Has.get hH (c := 1) (k := 6) (lo := 0) (hi := 4000) rfl (by decide)
  have p7 := e_Has.get hH (c := 1) (k := 7) (lo := 0) (hi := 4000) rfl (by decide)
  have hL1 : ∀ (nn : Nat) (v1 : eW), e_fr kRn w v1 ∧ e_Has kTy v1 ∧ e_Has kRy v1 ∧ ((w 1 7 ≤ v1 1 7 ∧ v1 1 7 ≤ w 1 0)) ∧ ((w 1 7 < v1 1 7 ∨ (v1 1 7 = w 1 7 ∧ w 5 (v1 1 7) = w 5 (w 1 7)))) → 4001 - v1 1 7 < nn → e_Ok 20 elay kcode eI (d + 1) 125 (0, [(0, (1, 1))], [], v1) (fun r w' => r = [] ∧ e_fr kRn w w' ∧ e_Has kTy w' ∧ e_Has kRy w' ∧ (w 1 7 < w' 1 7 ∧ w' 1 7 ≤ w 1 0) ∧ ((w' 1 5 = 1 ∨ w' 1 5 = 3 ∨ (21 ≤ w' 1 5 ∧ w' 1 5 ≤ 53)) ∧ (21 ≤ w' 1 5 → w 1 7 + 2 ≤ w' 1 7) ∧ (w' 1 5 = 23 ∨ w' 1 5 = 41 ∨ w' 1 5 = 42 → w 1 7 + 3 ≤ w' 1 7))) := by
    intro nn
    induction nn with
    | zero => intro v1 hj hm; obtain ⟨j3, j4, j5, j6, j7⟩ := hj; exfalso; omega
    | succ nn ih2 =>
      intro v1 hj hm
      obtain ⟨j3, j4, j5, j6, j7⟩ := hj
      have u7 := e_Has.get j5 (c := 1) (k := 7) (lo := 0) (hi := 4000) rfl (by decide)
      refine e_Ok.run (t' := (1, [(0, (1, 1))], [(1, 1)], v1)) 1 rfl ?_
      refine e_Ok.getf (z := v1 1 7) rfl (el_o rfl) rfl rfl rfl (by omega) ?_
      refine e_Ok.ps1 (x := (1, 1)) (q := 5) 1 rfl ?_
      have h8 := (e_Has.get hH (c := 1) (k := 0) (lo := 0) (hi := 4000) rfl (by decide))
      refine e_Ok.getf (z := w 1 0) rfl (el_o rfl) rfl rfl ((j3 1 0 no_dl_0).trans rfl) (e_bq h8 (by decide) (by decide)) ?_
      refine e_Ok.if2 rfl (fun h9 => ?_) (fun h9 => ?_)
      · replace h9 : (v1 1 7 : Int) ≥ w 1 0 := h9
        refine e_Ok.ps2 (x := (1, 1)) (y := (1, 1)) (q := 40) 2 rfl ?_
        refine e_Ok.getf (z := v1 1 7) rfl (el_o rfl) rfl rfl rfl (by omega) ?_
        refine e_Ok.ps1 (x := (1, 1)) (q := 44) 1 rfl ?_
        have h10 := (e_Has.get hH (c := 1) (k := 6) (lo := 0) (hi := 4000) rfl (by decide))
        refine e_Ok.getf (z := w 1 6) rfl (el_o rfl) rfl rfl ((j3 1 6 no_dl_1).trans rfl) (e_bq h10 (by decide) (by decide)) ?_
        refine e_Ok.sub' (z := v1 1 7 - w 1 6) rfl rfl (by omega) ?_
        refine e_Ok.ps1 (x := (0, 24)) (q := 50) 1 rfl ?_
        refine e_Ok.if2 rfl (fun h11 => ?_) (fun h11 => ?_)
        · replace h11 : (v1 1 7 - w 1 6 : Int) ≤ 24 := h11
          refine e_Ok.ps1 (x := (1, 1)) (q := 58) 1 rfl ?_
          have b6 : v1 1 6 = w 1 6 := ((j3 1 6 no_dl_1).trans rfl)
          have b0 : v1 1 0 = w 1 0 := ((j3 1 0 no_dl_0).trans rfl)
          have b7 : v1 1 7 = v1 1 7 := rfl
          refine e_Ok.callV rfl (e_dq hd rfl) rfl rfl rfl rfl (c_126 (e_dq hd rfl) j4 j5 (by omega) (by omega)) (fun r12 w13 h14 => ?_)
          obtain ⟨z15, rfl, rfl, qk⟩ := h14
          have qkr : 1 ≤ z15 ∧ z15 ≤ 53 := by omega
          refine e_Ok.nrm (q := 61) (st' := [(0, z15), (1, 1)]) rfl rfl ?_
          refine e_Ok.putf rfl (el_o rfl) rfl rfl ?_
          generalize hw16 : e_up v1 1 5 z15 = w16
          have hT18 : e_Has kTy w16 := e_Has.ups j4 hw16 rfl
          have hH19 : e_Has kRy w16 := e_Has.upr j5 hw16 rfl (by omega)
          refine e_Ok.rets rfl rfl ?_
          have y5 : w16 1 5 = z15 := (e_ue hw16)
          have y6 : w16 1 6 = w 1 6 := (e_uq hw16 (Or.inr (by decide)) ((j3 1 6 no_dl_1).trans rfl))
          have y7 : w16 1 7 = v1 1 7 := (e_uq hw16 (Or.inr (by decide)) rfl)
          have y8 : w16 1 8 = v1 1 8 := (e_uq hw16 (Or.inr (by decide)) rfl)
          exact ⟨rfl, (show e_fr kRn w w16 from e_fr.up j3 hw16 (by first | exact ⟨rfl, Or.inl rfl⟩ | (unfold kRn; omega))), hT18, hH19, (by omega), ⟨(by omega), (by omega), (by omega)⟩⟩
        · replace h11 : (v1 1 7 - w 1 6 : Int) > 24 := Int.not_le.mp (show ¬ ((v1 1 7 - w 1 6 : Int) ≤ 24) from h11)
          refine e_Ok.ps1 (x := (0, 3)) (q := 61) 2 rfl ?_
          refine e_Ok.putf rfl (el_o rfl) rfl rfl ?_
          generalize hw20 : e_up v1 1 5 3 = w20
          have hT22 : e_Has kTy w20 := e_Has.ups j4 hw20 rfl
          have hH23 : e_Has kRy w20 := e_Has.upr j5 hw20 rfl (by omega)
          refine e_Ok.rets rfl rfl ?_
          have y5 : w20 1 5 = 3 := (e_ue hw20)
          have y6 : w20 1 6 = w 1 6 := (e_uq hw20 (Or.inr (by decide)) ((j3 1 6 no_dl_1).trans rfl))
          have y7 : w20 1 7 = v1 1 7 := (e_uq hw20 (Or.inr (by decide)) rfl)
          have y8 : w20 1 8 = v1 1 8 := (e_uq hw20 (Or.inr (by decide)) rfl)
          exact ⟨rfl, (show e_fr kRn w w20 from e_fr.up j3 hw20 (by first | exact ⟨rfl, Or.inl rfl⟩ | (unfold kRn; omega))), hT22, hH23, (by omega), ⟨(by omega), (by omega), (by omega)⟩⟩
      · replace h9 : (v1 1 7 : Int) < w 1 0 := Int.not_le.mp (show ¬ ((v1 1 7 : Int) ≥ w 1 0) from h9)
        refine e_Ok.ps2 (x := (1, 1)) (y := (1, 1)) (q := 13) 2 rfl ?_
        refine e_Ok.getf (z := v1 1 7) rfl (el_o rfl) rfl rfl rfl (by omega) ?_
        refine e_Ok.callV rfl (e_dq hd rfl) rfl rfl rfl rfl (c_120 j4 j5 (by omega)) (fun r24 w25 h26 => ?_)
        obtain ⟨z27, rfl, rfl, q28r, q28x⟩ := h26
        replace q28x : (0 ≤ (v1 1 7) ∧ (v1 1 7) < (w 1 0) ∧ z27 = (w 5 (v1 1 7)) % 256) ∨ (((v1 1 7) < 0 ∨ (w 1 0) ≤ (v1 1 7)) ∧ z27 = 0) := by rw [show v1 1 0 = w 1 0 from ((j3 1 0 no_dl_0).trans rfl), show v1 5 (v1 1 7) = w 5 (v1 1 7) from ((j3 5 (v1 1 7) no_dl_2).trans rfl)] at q28x; exact q28x
        refine e_Ok.nrm (q := 19) (st' := [(0, z27)]) rfl rfl ?_
        refine e_Ok.callS rfl (e_dq hd rfl) rfl rfl (c_122 (by omega)) (fun r29 w30 h31 => ?_)
        obtain ⟨z32, rfl, rfl, q33⟩ := h31
        obtain ⟨rfl, q33⟩ | ⟨rfl, q33⟩ := q33
        · refine e_Ok.nrm (q := 22) (st' := [(0, 1)]) rfl rfl ?_
          refine e_Ok.if1 rfl (fun h34 => ?_) (fun h34 => ?_)
          · replace h34 : (1 : Int) = 0 := h34
            exfalso; omega
          · replace h34 : (1 : Int) ≠ 0 := (show ¬ ((1 : Int) = 0) from h34)
            refine e_Ok.ps2 (x := (1, 1)) (y := (1, 1)) (q := 27) 2 rfl ?_
            refine e_Ok.getf (z := v1 1 7) rfl (el_o rfl) rfl rfl rfl (by omega) ?_
            refine e_Ok.ps1 (x := (0, 1)) (q := 31) 1 rfl ?_
            refine e_Ok.add (z := v1 1 7 + 1) rfl rfl (by omega) ?_
            refine e_Ok.putf rfl (el_o rfl) rfl rfl ?_
            generalize hw35 : e_up v1 1 7 (v1 1 7 + 1) = w35
            have hT37 : e_Has kTy w35 := e_Has.ups j4 hw35 rfl
            have hH38 : e_Has kRy w35 := e_Has.upr j5 hw35 rfl (by omega)
            refine e_Ok.ps0 (q := 0) 1 rfl ?_
            refine e_Ok.sub kAlk (e_sub_of rfl ?_) (ih2  w35 ⟨(show e_fr kRn w w35 from e_fr.up j3 hw35 (by first | exact ⟨rfl, Or.inr (Or.inl rfl)⟩ | (unfold kRn; omega))), hT37, hH38, (by have g7 : w35 1 7 = v1 1 7 + 1 := (e_ue hw35); omega), (Or.inl (by have g7 : w35 1 7 = v1 1 7 + 1 := (e_ue hw35); omega))⟩ ((by have g7 : w35 1 7 = v1 1 7 + 1 := (e_ue hw35); omega)))
            exact ⟨rfl, trivial⟩
        · refine e_Ok.nrm (q := 22) (st' := [(0, 0)]) rfl rfl ?_
          refine e_Ok.if1 rfl (fun h40 => ?_) (fun h40 => ?_)
          · replace h40 : (0 : Int) = 0 := h40
            refine e_Ok.ps2 (x := (1, 1)) (y := (1, 1)) (q := 40) 2 rfl ?_
            refine e_Ok.getf (z := v1 1 7) rfl (el_o rfl) rfl rfl rfl (by omega) ?_
            refine e_Ok.ps1 (x := (1, 1)) (q := 44) 1 rfl ?_
            have h41 := (e_Has.get hH (c := 1) (k := 6) (lo := 0) (hi := 4000) rfl (by decide))
            refine e_Ok.getf (z := w 1 6) rfl (el_o rfl) rfl rfl ((j3 1 6 no_dl_1).trans rfl) (e_bq h41 (by decide) (by decide)) ?_
            refine e_Ok.sub' (z := v1 1 7 - w 1 6) rfl rfl (by omega) ?_
            refine e_Ok.ps1 (x := (0, 24)) (q := 50) 1 rfl ?_
            refine e_Ok.if2 rfl (fun h42 => ?_) (fun h42 => ?_)
            · replace h42 : (v1 1 7 - w 1 6 : Int) ≤ 24 := h42
              refine e_Ok.ps1 (x := (1, 1)) (q := 58) 1 rfl ?_
              have b6 : v1 1 6 = w 1 6 := ((j3 1 6 no_dl_1).trans rfl)
              have b0 : v1 1 0 = w 1 0 := ((j3 1 0 no_dl_0).trans rfl)
              have b7 : v1 1 7 = v1 1 7 := rfl
              refine e_Ok.callV rfl (e_dq hd rfl) rfl rfl rfl rfl (c_126 (e_dq hd rfl) j4 j5 (by omega) (by omega)) (fun r43 w44 h45 => ?_)
              obtain ⟨z46, rfl, rfl, qk⟩ := h45
              have qkr : 1 ≤ z46 ∧ z46 ≤ 53 := by omega
              refine e_Ok.nrm (q := 61) (st' := [(0, z46), (1, 1)]) rfl rfl ?_
              refine e_Ok.putf rfl (el_o rfl) rfl rfl ?_
              generalize hw47 : e_up v1 1 5 z46 = w47
              have hT49 : e_Has kTy w47 := e_Has.ups j4 hw47 rfl
              have hH50 : e_Has kRy w47 := e_Has.upr j5 hw47 rfl (by omega)
              refine e_Ok.rets rfl rfl ?_
              have y5 : w47 1 5 = z46 := (e_ue hw47)
              have y6 : w47 1 6 = w 1 6 := (e_uq hw47 (Or.inr (by decide)) ((j3 1 6 no_dl_1).trans rfl))
              have y7 : w47 1 7 = v1 1 7 := (e_uq hw47 (Or.inr (by decide)) rfl)
              have y8 : w47 1 8 = v1 1 8 := (e_uq hw47 (Or.inr (by decide)) rfl)
              exact ⟨rfl, (show e_fr kRn w w47 from e_fr.up j3 hw47 (by first | exact ⟨rfl, Or.inl rfl⟩ | (unfold kRn; omega))), hT49, hH50, (by omega), ⟨(by omega), (by omega), (by omega)⟩⟩
            · replace h42 : (v1 1 7 - w 1 6 : Int) > 24 := Int.not_le.mp (show ¬ ((v1 1 7 - w 1 6 : Int) ≤ 24) from h42)
              refine e_Ok.ps1 (x := (0, 3)) (q := 61) 2 rfl ?_
              refine e_Ok.putf rfl (el_o rfl) rfl rfl ?_
              generalize hw51 : e_up v1 1 5 3 = w51
              have hT53 : e_Has kTy w51 := e_Has.ups j4 hw51 rfl
              have hH54 : e_Has kRy w51 := e_Has.upr j5 hw51 rfl (by omega)
              refine e_Ok.rets rfl rfl ?_
              have y5 : w51 1 5 = 3 := (e_ue hw51)
              have y6 : w51 1 6 = w 1 6 := (e_uq hw51 (Or.inr (by decide)) ((j3 1 6 no_dl_1).trans rfl))
              have y7 : w51 1 7 = v1 1 7 := (e_uq hw51 (Or.inr (by decide)) rfl)
              have y8 : w51 1 8 = v1 1 8 := (e_uq hw51 (Or.inr (by decide)) rfl)
              exact ⟨rfl, (show e_fr kRn w w51 from e_fr.up j3 hw51 (by first | exact ⟨rfl, Or.inl rfl⟩ | (unfold kRn; omega))), hT53, hH54, (by omega), ⟨(by omega), (by omega), (by omega)⟩⟩
          · replace h40 : (0 : Int) ≠ 0 := (show ¬ ((0 : Int) = 0) from h40)
            exfalso; omega
  refine e_Ok.sub kAlk (e_sub_of rfl ?_) (hL1 (4001 + 1 : Int).toNat  w ⟨(e_fr.refl w), hT, hH, (by omega), (Or.inr ⟨rfl, rfl⟩)⟩ (by omega))
  exact ⟨rfl, trivial⟩
set_option maxHeartbeats 4000000 in
theorem c_128 {d : Nat} (hd : 21 ≤ d) {w : eW} (hT : e_Has kTy w) (hH : e_Has kRy w) (hn : w 1 7 < w 1 0) (ha : w 1 6 = w 1 7) {c : Int} (g_c : 0 ≤ c ∧ c ≤ 255) : e_Ok 20 elay kcode eI d 128 (0, [(0, (1, 1)), (1, (0, c))], [], w) (fun r w' => r = [] ∧ e_fr kRn w w' ∧ e_Has kTy w' ∧ e_Has kRy w' ∧ (w 1 7 < w' 1 7 ∧ w' 1 7 ≤ w 1 0) ∧ (w' 1 5 = 3 ∨ (5 ≤ w' 1 5 ∧ w' 1 5 ≤ 20))) := by
  obtain ⟨d, rfl⟩ : ∃ e, d = e + 1 := ⟨d - 1, by omega⟩
  have p0 := e_Has.get hH (c := 1) (k := 0) (lo := 0) (hi := 4000) rfl (by decide)
  have p6 := e_Has.get hH (c := 1) (k := 6) (lo := 0) (hi := 4000) rfl (by decide)
  have p7 := e_Has.get hH (c := 1) (k := 7) (lo := 0) (hi := 4000) rfl (by decide)
  refine e_Ok.ps2 (x := (1, 1)) (y := (1, 1)) (q := 2) 2 rfl ?_
  have h1 := (e_Has.get hH (c := 1) (k := 7) (lo := 0) (hi := 4000) rfl (by decide))
  refine e_Ok.getf (z := w 1 7) rfl (el_o rfl) rfl rfl rfl (e_bq h1 (by decide) (by decide)) ?_
  refine e_Ok.ps1 (x := (0, 1)) (q := 6) 1 rfl ?_
  refine e_Ok.add (z := w 1 7 + 1) rfl rfl (by omega) ?_
  refine e_Ok.putf rfl (el_o rfl) rfl rfl ?_
  generalize hw2 : e_up w 1 7 (w 1 7 + 1) = w2
  have f3 : e_fr kRn w w2 := e_fr.up (e_fr.refl w) hw2 (by first | exact ⟨rfl, Or.inr (Or.inl rfl)⟩ | (unfold kRn; omega))
  have hT4 : e_Has kTy w2 := e_Has.ups hT hw2 (kt_o rfl)
  have hH5 : e_Has kRy w2 := e_Has.upr hH hw2 rfl (by omega)
  refine e_Ok.ps1 (x := (1, 358)) (q := 12) 1 rfl ?_
  refine e_Ok.ps1 (x := (0, c)) (q := 13) 1 rfl ?_
  refine e_Ok.i2c rfl (fun z6 => ?_)
  refine e_Ok.ix rfl rfl (fun z7 z7r => ?_)
  refine e_Ok.run (t' := (20, [(2, (0, z7)), (0, (1, 1)), (1, (0, c))], [(0, z7), (1, 1)], w2)) 3 rfl ?_
  refine e_Ok.if1 rfl (fun h8 => ?_) (fun h8 => ?_)
  · replace h8 : (z7 : Int) ≥ 0 := h8
    refine e_Ok.ps2 (x := (0, z7)) (y := (0, 8)) (q := 30) 2 rfl ?_
    refine e_Ok.add (z := z7 + 8) rfl (Int.add_comm _ _) (by omega) ?_
    refine e_Ok.putf rfl (el_o rfl) rfl rfl ?_
    generalize hw9 : e_up w2 1 5 (z7 + 8) = w9
    have f10 : e_fr kRn w w9 := e_fr.up f3 hw9 (by first | exact ⟨rfl, Or.inl rfl⟩ | (unfold kRn; omega))
    have hT11 : e_Has kTy w9 := e_Has.ups hT4 hw9 (kt_o rfl)
    have hH12 : e_Has kRy w9 := e_Has.upr hH5 hw9 rfl (by omega)
    refine e_Ok.ps2 (x := (1, 1)) (y := (1, 1)) (q := 36) 2 rfl ?_
    refine e_Ok.getf (z := w 1 7 + 1) rfl (el_o rfl) rfl rfl (e_uq hw9 (Or.inr (by decide)) (e_ue hw2)) (by omega) ?_
    refine e_Ok.callV rfl (e_dq hd rfl) rfl rfl rfl rfl (c_120 hT11 hH12 (by omega)) (fun r13 w14 h15 => ?_)
    obtain ⟨z16, rfl, rfl, q17r, q17x⟩ := h15
    replace q17x : (0 ≤ (w 1 7 + 1) ∧ (w 1 7 + 1) < (w 1 0) ∧ z16 = (w 5 (w 1 7 + 1)) % 256) ∨ (((w 1 7 + 1) < 0 ∨ (w 1 0) ≤ (w 1 7 + 1)) ∧ z16 = 0) := by rw [show w9 1 0 = w 1 0 from (e_uq hw9 (Or.inr (by first | decide | omega)) (e_uq hw2 (Or.inr (by first | decide | omega)) rfl)), show w9 5 (w 1 7 + 1) = w 5 (w 1 7 + 1) from (e_uq hw9 (Or.inl (by first | decide | omega)) (e_uq hw2 (Or.inl (by first | decide | omega)) rfl))] at q17x; exact q17x
    refine e_Ok.nrm (q := 42) (st' := [(0, z16)]) rfl rfl ?_
    refine e_Ok.ps1 (x := (0, 61)) (q := 44) 1 rfl ?_
    refine e_Ok.if2 rfl (fun h18 => ?_) (fun h18 => ?_)
    · replace h18 : (z16 : Int) = 61 := h18
      refine e_Ok.ps2 (x := (0, 33)) (y := (0, c)) (q := 51) 2 rfl ?_
      refine e_Ok.if2 rfl (fun h19 => ?_) (fun h19 => ?_)
      · replace h19 : (c : Int) ≠ 33 := h19
        refine e_Ok.ps2 (x := (0, 60)) (y := (0, c)) (q := 65) 2 rfl ?_
        refine e_Ok.if2 rfl (fun h20 => ?_) (fun h20 => ?_)
        · replace h20 : (c : Int) ≠ 60 := h20
          refine e_Ok.ps2 (x := (0, 62)) (y := (0, c)) (q := 80) 2 rfl ?_
          refine e_Ok.if2 rfl (fun h21 => ?_) (fun h21 => ?_)
          · replace h21 : (c : Int) ≠ 62 := h21
            refine e_Ok.rets rfl rfl ?_
            have y5 : w9 1 5 = z7 + 8 := (e_ue hw9)
            have y6 : w9 1 6 = w 1 6 := (e_uq hw9 (Or.inr (by decide)) (e_uq hw2 (Or.inr (by decide)) rfl))
            have y7 : w9 1 7 = w 1 7 + 1 := (e_uq hw9 (Or.inr (by decide)) (e_ue hw2))
            have y8 : w9 1 8 = w 1 8 := (e_uq hw9 (Or.inr (by decide)) (e_uq hw2 (Or.inr (by decide)) rfl))
            exact ⟨rfl, f10, hT11, hH12, (by omega), (by omega)⟩
          · replace h21 : (c : Int) = 62 := Classical.not_not.mp (show ¬ ((c : Int) ≠ 62) from h21)
            refine e_Ok.ps2 (x := (0, 7)) (y := (1, 1)) (q := 86) 2 rfl ?_
            refine e_Ok.putf rfl (el_o rfl) rfl rfl ?_
            generalize hw22 : e_up w9 1 5 7 = w22
            have hT24 : e_Has kTy w22 := e_Has.ups hT11 hw22 (kt_o rfl)
            have hH25 : e_Has kRy w22 := e_Has.upr hH12 hw22 rfl (by omega)
            refine e_Ok.ps2 (x := (1, 1)) (y := (1, 1)) (q := 95) 3 rfl ?_
            refine e_Ok.getf (z := w 1 7 + 1) rfl (el_o rfl) rfl rfl (e_uq hw22 (Or.inr (by decide)) (e_uq hw9 (Or.inr (by decide)) (e_ue hw2))) (by omega) ?_
            refine e_Ok.ps1 (x := (0, 1)) (q := 99) 1 rfl ?_
            refine e_Ok.add (z := w 1 7 + 2) rfl (e_adl (by decide)) (by omega) ?_
            refine e_Ok.putf rfl (el_o rfl) rfl rfl ?_
            generalize hw26 : e_up w22 1 7 (w 1 7 + 2) = w26
            have hT28 : e_Has kTy w26 := e_Has.ups hT24 hw26 (kt_o rfl)
            have hH29 : e_Has kRy w26 := e_Has.upr hH25 hw26 rfl (by omega)
            refine e_Ok.rets rfl rfl ?_
            have y5 : w26 1 5 = 7 := (e_uq hw26 (Or.inr (by decide)) (e_ue hw22))
            have y6 : w26 1 6 = w 1 6 := (e_uq hw26 (Or.inr (by decide)) (e_uq hw22 (Or.inr (by decide)) (e_uq hw9 (Or.inr (by decide)) (e_uq hw2 (Or.inr (by decide)) rfl))))
            have y7 : w26 1 7 = w 1 7 + 2 := (e_ue hw26)
            have y8 : w26 1 8 = w 1 8 := (e_uq hw26 (Or.inr (by decide)) (e_uq hw22 (Or.inr (by decide)) (e_uq hw9 (Or.inr (by decide)) (e_uq hw2 (Or.inr (by decide)) rfl))))
            exact ⟨rfl, (show e_fr kRn w w26 from e_fr.up (show e_fr kRn w w22 from e_fr.up f10 hw22 (by first | exact ⟨rfl, Or.inl rfl⟩ | (unfold kRn; omega))) hw26 (by first | exact ⟨rfl, Or.inr (Or.inl rfl)⟩ | (unfold kRn; omega))), hT28, hH29, (by omega), (by omega)⟩
        · replace h20 : (c : Int) = 60 := Classical.not_not.mp (show ¬ ((c : Int) ≠ 60) from h20)
          refine e_Ok.ps2 (x := (0, 6)) (y := (1, 1)) (q := 71) 2 rfl ?_
          refine e_Ok.putf rfl (el_o rfl) rfl rfl ?_
          generalize hw30 : e_up w9 1 5 6 = w30
          have hT32 : e_Has kTy w30 := e_Has.ups hT11 hw30 (kt_o rfl)
          have hH33 : e_Has kRy w30 := e_Has.upr hH12 hw30 rfl (by omega)
          refine e_Ok.ps2 (x := (1, 1)) (y := (1, 1)) (q := 95) 3 rfl ?_
          refine e_Ok.getf (z := w 1 7 + 1) rfl (el_o rfl) rfl rfl (e_uq hw30 (Or.inr (by decide)) (e_uq hw9 (Or.inr (by decide)) (e_ue hw2))) (by omega) ?_
          refine e_Ok.ps1 (x := (0, 1)) (q := 99) 1 rfl ?_
          refine e_Ok.add (z := w 1 7 + 2) rfl (e_adl (by decide)) (by omega) ?_
          refine e_Ok.putf rfl (el_o rfl) rfl rfl ?_
          generalize hw34 : e_up w30 1 7 (w 1 7 + 2) = w34
          have hT36 : e_Has kTy w34 := e_Has.ups hT32 hw34 (kt_o rfl)
          have hH37 : e_Has kRy w34 := e_Has.upr hH33 hw34 rfl (by omega)
          refine e_Ok.rets rfl rfl ?_
          have y5 : w34 1 5 = 6 := (e_uq hw34 (Or.inr (by decide)) (e_ue hw30))
          have y6 : w34 1 6 = w 1 6 := (e_uq hw34 (Or.inr (by decide)) (e_uq hw30 (Or.inr (by decide)) (e_uq hw9 (Or.inr (by decide)) (e_uq hw2 (Or.inr (by decide)) rfl))))
          have y7 : w34 1 7 = w 1 7 + 2 := (e_ue hw34)
          have y8 : w34 1 8 = w 1 8 := (e_uq hw34 (Or.inr (by decide)) (e_uq hw30 (Or.inr (by decide)) (e_uq hw9 (Or.inr (by decide)) (e_uq hw2 (Or.inr (by decide)) rfl))))
          exact ⟨rfl, (show e_fr kRn w w34 from e_fr.up (show e_fr kRn w w30 from e_fr.up f10 hw30 (by first | exact ⟨rfl, Or.inl rfl⟩ | (unfold kRn; omega))) hw34 (by first | exact ⟨rfl, Or.inr (Or.inl rfl)⟩ | (unfold kRn; omega))), hT36, hH37, (by omega), (by omega)⟩
      · replace h19 : (c : Int) = 33 := Classical.not_not.mp (show ¬ ((c : Int) ≠ 33) from h19)
        refine e_Ok.ps2 (x := (0, 5)) (y := (1, 1)) (q := 56) 2 rfl ?_
        refine e_Ok.putf rfl (el_o rfl) rfl rfl ?_
        generalize hw38 : e_up w9 1 5 5 = w38
        have hT41 : e_Has kTy w38 := e_Has.ups hT11 hw38 (kt_o rfl)
        have hH42 : e_Has kRy w38 := e_Has.upr hH12 hw38 rfl (by omega)
        refine e_Ok.ps2 (x := (1, 1)) (y := (1, 1)) (q := 95) 3 rfl ?_
        refine e_Ok.getf (z := w 1 7 + 1) rfl (el_o rfl) rfl rfl (e_uq hw38 (Or.inr (by decide)) (e_uq hw9 (Or.inr (by decide)) (e_ue hw2))) (by omega) ?_
        refine e_Ok.ps1 (x := (0, 1)) (q := 99) 1 rfl ?_
        refine e_Ok.add (z := w 1 7 + 2) rfl (e_adl (by decide)) (by omega) ?_
        refine e_Ok.putf rfl (el_o rfl) rfl rfl ?_
        generalize hw43 : e_up w38 1 7 (w 1 7 + 2) = w43
        have hT45 : e_Has kTy w43 := e_Has.ups hT41 hw43 (kt_o rfl)
        have hH46 : e_Has kRy w43 := e_Has.upr hH42 hw43 rfl (by omega)
        refine e_Ok.rets rfl rfl ?_
        have y5 : w43 1 5 = 5 := (e_uq hw43 (Or.inr (by decide)) (e_ue hw38))
        have y6 : w43 1 6 = w 1 6 := (e_uq hw43 (Or.inr (by decide)) (e_uq hw38 (Or.inr (by decide)) (e_uq hw9 (Or.inr (by decide)) (e_uq hw2 (Or.inr (by decide)) rfl))))
        have y7 : w43 1 7 = w 1 7 + 2 := (e_ue hw43)
        have y8 : w43 1 8 = w 1 8 := (e_uq hw43 (Or.inr (by decide)) (e_uq hw38 (Or.inr (by decide)) (e_uq hw9 (Or.inr (by decide)) (e_uq hw2 (Or.inr (by decide)) rfl))))
        exact ⟨rfl, (show e_fr kRn w w43 from e_fr.up (show e_fr kRn w w38 from e_fr.up f10 hw38 (by first | exact ⟨rfl, Or.inl rfl⟩ | (unfold kRn; omega))) hw43 (by first | exact ⟨rfl, Or.inr (Or.inl rfl)⟩ | (unfold kRn; omega))), hT45, hH46, (by omega), (by omega)⟩
    · replace h18 : (z16 : Int) ≠ 61 := (show ¬ ((z16 : Int) = 61) from h18)
      refine e_Ok.rets rfl rfl ?_
      have y5 : w9 1 5 = z7 + 8 := (e_ue hw9)
      have y6 : w9 1 6 = w 1 6 := (e_uq hw9 (Or.inr (by decide)) (e_uq hw2 (Or.inr (by decide)) rfl))
      have y7 : w9 1 7 = w 1 7 + 1 := (e_uq hw9 (Or.inr (by decide)) (e_ue hw2))
      have y8 : w9 1 8 = w 1 8 := (e_uq hw9 (Or.inr (by decide)) (e_uq hw2 (Or.inr (by decide)) rfl))
      exact ⟨rfl, f10, hT11, hH12, (by omega), (by omega)⟩
  · replace h8 : (z7 : Int) < 0 := Int.not_le.mp (show ¬ ((z7 : Int) ≥ 0) from h8)
    refine e_Ok.ps1 (x := (0, 3)) (q := 31) 2 rfl ?_
    refine e_Ok.putf rfl (el_o rfl) rfl rfl ?_
    generalize hw47 : e_up w2 1 5 3 = w47
    have f48 : e_fr kRn w w47 := e_fr.up f3 hw47 (by first | exact ⟨rfl, Or.inl rfl⟩ | (unfold kRn; omega))
    have hT49 : e_Has kTy w47 := e_Has.ups hT4 hw47 (kt_o rfl)
    have hH50 : e_Has kRy w47 := e_Has.upr hH5 hw47 rfl (by omega)
    refine e_Ok.ps2 (x := (1, 1)) (y := (1, 1)) (q := 36) 2 rfl ?_
    refine e_Ok.getf (z := w 1 7 + 1) rfl (el_o rfl) rfl rfl (e_uq hw47 (Or.inr (by decide)) (e_ue hw2)) (by omega) ?_
    refine e_Ok.callV rfl (e_dq hd rfl) rfl rfl rfl rfl (c_120 hT49 hH50 (by omega)) (fun r51 w52 h53 => ?_)
    obtain ⟨z54, rfl, rfl, q55r, q55x⟩ := h53
    replace q55x : (0 ≤ (w 1 7 + 1) ∧ (w 1 7 + 1) < (w 1 0) ∧ z54 = (w 5 (w 1 7 + 1)) % 256) ∨ (((w 1 7 + 1) < 0 ∨ (w 1 0) ≤ (w 1 7 + 1)) ∧ z54 = 0) := by rw [show w47 1 0 = w 1 0 from (e_uq hw47 (Or.inr (by first | decide | omega)) (e_uq hw2 (Or.inr (by first | decide | omega)) rfl)), show w47 5 (w 1 7 + 1) = w 5 (w 1 7 + 1) from (e_uq hw47 (Or.inl (by first | decide | omega)) (e_uq hw2 (Or.inl (by first | decide | omega)) rfl))] at q55x; exact q55x
    refine e_Ok.nrm (q := 42) (st' := [(0, z54)]) rfl rfl ?_
    refine e_Ok.ps1 (x := (0, 61)) (q := 44) 1 rfl ?_
    refine e_Ok.if2 rfl (fun h56 => ?_) (fun h56 => ?_)
    · replace h56 : (z54 : Int) = 61 := h56
      refine e_Ok.ps2 (x := (0, 33)) (y := (0, c)) (q := 51) 2 rfl ?_
      refine e_Ok.if2 rfl (fun h57 => ?_) (fun h57 => ?_)
      · replace h57 : (c : Int) ≠ 33 := h57
        refine e_Ok.ps2 (x := (0, 60)) (y := (0, c)) (q := 65) 2 rfl ?_
        refine e_Ok.if2 rfl (fun h58 => ?_) (fun h58 => ?_)
        · replace h58 : (c : Int) ≠ 60 := h58
          refine e_Ok.ps2 (x := (0, 62)) (y := (0, c)) (q := 80) 2 rfl ?_
          refine e_Ok.if2 rfl (fun h59 => ?_) (fun h59 => ?_)
          · replace h59 : (c : Int) ≠ 62 := h59
            refine e_Ok.rets rfl rfl ?_
            have y5 : w47 1 5 = 3 := (e_ue hw47)
            have y6 : w47 1 6 = w 1 6 := (e_uq hw47 (Or.inr (by decide)) (e_uq hw2 (Or.inr (by decide)) rfl))
            have y7 : w47 1 7 = w 1 7 + 1 := (e_uq hw47 (Or.inr (by decide)) (e_ue hw2))
            have y8 : w47 1 8 = w 1 8 := (e_uq hw47 (Or.inr (by decide)) (e_uq hw2 (Or.inr (by decide)) rfl))
            exact ⟨rfl, f48, hT49, hH50, (by omega), (by omega)⟩
          · replace h59 : (c : Int) = 62 := Classical.not_not.mp (show ¬ ((c : Int) ≠ 62) from h59)
            refine e_Ok.ps2 (x := (0, 7)) (y := (1, 1)) (q := 86) 2 rfl ?_
            refine e_Ok.putf rfl (el_o rfl) rfl rfl ?_
            generalize hw60 : e_up w47 1 5 7 = w60
            have hT62 : e_Has kTy w60 := e_Has.ups hT49 hw60 (kt_o rfl)
            have hH63 : e_Has kRy w60 := e_Has.upr hH50 hw60 rfl (by omega)
            refine e_Ok.ps2 (x := (1, 1)) (y := (1, 1)) (q := 95) 3 rfl ?_
            refine e_Ok.getf (z := w 1 7 + 1) rfl (el_o rfl) rfl rfl (e_uq hw60 (Or.inr (by decide)) (e_uq hw47 (Or.inr (by decide)) (e_ue hw2))) (by omega) ?_
            refine e_Ok.ps1 (x := (0, 1)) (q := 99) 1 rfl ?_
            refine e_Ok.add (z := w 1 7 + 2) rfl (e_adl (by decide)) (by omega) ?_
            refine e_Ok.putf rfl (el_o rfl) rfl rfl ?_
            generalize hw64 : e_up w60 1 7 (w 1 7 + 2) = w64
            have hT66 : e_Has kTy w64 := e_Has.ups hT62 hw64 (kt_o rfl)
            have hH67 : e_Has kRy w64 := e_Has.upr hH63 hw64 rfl (by omega)
            refine e_Ok.rets rfl rfl ?_
            have y5 : w64 1 5 = 7 := (e_uq hw64 (Or.inr (by decide)) (e_ue hw60))
            have y6 : w64 1 6 = w 1 6 := (e_uq hw64 (Or.inr (by decide)) (e_uq hw60 (Or.inr (by decide)) (e_uq hw47 (Or.inr (by decide)) (e_uq hw2 (Or.inr (by decide)) rfl))))
            have y7 : w64 1 7 = w 1 7 + 2 := (e_ue hw64)
            have y8 : w64 1 8 = w 1 8 := (e_uq hw64 (Or.inr (by decide)) (e_uq hw60 (Or.inr (by decide)) (e_uq hw47 (Or.inr (by decide)) (e_uq hw2 (Or.inr (by decide)) rfl))))
            exact ⟨rfl, (show e_fr kRn w w64 from e_fr.up (show e_fr kRn w w60 from e_fr.up f48 hw60 (by first | exact ⟨rfl, Or.inl rfl⟩ | (unfold kRn; omega))) hw64 (by first | exact ⟨rfl, Or.inr (Or.inl rfl)⟩ | (unfold kRn; omega))), hT66, hH67, (by omega), (by omega)⟩
        · replace h58 : (c : Int) = 60 := Classical.not_not.mp (show ¬ ((c : Int) ≠ 60) from h58)
          refine e_Ok.ps2 (x := (0, 6)) (y := (1, 1)) (q := 71) 2 rfl ?_
          refine e_Ok.putf rfl (el_o rfl) rfl rfl ?_
          generalize hw68 : e_up w47 1 5 6 = w68
          have hT70 : e_Has kTy w68 := e_Has.ups hT49 hw68 (kt_o rfl)
          have hH71 : e_Has kRy w68 := e_Has.upr hH50 hw68 rfl (by omega)
          refine e_Ok.ps2 (x := (1, 1)) (y := (1, 1)) (q := 95) 3 rfl ?_
          refine e_Ok.getf (z := w 1 7 + 1) rfl (el_o rfl) rfl rfl (e_uq hw68 (Or.inr (by decide)) (e_uq hw47 (Or.inr (by decide)) (e_ue hw2))) (by omega) ?_
          refine e_Ok.ps1 (x := (0, 1)) (q := 99) 1 rfl ?_
          refine e_Ok.add (z := w 1 7 + 2) rfl (e_adl (by decide)) (by omega) ?_
          refine e_Ok.putf rfl (el_o rfl) rfl rfl ?_
          generalize hw72 : e_up w68 1 7 (w 1 7 + 2) = w72
          have hT74 : e_Has kTy w72 := e_Has.ups hT70 hw72 (kt_o rfl)
          have hH75 : e_Has kRy w72 := e_Has.upr hH71 hw72 rfl (by omega)
          refine e_Ok.rets rfl rfl ?_
          have y5 : w72 1 5 = 6 := (e_uq hw72 (Or.inr (by decide)) (e_ue hw68))
          have y6 : w72 1 6 = w 1 6 := (e_uq hw72 (Or.inr (by decide)) (e_uq hw68 (Or.inr (by decide)) (e_uq hw47 (Or.inr (by decide)) (e_uq hw2 (Or.inr (by decide)) rfl))))
          have y7 : w72 1 7 = w 1 7 + 2 := (e_ue hw72)
          have y8 : w72 1 8 = w 1 8 := (e_uq hw72 (Or.inr (by decide)) (e_uq hw68 (Or.inr (by decide)) (e_uq hw47 (Or.inr (by decide)) (e_uq hw2 (Or.inr (by decide)) rfl))))
          exact ⟨rfl, (show e_fr kRn w w72 from e_fr.up (show e_fr kRn w w68 from e_fr.up f48 hw68 (by first | exact ⟨rfl, Or.inl rfl⟩ | (unfold kRn; omega))) hw72 (by first | exact ⟨rfl, Or.inr (Or.inl rfl)⟩ | (unfold kRn; omega))), hT74, hH75, (by omega), (by omega)⟩
      · replace h57 : (c : Int) = 33 := Classical.not_not.mp (show ¬ ((c : Int) ≠ 33) from h57)
        refine e_Ok.ps2 (x := (0, 5)) (y := (1, 1)) (q := 56) 2 rfl ?_
        refine e_Ok.putf rfl (el_o rfl) rfl rfl ?_
        generalize hw76 : e_up w47 1 5 5 = w76
        have hT78 : e_Has kTy w76 := e_Has.ups hT49 hw76 (kt_o rfl)
        have hH79 : e_Has kRy w76 := e_Has.upr hH50 hw76 rfl (by omega)
        refine e_Ok.ps2 (x := (1, 1)) (y := (1, 1)) (q := 95) 3 rfl ?_
        refine e_Ok.getf (z := w 1 7 + 1) rfl (el_o rfl) rfl rfl (e_uq hw76 (Or.inr (by decide)) (e_uq hw47 (Or.inr (by decide)) (e_ue hw2))) (by omega) ?_
        refine e_Ok.ps1 (x := (0, 1)) (q := 99) 1 rfl ?_
        refine e_Ok.add (z := w 1 7 + 2) rfl (e_adl (by decide)) (by omega) ?_
        refine e_Ok.putf rfl (el_o rfl) rfl rfl ?_
        generalize hw80 : e_up w76 1 7 (w 1 7 + 2) = w80
        have hT82 : e_Has kTy w80 := e_Has.ups hT78 hw80 (kt_o rfl)
        have hH83 : e_Has kRy w80 := e_Has.upr hH79 hw80 rfl (by omega)
        refine e_Ok.rets rfl rfl ?_
        have y5 : w80 1 5 = 5 := (e_uq hw80 (Or.inr (by decide)) (e_ue hw76))
        have y6 : w80 1 6 = w 1 6 := (e_uq hw80 (Or.inr (by decide)) (e_uq hw76 (Or.inr (by decide)) (e_uq hw47 (Or.inr (by decide)) (e_uq hw2 (Or.inr (by decide)) rfl))))
        have y7 : w80 1 7 = w 1 7 + 2 := (e_ue hw80)
        have y8 : w80 1 8 = w 1 8 := (e_uq hw80 (Or.inr (by decide)) (e_uq hw76 (Or.inr (by decide)) (e_uq hw47 (Or.inr (by decide)) (e_uq hw2 (Or.inr (by decide)) rfl))))
        exact ⟨rfl, (show e_fr kRn w w80 from e_fr.up (show e_fr kRn w w76 from e_fr.up f48 hw76 (by first | exact ⟨rfl, Or.inl rfl⟩ | (unfold kRn; omega))) hw80 (by first | exact ⟨rfl, Or.inr (Or.inl rfl)⟩ | (unfold kRn; omega))), hT82, hH83, (by omega), (by omega)⟩
    · replace h56 : (z54 : Int) ≠ 61 := (show ¬ ((z54 : Int) = 61) from h56)
      refine e_Ok.rets rfl rfl ?_
      have y5 : w47 1 5 = 3 := (e_ue hw47)
      have y6 : w47 1 6 = w 1 6 := (e_uq hw47 (Or.inr (by decide)) (e_uq hw2 (Or.inr (by decide)) rfl))
      have y7 : w47 1 7 = w 1 7 + 1 := (e_uq hw47 (Or.inr (by decide)) (e_ue hw2))
      have y8 : w47 1 8 = w 1 8 := (e_uq hw47 (Or.inr (by decide)) (e_uq hw2 (Or.inr (by decide)) rfl))
      exact ⟨rfl, f48, hT49, hH50, (by omega), (by omega)⟩
theorem su_dl_6 {c k : Int} (q : kRn c k) : kRa c k := by
  unfold kRn at q
  rcases q with ⟨q, (q | q | q)⟩
  · exact ⟨(by omega), ⟨(by omega), (by omega)⟩⟩
  · exact ⟨(by omega), ⟨(by omega), (by omega)⟩⟩
  · exact ⟨(by omega), ⟨(by omega), (by omega)⟩⟩
set_option maxHeartbeats 4000000 in
theorem c_123 {d : Nat} (hd : 24 ≤ d) {w : eW} (hT : e_Has kTy w) (hH : e_Has kRy w) (hn : w 1 7 ≤ w 1 0) : e_Ok 20 elay kcode eI d 123 (0, [(0, (1, 1))], [], w) (fun r w' => r = [] ∧ e_fr kRa w w' ∧ e_Has kTy w' ∧ e_Has kRy w' ∧ tkR w' ∧ w 1 7 ≤ w' 1 6 ∧ w' 1 5 ≠ 4) := by
  obtain ⟨d, rfl⟩ : ∃ e, d = e + 1 := ⟨d - 1, by omega⟩
  have p0 := e_Has.get hH (c := 1) (k := 0) (lo := 0) (hi := 4000) rfl (by decide)
  have p6 := e_Has.get hH (c := 1) (k := 6) (lo := 0) (hi := 4000) rfl (by decide)
  have p7 := e_Has.get hH (c := 1) (k := 7) (lo := 0) (hi := 4000) rfl (by decide)
  refine e_Ok.ps1 (x := (1, 1)) (q := 1) 1 rfl ?_
  have n4_0 : w 1 0 = w 1 0 := rfl
  have n4_5 : w 1 5 = w 1 5 := rfl
  have n4_6 : w 1 6 = w 1 6 := rfl
  have n4_7 : w 1 7 = w 1 7 := rfl
  have n4_8 : w 1 8 = w 1 8 := rfl
  refine e_Ok.callV rfl (e_dq hd rfl) rfl rfl rfl rfl (c_124 (e_dq hd rfl) hT hH (by omega)) (fun r1 w2 h3 => ?_)
  obtain ⟨rfl, q5f, q5T, q5H, q5x⟩ := h3
  have q57 := e_Has.get q5H (c := 1) (k := 7) (lo := 0) (hi := 4000) rfl (by decide)
  refine e_Ok.nrm (q := 4) (st' := []) rfl rfl ?_
  refine e_Ok.ps2 (x := (1, 1)) (y := (1, 1)) (q := 6) 2 rfl ?_
  refine e_Ok.getf (z := w2 1 7) rfl (el_o rfl) rfl rfl rfl (by omega) ?_
  refine e_Ok.putf rfl (el_o rfl) rfl rfl ?_
  generalize hw7 : e_up w2 1 6 (w2 1 7) = w7
  have f8 : e_fr kRa w w7 := e_fr.up (show e_fr kRa w w2 from e_fr.trans (e_fr.refl w) (e_fr.mono q5f (fun c k q => su_dl_6 q))) hw7 (by first | exact ⟨rfl, ⟨(by decide), (by decide)⟩⟩ | (unfold kRa; omega))
  have hT9 : e_Has kTy w7 := e_Has.ups q5T hw7 (kt_o rfl)
  have hH10 : e_Has kRy w7 := e_Has.upr q5H hw7 rfl (by omega)
  refine e_Ok.ps2 (x := (1, 1)) (y := (1, 1)) (q := 14) 2 rfl ?_
  refine e_Ok.getf (z := w2 1 7) rfl (el_o rfl) rfl rfl (e_uq hw7 (Or.inr (by decide)) rfl) (by omega) ?_
  refine e_Ok.callV rfl (e_dq hd rfl) rfl rfl rfl rfl (c_120 hT9 hH10 (by omega)) (fun r11 w12 h13 => ?_)
  obtain ⟨z14, rfl, rfl, q15r, q15x⟩ := h13
  replace q15x : (0 ≤ (w2 1 7) ∧ (w2 1 7) < (w 1 0) ∧ z14 = (w 5 (w2 1 7)) % 256) ∨ (((w2 1 7) < 0 ∨ (w 1 0) ≤ (w2 1 7)) ∧ z14 = 0) := by rw [show w7 1 0 = w 1 0 from (e_uq hw7 (Or.inr (by first | decide | omega)) ((q5f 1 0 no_dl_0).trans rfl)), show w7 5 (w2 1 7) = w 5 (w2 1 7) from (e_uq hw7 (Or.inl (by first | decide | omega)) ((q5f 5 (w2 1 7) no_dl_2).trans rfl))] at q15x; exact q15x
  refine e_Ok.nrm (q := 20) (st' := [(0, z14)]) rfl rfl ?_
  refine e_Ok.run (t' := (22, [(1, (0, z14)), (0, (1, 1))], [(1, 1)], w7)) 2 rfl ?_
  refine e_Ok.getf (z := w2 1 7) rfl (el_o rfl) rfl rfl (e_uq hw7 (Or.inr (by decide)) rfl) (by omega) ?_
  refine e_Ok.ps1 (x := (1, 1)) (q := 26) 1 rfl ?_
  refine e_Ok.getf (z := w 1 0) rfl (el_o rfl) rfl rfl (e_uq hw7 (Or.inr (by decide)) ((q5f 1 0 no_dl_0).trans rfl)) (by omega) ?_
  refine e_Ok.if2 rfl (fun h16 => ?_) (fun h16 => ?_)
  · replace h16 : (w2 1 7 : Int) < w 1 0 := h16
    refine e_Ok.ps1 (x := (0, z14)) (q := 41) 1 rfl ?_
    refine e_Ok.callS rfl (e_dq hd rfl) rfl rfl (c_121 (by omega)) (fun r17 w18 h19 => ?_)
    obtain ⟨z20, rfl, rfl, q21⟩ := h19
    obtain ⟨rfl, q21⟩ | ⟨rfl, q21⟩ := q21
    · refine e_Ok.nrm (q := 44) (st' := [(0, 1)]) rfl rfl ?_
      refine e_Ok.if1 rfl (fun h22 => ?_) (fun h22 => ?_)
      · replace h22 : (1 : Int) = 0 := h22
        exfalso; omega
      · replace h22 : (1 : Int) ≠ 0 := (show ¬ ((1 : Int) = 0) from h22)
        refine e_Ok.ps1 (x := (1, 1)) (q := 48) 1 rfl ?_
        have n26_0 : w7 1 0 = w 1 0 := (e_uq hw7 (Or.inr (by decide)) ((q5f 1 0 no_dl_0).trans rfl))
        have n26_5 : w7 1 5 = w2 1 5 := (e_uq hw7 (Or.inr (by decide)) rfl)
        have n26_6 : w7 1 6 = w2 1 7 := (e_ue hw7)
        have n26_7 : w7 1 7 = w2 1 7 := (e_uq hw7 (Or.inr (by decide)) rfl)
        have n26_8 : w7 1 8 = w2 1 8 := (e_uq hw7 (Or.inr (by decide)) rfl)
        have n26_b : w7 5 (w7 1 7) = w 5 (w2 1 7) := by rw [n26_7]; exact (e_uq hw7 (Or.inl (by decide)) ((q5f 5 (w2 1 7) no_dl_2).trans rfl))
        refine e_Ok.callV rfl (e_dq hd rfl) rfl rfl rfl rfl (c_127 (e_dq hd rfl) hT9 hH10 (by omega) (by omega) (by rw [n26_b]; omega)) (fun r23 w24 h25 => ?_)
        obtain ⟨rfl, q27f, q27T, q27H, q27x⟩ := h25
        have q277 := e_Has.get q27H (c := 1) (k := 7) (lo := 0) (hi := 4000) rfl (by decide)
        refine e_Ok.nrm (q := 51) (st' := []) rfl rfl ?_
        refine e_Ok.ps0 (q := 73) 1 rfl ?_
        refine e_Ok.rets rfl rfl ?_
        have y0 : w24 1 0 = w 1 0 := ((q27f 1 0 no_dl_0).trans (e_uq hw7 (Or.inr (by decide)) ((q5f 1 0 no_dl_0).trans rfl)))
        have y5 : w24 1 5 = w24 1 5 := rfl
        have y6 : w24 1 6 = w2 1 7 := ((q27f 1 6 no_dl_1).trans (e_ue hw7))
        have y7 : w24 1 7 = w24 1 7 := rfl
        have y8 : w24 1 8 = w24 1 8 := rfl
        exact ⟨rfl, (show e_fr kRa w w24 from e_fr.trans f8 (e_fr.mono q27f (fun c k q => su_dl_6 q))), q27T, q27H, (by unfold tkR; omega), by omega, by omega⟩
    · refine e_Ok.nrm (q := 44) (st' := [(0, 0)]) rfl rfl ?_
      refine e_Ok.if1 rfl (fun h29 => ?_) (fun h29 => ?_)
      · replace h29 : (0 : Int) = 0 := h29
        refine e_Ok.ps1 (x := (0, z14)) (q := 55) 1 rfl ?_
        refine e_Ok.callS rfl (e_dq hd rfl) rfl rfl (c_122 (by omega)) (fun r30 w31 h32 => ?_)
        obtain ⟨z33, rfl, rfl, q34⟩ := h32
        obtain ⟨rfl, q34⟩ | ⟨rfl, q34⟩ := q34
        · refine e_Ok.nrm (q := 58) (st' := [(0, 1)]) rfl rfl ?_
          refine e_Ok.if1 rfl (fun h35 => ?_) (fun h35 => ?_)
          · replace h35 : (1 : Int) = 0 := h35
            exfalso; omega
          · replace h35 : (1 : Int) ≠ 0 := (show ¬ ((1 : Int) = 0) from h35)
            refine e_Ok.ps1 (x := (1, 1)) (q := 62) 1 rfl ?_
            have n40_0 : w7 1 0 = w 1 0 := (e_uq hw7 (Or.inr (by decide)) ((q5f 1 0 no_dl_0).trans rfl))
            have n40_5 : w7 1 5 = w2 1 5 := (e_uq hw7 (Or.inr (by decide)) rfl)
            have n40_6 : w7 1 6 = w2 1 7 := (e_ue hw7)
            have n40_7 : w7 1 7 = w2 1 7 := (e_uq hw7 (Or.inr (by decide)) rfl)
            have n40_8 : w7 1 8 = w2 1 8 := (e_uq hw7 (Or.inr (by decide)) rfl)
            have n40_b : w7 5 (w7 1 7) = w 5 (w2 1 7) := by rw [n40_7]; exact (e_uq hw7 (Or.inl (by decide)) ((q5f 5 (w2 1 7) no_dl_2).trans rfl))
            refine e_Ok.callV rfl (e_dq hd rfl) rfl rfl rfl rfl (c_125 (e_dq hd rfl) hT9 hH10 (by omega) (by omega) (by rw [n40_b]; omega)) (fun r36 w37 h38 => ?_)
            obtain ⟨rfl, q41f, q41T, q41H, q41x⟩ := h38
            have q417 := e_Has.get q41H (c := 1) (k := 7) (lo := 0) (hi := 4000) rfl (by decide)
            refine e_Ok.nrm (q := 65) (st' := []) rfl rfl ?_
            refine e_Ok.ps0 (q := 73) 1 rfl ?_
            refine e_Ok.rets rfl rfl ?_
            have y0 : w37 1 0 = w 1 0 := ((q41f 1 0 no_dl_0).trans (e_uq hw7 (Or.inr (by decide)) ((q5f 1 0 no_dl_0).trans rfl)))
            have y5 : w37 1 5 = w37 1 5 := rfl
            have y6 : w37 1 6 = w2 1 7 := ((q41f 1 6 no_dl_1).trans (e_ue hw7))
            have y7 : w37 1 7 = w37 1 7 := rfl
            have y8 : w37 1 8 = w37 1 8 := rfl
            exact ⟨rfl, (show e_fr kRa w w37 from e_fr.trans f8 (e_fr.mono q41f (fun c k q => su_dl_6 q))), q41T, q41H, (by unfold tkR; omega), by omega, by omega⟩
        · refine e_Ok.nrm (q := 58) (st' := [(0, 0)]) rfl rfl ?_
          refine e_Ok.if1 rfl (fun h43 => ?_) (fun h43 => ?_)
          · replace h43 : (0 : Int) = 0 := h43
            refine e_Ok.ps2 (x := (0, z14)) (y := (1, 1)) (q := 70) 2 rfl ?_
            have n47_0 : w7 1 0 = w 1 0 := (e_uq hw7 (Or.inr (by decide)) ((q5f 1 0 no_dl_0).trans rfl))
            have n47_5 : w7 1 5 = w2 1 5 := (e_uq hw7 (Or.inr (by decide)) rfl)
            have n47_6 : w7 1 6 = w2 1 7 := (e_ue hw7)
            have n47_7 : w7 1 7 = w2 1 7 := (e_uq hw7 (Or.inr (by decide)) rfl)
            have n47_8 : w7 1 8 = w2 1 8 := (e_uq hw7 (Or.inr (by decide)) rfl)
            refine e_Ok.callV rfl (e_dq hd rfl) rfl rfl rfl rfl (c_128 (e_dq hd rfl) hT9 hH10 (by omega) (by omega) (by omega)) (fun r44 w45 h46 => ?_)
            obtain ⟨rfl, q48f, q48T, q48H, q48x⟩ := h46
            have q487 := e_Has.get q48H (c := 1) (k := 7) (lo := 0) (hi := 4000) rfl (by decide)
            refine e_Ok.nrm (q := 73) (st' := []) rfl rfl ?_
            refine e_Ok.rets rfl rfl ?_
            have y0 : w45 1 0 = w 1 0 := ((q48f 1 0 no_dl_0).trans (e_uq hw7 (Or.inr (by decide)) ((q5f 1 0 no_dl_0).trans rfl)))
            have y5 : w45 1 5 = w45 1 5 := rfl
            have y6 : w45 1 6 = w2 1 7 := ((q48f 1 6 no_dl_1).trans (e_ue hw7))
            have y7 : w45 1 7 = w45 1 7 := rfl
            have y8 : w45 1 8 = w45 1 8 := rfl
            exact ⟨rfl, (show e_fr kRa w w45 from e_fr.trans f8 (e_fr.mono q48f (fun c k q => su_dl_6 q))), q48T, q48H, (by unfold tkR; omega), by omega, by omega⟩
          · replace h43 : (0 : Int) ≠ 0 := (show ¬ ((0 : Int) = 0) from h43)
            exfalso; omega
      · replace h29 : (0 : Int) ≠ 0 := (show ¬ ((0 : Int) = 0) from h29)
        exfalso; omega
  · replace h16 : (w2 1 7 : Int) ≥ w 1 0 := Int.not_lt.mp (show ¬ ((w2 1 7 : Int) < w 1 0) from h16)
    refine e_Ok.ps2 (x := (0, 0)) (y := (1, 1)) (q := 34) 2 rfl ?_
    refine e_Ok.putf rfl (el_o rfl) rfl rfl ?_
    generalize hw50 : e_up w7 1 5 0 = w50
    have hT52 : e_Has kTy w50 := e_Has.ups hT9 hw50 (kt_o rfl)
    have hH53 : e_Has kRy w50 := e_Has.upr hH10 hw50 rfl (by omega)
    refine e_Ok.ps0 (q := 73) 1 rfl ?_
    refine e_Ok.rets rfl rfl ?_
    have y0 : w50 1 0 = w 1 0 := (e_uq hw50 (Or.inr (by decide)) (e_uq hw7 (Or.inr (by decide)) ((q5f 1 0 no_dl_0).trans rfl)))
    have y5 : w50 1 5 = 0 := (e_ue hw50)
    have y6 : w50 1 6 = w2 1 7 := (e_uq hw50 (Or.inr (by decide)) (e_ue hw7))
    have y7 : w50 1 7 = w2 1 7 := (e_uq hw50 (Or.inr (by decide)) (e_uq hw7 (Or.inr (by decide)) rfl))
    have y8 : w50 1 8 = w2 1 8 := (e_uq hw50 (Or.inr (by decide)) (e_uq hw7 (Or.inr (by decide)) rfl))
    exact ⟨rfl, (show e_fr kRa w w50 from e_fr.up f8 hw50 (by first | exact ⟨rfl, ⟨(by decide), (by decide)⟩⟩ | (unfold kRa; omega))), hT52, hH53, (by unfold tkR; omega), by omega, by omega⟩
theorem c_131 {d : Nat} {w : eW} (hT : e_Has kTy w) (hH : e_Has kRy w) (hk : tkR w) {n : Int} (g_n : 1 ≤ n ∧ n ≤ 3) : e_Ok 20 elay kcode eI d 131 (0, [(0, (1, 1)), (1, (0, n))], [], w) (fun r w' => r = [] ∧ e_fr kRk w w' ∧ e_Has kTy w' ∧ e_Has kRy w' ∧ tkR w' ∧ ¬ nF w' ∧ w' 1 5 = 4) := by
  have p1 := e_Has.get hH (c := 1) (k := 1) (lo := (-2147483648)) (hi := 2147483647) rfl (by decide)
  have p5 := e_Has.get hH (c := 1) (k := 5) (lo := 0) (hi := 53) rfl (by decide)
  have p6 := e_Has.get hH (c := 1) (k := 6) (lo := 0) (hi := 4000) rfl (by decide)
  have p9 := e_Has.get hH (c := 1) (k := 9) (lo := (-2147483648)) (hi := 2147483647) rfl (by decide)
  refine e_Ok.ps1 (x := (1, 1)) (q := 1) 1 rfl ?_
  have h1 := (e_Has.get hH (c := 1) (k := 1) (lo := (-2147483648)) (hi := 2147483647) rfl (by decide))
  refine e_Ok.getf (z := w 1 1) rfl (el_o rfl) rfl rfl rfl (e_bq h1 (by decide) (by decide)) ?_
  refine e_Ok.if1 rfl (fun h2 => ?_) (fun h2 => ?_)
  · replace h2 : (w 1 1 : Int) ≠ 0 := h2
    refine e_Ok.ps2 (x := (0, 4)) (y := (1, 1)) (q := 22) 2 rfl ?_
    refine e_Ok.putf rfl (el_o rfl) rfl rfl ?_
    generalize hw3 : e_up w 1 5 4 = w3
    have hT5 : e_Has kTy w3 := e_Has.ups hT hw3 (kt_o rfl)
    have hH6 : e_Has kRy w3 := e_Has.upr hH hw3 rfl (by omega)
    refine e_Ok.rets rfl rfl ?_
    have yf : w3 1 1 = w 1 1 := (e_uq hw3 (Or.inr (by decide)) rfl)
    exact ⟨rfl, (show e_fr kRk w w3 from e_fr.up (e_fr.refl w) hw3 (by first | exact ⟨rfl, Or.inr (Or.inr ⟨(by decide), (by decide)⟩)⟩ | (unfold kRk; omega))), hT5, hH6, (by unfold tkR at hk ⊢; have y0 : w3 1 0 = w 1 0 := (e_uq hw3 (Or.inr (by first | decide | omega)) rfl); have y5 : w3 1 5 = 4 := (e_ue hw3); have y6 : w3 1 6 = w 1 6 := (e_uq hw3 (Or.inr (by first | decide | omega)) rfl); have y7 : w3 1 7 = w 1 7 := (e_uq hw3 (Or.inr (by first | decide | omega)) rfl); have y8 : w3 1 8 = w 1 8 := (e_uq hw3 (Or.inr (by first | decide | omega)) rfl); omega), fun h => by have := h.1; omega, (e_ue hw3)⟩
  · replace h2 : (w 1 1 : Int) = 0 := Classical.not_not.mp (show ¬ ((w 1 1 : Int) ≠ 0) from h2)
    refine e_Ok.ps2 (x := (0, n)) (y := (1, 1)) (q := 9) 2 rfl ?_
    refine e_Ok.putf rfl (el_o rfl) rfl rfl ?_
    generalize hw7 : e_up w 1 1 n = w7
    have hT9 : e_Has kTy w7 := e_Has.ups hT hw7 (kt_o rfl)
    have hH10 : e_Has kRy w7 := e_Has.upr hH hw7 rfl (by omega)
    refine e_Ok.ps2 (x := (1, 1)) (y := (1, 1)) (q := 14) 2 rfl ?_
    have h11 := (e_Has.get hH (c := 1) (k := 6) (lo := 0) (hi := 4000) rfl (by decide))
    refine e_Ok.getf (z := w 1 6) rfl (el_o rfl) rfl rfl (e_uq hw7 (Or.inr (by decide)) rfl) (e_bq h11 (by decide) (by decide)) ?_
    refine e_Ok.putf rfl (el_o rfl) rfl rfl ?_
    generalize hw12 : e_up w7 1 2 (w 1 6) = w12
    have hT14 : e_Has kTy w12 := e_Has.ups hT9 hw12 (kt_o rfl)
    have hH15 : e_Has kRy w12 := e_Has.upr hH10 hw12 rfl (by omega)
    refine e_Ok.ps2 (x := (0, 4)) (y := (1, 1)) (q := 22) 2 rfl ?_
    refine e_Ok.putf rfl (el_o rfl) rfl rfl ?_
    generalize hw16 : e_up w12 1 5 4 = w16
    have hT18 : e_Has kTy w16 := e_Has.ups hT14 hw16 (kt_o rfl)
    have hH19 : e_Has kRy w16 := e_Has.upr hH15 hw16 rfl (by omega)
    refine e_Ok.rets rfl rfl ?_
    have yf : w16 1 1 = n := (e_uq hw16 (Or.inr (by decide)) (e_uq hw12 (Or.inr (by decide)) (e_ue hw7)))
    exact ⟨rfl, (show e_fr kRk w w16 from e_fr.up (show e_fr kRk w w12 from e_fr.up (show e_fr kRk w w7 from e_fr.up (e_fr.refl w) hw7 (by first | exact ⟨rfl, Or.inl rfl⟩ | (unfold kRk; omega))) hw12 (by first | exact ⟨rfl, Or.inr (Or.inl rfl)⟩ | (unfold kRk; omega))) hw16 (by first | exact ⟨rfl, Or.inr (Or.inr ⟨(by decide), (by decide)⟩)⟩ | (unfold kRk; omega))), hT18, hH19, (by unfold tkR at hk ⊢; have y0 : w16 1 0 = w 1 0 := (e_uq hw16 (Or.inr (by first | decide | omega)) (e_uq hw12 (Or.inr (by first | decide | omega)) (e_uq hw7 (Or.inr (by first | decide | omega)) rfl))); have y5 : w16 1 5 = 4 := (e_ue hw16); have y6 : w16 1 6 = w 1 6 := (e_uq hw16 (Or.inr (by first | decide | omega)) (e_uq hw12 (Or.inr (by first | decide | omega)) (e_uq hw7 (Or.inr (by first | decide | omega)) rfl))); have y7 : w16 1 7 = w 1 7 := (e_uq hw16 (Or.inr (by first | decide | omega)) (e_uq hw12 (Or.inr (by first | decide | omega)) (e_uq hw7 (Or.inr (by first | decide | omega)) rfl))); have y8 : w16 1 8 = w 1 8 := (e_uq hw16 (Or.inr (by first | decide | omega)) (e_uq hw12 (Or.inr (by first | decide | omega)) (e_uq hw7 (Or.inr (by first | decide | omega)) rfl))); omega), fun h => by have := h.1; omega, (e_ue hw16)⟩
theorem c_130 {d : Nat} (hd : 21 ≤ d) {w : eW} (hT : e_Has kTy w) (hH : e_Has kRy w) (hk : tkR w) : e_Ok 20 elay kcode eI d 130 (0, [(0, (1, 1))], [], w) (fun r w' => r = [] ∧ e_fr kRk w w' ∧ e_Has kTy w' ∧ e_Has kRy w' ∧ tkR w' ∧ ¬ nF w' ∧ w' 1 5 = 4) := by
  obtain ⟨d, rfl⟩ : ∃ e, d = e + 1 := ⟨d - 1, by omega⟩
  have p1 := e_Has.get hH (c := 1) (k := 1) (lo := (-2147483648)) (hi := 2147483647) rfl (by decide)
  have p5 := e_Has.get hH (c := 1) (k := 5) (lo := 0) (hi := 53) rfl (by decide)
  have p6 := e_Has.get hH (c := 1) (k := 6) (lo := 0) (hi := 4000) rfl (by decide)
  have p9 := e_Has.get hH (c := 1) (k := 9) (lo := (-2147483648)) (hi := 2147483647) rfl (by decide)
  refine e_Ok.ps2 (x := (1, 1)) (y := (1, 1)) (q := 2) 2 rfl ?_
  have h1 := (e_Has.get hH (c := 1) (k := 5) (lo := 0) (hi := 53) rfl (by decide))
  refine e_Ok.getf (z := w 1 5) rfl (el_o rfl) rfl rfl rfl (e_bq h1 (by decide) (by decide)) ?_
  refine e_Ok.ps1 (x := (0, 3)) (q := 6) 1 rfl ?_
  refine e_Ok.if2 rfl (fun h2 => ?_) (fun h2 => ?_)
  · replace h2 : (w 1 5 : Int) ≠ 3 := h2
    refine e_Ok.ps1 (x := (0, 2)) (q := 14) 1 rfl ?_
    refine e_Ok.callV rfl (e_dq hd rfl) rfl rfl rfl rfl (c_131 hT hH hk (by omega)) (fun r3 w4 h5 => ?_)
    obtain ⟨rfl, q6f, q6T, q6H, q6k, q6n, q65⟩ := h5
    refine e_Ok.nrm (q := 17) (st' := []) rfl rfl ?_
    refine e_Ok.rets rfl rfl ?_
    exact ⟨rfl, q6f, q6T, q6H, q6k, q6n, q65⟩
  · replace h2 : (w 1 5 : Int) = 3 := Classical.not_not.mp (show ¬ ((w 1 5 : Int) ≠ 3) from h2)
    refine e_Ok.ps1 (x := (0, 1)) (q := 14) 2 rfl ?_
    refine e_Ok.callV rfl (e_dq hd rfl) rfl rfl rfl rfl (c_131 hT hH hk (by omega)) (fun r8 w9 h10 => ?_)
    obtain ⟨rfl, q11f, q11T, q11H, q11k, q11n, q115⟩ := h10
    refine e_Ok.nrm (q := 17) (st' := []) rfl rfl ?_
    refine e_Ok.rets rfl rfl ?_
    exact ⟨rfl, q11f, q11T, q11H, q11k, q11n, q115⟩
theorem no_dl_3 : ¬ kRa 1 1 := by unfold kRa; omega
theorem no_dl_4 : ¬ kRa 1 9 := by unfold kRa; omega
theorem su_dl_7 {c k : Int} (q : kRa c k) : kRk c k := by
  unfold kRa at q
  rcases q with ⟨q, ⟨q, q⟩⟩
  · exact ⟨(by omega), Or.inr (Or.inr ⟨(by omega), (by omega)⟩)⟩
theorem c_129 {d : Nat} (hd : 25 ≤ d) {w : eW} (hT : e_Has kTy w) (hH : e_Has kRy w) (hk : tkR w) {n : Int} (g_n : 0 ≤ n ∧ n ≤ 53) : e_Ok 20 elay kcode eI d 129 (0, [(0, (1, 1)), (1, (0, n))], [], w) (fun r w' => r = [] ∧ e_fr kRk w w' ∧ e_Has kTy w' ∧ e_Has kRy w' ∧ tkR w' ∧ (nF w' → nF w ∧ w 1 5 = n ∧ w 1 7 ≤ w' 1 6)) := by
  obtain ⟨d, rfl⟩ : ∃ e, d = e + 1 := ⟨d - 1, by omega⟩
  have p1 := e_Has.get hH (c := 1) (k := 1) (lo := (-2147483648)) (hi := 2147483647) rfl (by decide)
  have p5 := e_Has.get hH (c := 1) (k := 5) (lo := 0) (hi := 53) rfl (by decide)
  have p6 := e_Has.get hH (c := 1) (k := 6) (lo := 0) (hi := 4000) rfl (by decide)
  have p9 := e_Has.get hH (c := 1) (k := 9) (lo := (-2147483648)) (hi := 2147483647) rfl (by decide)
  refine e_Ok.ps1 (x := (1, 1)) (q := 1) 1 rfl ?_
  have h1 := (e_Has.get hH (c := 1) (k := 5) (lo := 0) (hi := 53) rfl (by decide))
  refine e_Ok.getf (z := w 1 5) rfl (el_o rfl) rfl rfl rfl (e_bq h1 (by decide) (by decide)) ?_
  refine e_Ok.ps1 (x := (0, n)) (q := 5) 1 rfl ?_
  refine e_Ok.if2 rfl (fun h2 => ?_) (fun h2 => ?_)
  · replace h2 : (w 1 5 : Int) ≠ n := h2
    refine e_Ok.ps1 (x := (1, 1)) (q := 16) 1 rfl ?_
    refine e_Ok.callV rfl (e_dq hd rfl) rfl rfl rfl rfl (c_130 (e_dq hd rfl) hT hH hk) (fun r3 w4 h5 => ?_)
    obtain ⟨rfl, q6f, q6T, q6H, q6k, q6n, q65⟩ := h5
    refine e_Ok.nrm (q := 19) (st' := []) rfl rfl ?_
    refine e_Ok.rets rfl rfl ?_
    exact ⟨rfl, (show e_fr kRk w w4 from e_fr.trans (e_fr.refl w) (e_fr.mono q6f (fun c k q => by exact q))), q6T, q6H, q6k, fun h => absurd h q6n⟩
  · replace h2 : (w 1 5 : Int) = n := Classical.not_not.mp (show ¬ ((w 1 5 : Int) ≠ n) from h2)
    refine e_Ok.ps1 (x := (1, 1)) (q := 9) 1 rfl ?_
    refine e_Ok.callV rfl (e_dq hd rfl) rfl rfl rfl rfl (c_123 (e_dq hd rfl) hT hH hk.1.2) (fun r8 w9 h10 => ?_)
    obtain ⟨rfl, q11f, q11T, q11H, q11k, q11x, q114⟩ := h10
    refine e_Ok.nrm (q := 12) (st' := []) rfl rfl ?_
    refine e_Ok.ps0 (q := 19) 1 rfl ?_
    refine e_Ok.rets rfl rfl ?_
    exact ⟨rfl, (show e_fr kRk w w9 from e_fr.trans (e_fr.refl w) (e_fr.mono q11f (fun c k q => su_dl_7 q))), q11T, q11H, q11k, fun h => ⟨⟨by rw [← q11f 1 1 no_dl_3]; exact h.1, by rw [← q11f 1 9 no_dl_4]; exact h.2⟩, by omega, by omega⟩⟩
theorem no_dl_5 : ¬ kRk 1 11 := by unfold kRk; omega
theorem su_dl_8 {c k : Int} (q : kRk c k) : kRo c k := by
  unfold kRk at q
  rcases q with ⟨q, (q | q | ⟨q, q⟩)⟩
  · exact ⟨(by omega), Or.inl (by omega)⟩
  · exact ⟨(by omega), Or.inr (Or.inl (by omega))⟩
  · exact ⟨(by omega), Or.inr (Or.inr (Or.inl ⟨(by omega), (by omega)⟩))⟩
theorem c_132 {d : Nat} (hd : 22 ≤ d) {w : eW} (hT : e_Has kTy w) (hH : e_Has kRy w) (hk : tkR w) {o : Int} (ho : w 1 11 = o) (hor : 0 ≤ o ∧ o ≤ 30) : e_Ok 20 elay kcode eI d 132 (0, [(0, (1, 1))], [], w) (fun r w' => ∃ z : Int, r = [(0, z)] ∧ e_fr kRo w w' ∧ e_Has kTy w' ∧ e_Has kRy w' ∧ tkR w' ∧ ((z = 1 ∧ o < 30 ∧ w' 1 11 = o + 1 ∧ e_fr (fun c k => c = 1 ∧ 11 ≤ k ∧ k ≤ 13) w w') ∨ (z = 0 ∧ ¬ nF w' ∧ w' 1 5 = 4 ∧ w' 1 11 = o ∧ e_fr kRk w w'))) := by
  obtain ⟨d, rfl⟩ : ∃ e, d = e + 1 := ⟨d - 1, by omega⟩
  have p1 := e_Has.get hH (c := 1) (k := 1) (lo := (-2147483648)) (hi := 2147483647) rfl (by decide)
  have p5 := e_Has.get hH (c := 1) (k := 5) (lo := 0) (hi := 53) rfl (by decide)
  have p6 := e_Has.get hH (c := 1) (k := 6) (lo := 0) (hi := 4000) rfl (by decide)
  have p9 := e_Has.get hH (c := 1) (k := 9) (lo := (-2147483648)) (hi := 2147483647) rfl (by decide)
  refine e_Ok.ps1 (x := (1, 1)) (q := 1) 1 rfl ?_
  refine e_Ok.getf (z := o) rfl (el_o rfl) rfl rfl ho (by omega) ?_
  refine e_Ok.ps1 (x := (0, 30)) (q := 6) 1 rfl ?_
  refine e_Ok.if2 rfl (fun h1 => ?_) (fun h1 => ?_)
  · replace h1 : (o : Int) < 30 := h1
    refine e_Ok.ps2 (x := (1, 1)) (y := (1, 1)) (q := 18) 2 rfl ?_
    refine e_Ok.getf (z := o) rfl (el_o rfl) rfl rfl ho (by omega) ?_
    refine e_Ok.ps1 (x := (0, 1)) (q := 22) 1 rfl ?_
    refine e_Ok.add (z := o + 1) rfl rfl (by omega) ?_
    refine e_Ok.putf rfl (el_o rfl) rfl rfl ?_
    generalize hw2 : e_up w 1 11 (o + 1) = w2
    have hT4 : e_Has kTy w2 := e_Has.ups hT hw2 (kt_o rfl)
    have hH5 : e_Has kRy w2 := e_Has.upr hH hw2 rfl (by omega)
    refine e_Ok.ps1 (x := (0, 1)) (q := 27) 1 rfl ?_
    refine e_Ok.rets rfl rfl ?_
    exact ⟨_, rfl, (show e_fr kRo w w2 from e_fr.up (e_fr.refl w) hw2 (by first | exact ⟨rfl, Or.inr (Or.inr (Or.inr rfl))⟩ | (unfold kRo; omega))), hT4, hH5, hk.eq (fun k g => by rw [← hw2]; exact e_up_ne _ _ (by omega)), Or.inl ⟨rfl, by omega, (e_ue hw2), fun c k g => by rw [← hw2]; exact e_up_ne _ _ (by omega)⟩⟩
  · replace h1 : (o : Int) ≥ 30 := Int.not_lt.mp (show ¬ ((o : Int) < 30) from h1)
    refine e_Ok.ps2 (x := (0, 3)) (y := (1, 1)) (q := 11) 2 rfl ?_
    refine e_Ok.callV rfl (e_dq hd rfl) rfl rfl rfl rfl (c_131 hT hH hk (by omega)) (fun r6 w7 h8 => ?_)
    obtain ⟨rfl, q9f, q9T, q9H, q9k, q9n, q95⟩ := h8
    refine e_Ok.nrm (q := 14) (st' := []) rfl rfl ?_
    refine e_Ok.ps1 (x := (0, 0)) (q := 15) 1 rfl ?_
    refine e_Ok.rets rfl rfl ?_
    exact ⟨_, rfl, (show e_fr kRo w w7 from e_fr.trans (e_fr.refl w) (e_fr.mono q9f (fun c k q => su_dl_8 q))), q9T, q9H, q9k, Or.inr ⟨rfl, q9n, q95, (q9f 1 11 no_dl_5).trans ho, q9f⟩⟩
theorem c_133 {d : Nat} {w : eW} (hT : e_Has kTy w) (hH : e_Has kRy w) (hk : tkR w) {n : Int} (g_n : 4 ≤ n ∧ n ≤ 7) {x : Int} (g_x : (-2147483648) ≤ x ∧ x ≤ 2147483647) : e_Ok 20 elay kcode eI d 133 (0, [(0, (1, 1)), (1, (0, n)), (2, (0, x))], [], w) (fun r w' => r = [] ∧ e_fr kRc w w' ∧ e_Has kTy w' ∧ e_Has kRy w' ∧ tkR w' ∧ ¬ nF w') := by
  have p1 := e_Has.get hH (c := 1) (k := 1) (lo := (-2147483648)) (hi := 2147483647) rfl (by decide)
  have p5 := e_Has.get hH (c := 1) (k := 5) (lo := 0) (hi := 53) rfl (by decide)
  have p6 := e_Has.get hH (c := 1) (k := 6) (lo := 0) (hi := 4000) rfl (by decide)
  have p9 := e_Has.get hH (c := 1) (k := 9) (lo := (-2147483648)) (hi := 2147483647) rfl (by decide)
  refine e_Ok.ps1 (x := (1, 1)) (q := 1) 1 rfl ?_
  have h1 := (e_Has.get hH (c := 1) (k := 9) (lo := (-2147483648)) (hi := 2147483647) rfl (by decide))
  refine e_Ok.getf (z := w 1 9) rfl (el_o rfl) rfl rfl rfl (e_bq h1 (by decide) (by decide)) ?_
  refine e_Ok.if1 rfl (fun h2 => ?_) (fun h2 => ?_)
  · replace h2 : (w 1 9 : Int) = 0 := h2
    refine e_Ok.run (t' := (22, [(3, (0, 1)), (0, (1, 1)), (1, (0, n)), (2, (0, x))], [(0, 1)], w)) 4 rfl ?_
    refine e_Ok.if1 rfl (fun h3 => ?_) (fun h3 => ?_)
    · replace h3 : (1 : Int) ≠ 0 := h3
      refine e_Ok.ps2 (x := (0, n)) (y := (1, 1)) (q := 44) 2 rfl ?_
      refine e_Ok.putf rfl (el_o rfl) rfl rfl ?_
      generalize hw4 : e_up w 1 9 n = w4
      have hT6 : e_Has kTy w4 := e_Has.ups hT hw4 (kt_o rfl)
      have hH7 : e_Has kRy w4 := e_Has.upr hH hw4 rfl (by omega)
      refine e_Ok.ps2 (x := (0, x)) (y := (1, 1)) (q := 49) 2 rfl ?_
      refine e_Ok.putf rfl (el_o rfl) rfl rfl ?_
      generalize hw8 : e_up w4 1 10 x = w8
      have f9 : e_fr kRc w w8 := e_fr.up (show e_fr kRc w w4 from e_fr.up (e_fr.refl w) hw4 (by first | exact ⟨rfl, Or.inl rfl⟩ | (unfold kRc; omega))) hw8 (by first | exact ⟨rfl, Or.inr rfl⟩ | (unfold kRc; omega))
      have hT10 : e_Has kTy w8 := e_Has.ups hT6 hw8 (kt_o rfl)
      have hH11 : e_Has kRy w8 := e_Has.upr hH7 hw8 rfl (by omega)
      refine e_Ok.rets rfl rfl ?_
      exact ⟨rfl, f9, hT10, hH11, hk.fr f9 (fun k g => by unfold kRc; omega), fun h => by have := h.2; have y9 : w8 1 9 = n := (e_uq hw8 (Or.inr (by first | decide | omega)) (e_ue hw4)); omega⟩
    · replace h3 : (1 : Int) = 0 := Classical.not_not.mp (show ¬ ((1 : Int) ≠ 0) from h3)
      exfalso; omega
  · replace h2 : (w 1 9 : Int) ≠ 0 := (show ¬ ((w 1 9 : Int) = 0) from h2)
    refine e_Ok.ps2 (x := (1, 1)) (y := (0, x)) (q := 9) 2 rfl ?_
    have h12 := (e_Has.get hH (c := 1) (k := 10) (lo := (-2147483648)) (hi := 2147483647) rfl (by decide))
    refine e_Ok.getf (z := w 1 10) rfl (el_o rfl) rfl rfl rfl (e_bq h12 (by decide) (by decide)) ?_
    refine e_Ok.if2 rfl (fun h13 => ?_) (fun h13 => ?_)
    · replace h13 : (x : Int) ≥ w 1 10 := h13
      refine e_Ok.run (t' := (22, [(3, (0, 0)), (0, (1, 1)), (1, (0, n)), (2, (0, x))], [(0, 0)], w)) 3 rfl ?_
      refine e_Ok.if1 rfl (fun h14 => ?_) (fun h14 => ?_)
      · replace h14 : (0 : Int) ≠ 0 := h14
        exfalso; omega
      · replace h14 : (0 : Int) = 0 := Classical.not_not.mp (show ¬ ((0 : Int) ≠ 0) from h14)
        refine e_Ok.ps2 (x := (1, 1)) (y := (0, x)) (q := 27) 2 rfl ?_
        refine e_Ok.getf (z := w 1 10) rfl (el_o rfl) rfl rfl rfl (by omega) ?_
        refine e_Ok.if2 rfl (fun h15 => ?_) (fun h15 => ?_)
        · replace h15 : (x : Int) > w 1 10 := h15
          refine e_Ok.rets rfl rfl ?_
          exact ⟨rfl, (e_fr.refl w), hT, hH, hk, fun h => by have := h.2; omega⟩
        · replace h15 : (x : Int) ≤ w 1 10 := Int.not_lt.mp (show ¬ ((x : Int) > w 1 10) from h15)
          refine e_Ok.ps2 (x := (1, 1)) (y := (0, n)) (q := 35) 2 rfl ?_
          refine e_Ok.getf (z := w 1 9) rfl (el_o rfl) rfl rfl rfl (by omega) ?_
          refine e_Ok.if2 rfl (fun h16 => ?_) (fun h16 => ?_)
          · replace h16 : (n : Int) ≤ w 1 9 := h16
            refine e_Ok.ps2 (x := (0, n)) (y := (1, 1)) (q := 44) 2 rfl ?_
            refine e_Ok.putf rfl (el_o rfl) rfl rfl ?_
            generalize hw17 : e_up w 1 9 n = w17
            have hT19 : e_Has kTy w17 := e_Has.ups hT hw17 (kt_o rfl)
            have hH20 : e_Has kRy w17 := e_Has.upr hH hw17 rfl (by omega)
            refine e_Ok.ps2 (x := (0, x)) (y := (1, 1)) (q := 49) 2 rfl ?_
            refine e_Ok.putf rfl (el_o rfl) rfl rfl ?_
            generalize hw21 : e_up w17 1 10 x = w21
            have f22 : e_fr kRc w w21 := e_fr.up (show e_fr kRc w w17 from e_fr.up (e_fr.refl w) hw17 (by first | exact ⟨rfl, Or.inl rfl⟩ | (unfold kRc; omega))) hw21 (by first | exact ⟨rfl, Or.inr rfl⟩ | (unfold kRc; omega))
            have hT23 : e_Has kTy w21 := e_Has.ups hT19 hw21 (kt_o rfl)
            have hH24 : e_Has kRy w21 := e_Has.upr hH20 hw21 rfl (by omega)
            refine e_Ok.rets rfl rfl ?_
            exact ⟨rfl, f22, hT23, hH24, hk.fr f22 (fun k g => by unfold kRc; omega), fun h => by have := h.2; have y9 : w21 1 9 = n := (e_uq hw21 (Or.inr (by first | decide | omega)) (e_ue hw17)); omega⟩
          · replace h16 : (n : Int) > w 1 9 := Int.not_le.mp (show ¬ ((n : Int) ≤ w 1 9) from h16)
            refine e_Ok.rets rfl rfl ?_
            exact ⟨rfl, (e_fr.refl w), hT, hH, hk, fun h => by have := h.2; omega⟩
    · replace h13 : (x : Int) < w 1 10 := Int.not_le.mp (show ¬ ((x : Int) ≥ w 1 10) from h13)
      refine e_Ok.run (t' := (22, [(3, (0, 1)), (0, (1, 1)), (1, (0, n)), (2, (0, x))], [(0, 1)], w)) 4 rfl ?_
      refine e_Ok.if1 rfl (fun h25 => ?_) (fun h25 => ?_)
      · replace h25 : (1 : Int) ≠ 0 := h25
        refine e_Ok.ps2 (x := (0, n)) (y := (1, 1)) (q := 44) 2 rfl ?_
        refine e_Ok.putf rfl (el_o rfl) rfl rfl ?_
        generalize hw26 : e_up w 1 9 n = w26
        have hT28 : e_Has kTy w26 := e_Has.ups hT hw26 (kt_o rfl)
        have hH29 : e_Has kRy w26 := e_Has.upr hH hw26 rfl (by omega)
        refine e_Ok.ps2 (x := (0, x)) (y := (1, 1)) (q := 49) 2 rfl ?_
        refine e_Ok.putf rfl (el_o rfl) rfl rfl ?_
        generalize hw30 : e_up w26 1 10 x = w30
        have f31 : e_fr kRc w w30 := e_fr.up (show e_fr kRc w w26 from e_fr.up (e_fr.refl w) hw26 (by first | exact ⟨rfl, Or.inl rfl⟩ | (unfold kRc; omega))) hw30 (by first | exact ⟨rfl, Or.inr rfl⟩ | (unfold kRc; omega))
        have hT32 : e_Has kTy w30 := e_Has.ups hT28 hw30 (kt_o rfl)
        have hH33 : e_Has kRy w30 := e_Has.upr hH29 hw30 rfl (by omega)
        refine e_Ok.rets rfl rfl ?_
        exact ⟨rfl, f31, hT32, hH33, hk.fr f31 (fun k g => by unfold kRc; omega), fun h => by have := h.2; have y9 : w30 1 9 = n := (e_uq hw30 (Or.inr (by first | decide | omega)) (e_ue hw26)); omega⟩
      · replace h25 : (1 : Int) = 0 := Classical.not_not.mp (show ¬ ((1 : Int) ≠ 0) from h25)
        exfalso; omega
theorem c_134 {d : Nat} (hd : 21 ≤ d) {w : eW} (hT : e_Has kTy w) (hH : e_Has kRy w) {p : Int} (g_p : (-2147483648) ≤ p ∧ p ≤ 2147483647) {x : Int} (g_x : (-2147483648) ≤ x ∧ x ≤ 2147483647) : e_Ok 20 elay kcode eI d 134 (0, [(0, (1, 1)), (1, (0, p)), (2, (0, x))], [], w) (fun r w' => ∃ z : Int, r = [(0, z)] ∧ w = w' ∧ (0 ≤ z ∧ z ≤ 1)) := by
  obtain ⟨d, rfl⟩ : ∃ e, d = e + 1 := ⟨d - 1, by omega⟩
  refine e_Ok.run (t' := (2, [(3, (0, 0)), (0, (1, 1)), (1, (0, p)), (2, (0, x))], [], w)) 2 rfl ?_
  have hL1 : ∀ (nn : Nat) (y3 : Int), (0 ≤ y3 ∧ y3 ≤ 24) → 25 - y3 < nn → e_Ok 20 elay kcode eI (d + 1) 134 (2, [(0, (1, 1)), (1, (0, p)), (2, (0, x)), (3, (0, y3))], [], w) (fun r w' => ∃ z : Int, r = [(0, z)] ∧ w = w' ∧ (0 ≤ z ∧ z ≤ 1)) := by
    intro nn
    induction nn with
    | zero => intro y3 hj hm; obtain j3 := hj; exfalso; omega
    | succ nn ih2 =>
      intro y3 hj hm
      obtain j3 := hj
      refine e_Ok.run (t' := (5, [(0, (1, 1)), (1, (0, p)), (2, (0, x)), (3, (0, y3))], [(0, 24), (0, y3)], w)) 2 rfl ?_
      refine e_Ok.if2 rfl (fun h4 => ?_) (fun h4 => ?_)
      · replace h4 : (y3 : Int) ≥ 24 := h4
        refine e_Ok.ps3 (x := (0, y3)) (y := (0, p)) (z := (1, 1)) (q := 47) 3 rfl ?_
        refine e_Ok.any rfl (eF_add_any _ _) (fun z5 z5a z5b => ?_)
        refine e_Ok.callV rfl (e_dq hd rfl) rfl rfl rfl rfl (c_120 hT hH (by omega)) (fun r6 w7 h8 => ?_)
        obtain ⟨z9, rfl, rfl, q10r, q10x⟩ := h8
        replace q10x : (0 ≤ z5 ∧ z5 < (w 1 0) ∧ z9 = (w 5 z5) % 256) ∨ ((z5 < 0 ∨ (w 1 0) ≤ z5) ∧ z9 = 0) := by rw [show w 1 0 = w 1 0 from rfl, show w 5 z5 = w 5 z5 from rfl] at q10x; exact q10x
        refine e_Ok.nrm (q := 51) (st' := [(0, z9)]) rfl rfl ?_
        refine e_Ok.callS rfl (e_dq hd rfl) rfl rfl (c_122 (by omega)) (fun r11 w12 h13 => ?_)
        obtain ⟨z14, rfl, rfl, q15⟩ := h13
        obtain ⟨rfl, q15⟩ | ⟨rfl, q15⟩ := q15
        · refine e_Ok.nrm (q := 54) (st' := [(0, 1)]) rfl rfl ?_
          refine e_Ok.if1 rfl (fun h16 => ?_) (fun h16 => ?_)
          · replace h16 : (1 : Int) ≠ 0 := h16
            refine e_Ok.ps1 (x := (0, 0)) (q := 75) 1 rfl ?_
            refine e_Ok.rets rfl rfl ?_
            exact ⟨_, rfl, rfl, by omega⟩
          · replace h16 : (1 : Int) = 0 := Classical.not_not.mp (show ¬ ((1 : Int) ≠ 0) from h16)
            exfalso; omega
        · refine e_Ok.nrm (q := 54) (st' := [(0, 0)]) rfl rfl ?_
          refine e_Ok.if1 rfl (fun h17 => ?_) (fun h17 => ?_)
          · replace h17 : (0 : Int) ≠ 0 := h17
            exfalso; omega
          · replace h17 : (0 : Int) = 0 := Classical.not_not.mp (show ¬ ((0 : Int) ≠ 0) from h17)
            refine e_Ok.ps3 (x := (0, y3)) (y := (0, x)) (z := (1, 1)) (q := 60) 3 rfl ?_
            refine e_Ok.any rfl (eF_add_any _ _) (fun z18 z18a z18b => ?_)
            refine e_Ok.callV rfl (e_dq hd rfl) rfl rfl rfl rfl (c_120 hT hH (by omega)) (fun r19 w20 h21 => ?_)
            obtain ⟨z22, rfl, rfl, q23r, q23x⟩ := h21
            replace q23x : (0 ≤ z18 ∧ z18 < (w 1 0) ∧ z22 = (w 5 z18) % 256) ∨ ((z18 < 0 ∨ (w 1 0) ≤ z18) ∧ z22 = 0) := by rw [show w 1 0 = w 1 0 from rfl, show w 5 z18 = w 5 z18 from rfl] at q23x; exact q23x
            refine e_Ok.nrm (q := 64) (st' := [(0, z22)]) rfl rfl ?_
            refine e_Ok.callS rfl (e_dq hd rfl) rfl rfl (c_122 (by omega)) (fun r24 w25 h26 => ?_)
            obtain ⟨z27, rfl, rfl, q28⟩ := h26
            obtain ⟨rfl, q28⟩ | ⟨rfl, q28⟩ := q28
            · refine e_Ok.nrm (q := 67) (st' := [(0, 1)]) rfl rfl ?_
              refine e_Ok.if1 rfl (fun h29 => ?_) (fun h29 => ?_)
              · replace h29 : (1 : Int) ≠ 0 := h29
                refine e_Ok.ps1 (x := (0, 0)) (q := 75) 1 rfl ?_
                refine e_Ok.rets rfl rfl ?_
                exact ⟨_, rfl, rfl, by omega⟩
              · replace h29 : (1 : Int) = 0 := Classical.not_not.mp (show ¬ ((1 : Int) ≠ 0) from h29)
                exfalso; omega
            · refine e_Ok.nrm (q := 67) (st' := [(0, 0)]) rfl rfl ?_
              refine e_Ok.if1 rfl (fun h30 => ?_) (fun h30 => ?_)
              · replace h30 : (0 : Int) ≠ 0 := h30
                exfalso; omega
              · replace h30 : (0 : Int) = 0 := Classical.not_not.mp (show ¬ ((0 : Int) ≠ 0) from h30)
                refine e_Ok.ps1 (x := (0, 1)) (q := 75) 2 rfl ?_
                refine e_Ok.rets rfl rfl ?_
                exact ⟨_, rfl, rfl, by omega⟩
      · replace h4 : (y3 : Int) < 24 := Int.not_le.mp (show ¬ ((y3 : Int) ≥ 24) from h4)
        refine e_Ok.ps3 (x := (0, y3)) (y := (0, p)) (z := (1, 1)) (q := 11) 3 rfl ?_
        refine e_Ok.any rfl (eF_add_any _ _) (fun z31 z31a z31b => ?_)
        refine e_Ok.callV rfl (e_dq hd rfl) rfl rfl rfl rfl (c_120 hT hH (by omega)) (fun r32 w33 h34 => ?_)
        obtain ⟨z35, rfl, rfl, q36r, q36x⟩ := h34
        replace q36x : (0 ≤ z31 ∧ z31 < (w 1 0) ∧ z35 = (w 5 z31) % 256) ∨ ((z31 < 0 ∨ (w 1 0) ≤ z31) ∧ z35 = 0) := by rw [show w 1 0 = w 1 0 from rfl, show w 5 z31 = w 5 z31 from rfl] at q36x; exact q36x
        refine e_Ok.nrm (q := 15) (st' := [(0, z35)]) rfl rfl ?_
        refine e_Ok.callS rfl (e_dq hd rfl) rfl rfl (c_122 (by omega)) (fun r37 w38 h40 => ?_)
        obtain ⟨z41, rfl, rfl, q42⟩ := h40
        obtain ⟨rfl, q42⟩ | ⟨rfl, q42⟩ := q42
        · refine e_Ok.nrm (q := 18) (st' := [(0, 1)]) rfl rfl ?_
          refine e_Ok.if1 rfl (fun h43 => ?_) (fun h43 => ?_)
          · replace h43 : (1 : Int) = 0 := h43
            exfalso; omega
          · replace h43 : (1 : Int) ≠ 0 := (show ¬ ((1 : Int) = 0) from h43)
            refine e_Ok.ps3 (x := (0, y3)) (y := (0, p)) (z := (1, 1)) (q := 24) 3 rfl ?_
            refine e_Ok.any rfl (eF_add_any _ _) (fun z44 z44a z44b => ?_)
            refine e_Ok.callV rfl (e_dq hd rfl) rfl rfl rfl rfl (c_120 hT hH (by omega)) (fun r45 w46 h47 => ?_)
            obtain ⟨z48, rfl, rfl, q49r, q49x⟩ := h47
            replace q49x : (0 ≤ z44 ∧ z44 < (w 1 0) ∧ z48 = (w 5 z44) % 256) ∨ ((z44 < 0 ∨ (w 1 0) ≤ z44) ∧ z48 = 0) := by rw [show w 1 0 = w 1 0 from rfl, show w 5 z44 = w 5 z44 from rfl] at q49x; exact q49x
            refine e_Ok.nrm (q := 28) (st' := [(0, z48)]) rfl rfl ?_
            refine e_Ok.ps3 (x := (0, y3)) (y := (0, x)) (z := (1, 1)) (q := 31) 3 rfl ?_
            refine e_Ok.any rfl (eF_add_any _ _) (fun z50 z50a z50b => ?_)
            refine e_Ok.callV rfl (e_dq hd rfl) rfl rfl rfl rfl (c_120 hT hH (by omega)) (fun r51 w52 h53 => ?_)
            obtain ⟨z54, rfl, rfl, q55r, q55x⟩ := h53
            replace q55x : (0 ≤ z50 ∧ z50 < (w 1 0) ∧ z54 = (w 5 z50) % 256) ∨ ((z50 < 0 ∨ (w 1 0) ≤ z50) ∧ z54 = 0) := by rw [show w 1 0 = w 1 0 from rfl, show w 5 z50 = w 5 z50 from rfl] at q55x; exact q55x
            refine e_Ok.nrm (q := 35) (st' := [(0, z54), (0, z48)]) rfl rfl ?_
            refine e_Ok.if2 rfl (fun h56 => ?_) (fun h56 => ?_)
            · replace h56 : (z48 : Int) ≠ z54 := h56
              refine e_Ok.ps3 (x := (0, y3)) (y := (0, p)) (z := (1, 1)) (q := 47) 3 rfl ?_
              refine e_Ok.any rfl (eF_add_any _ _) (fun z57 z57a z57b => ?_)
              refine e_Ok.callV rfl (e_dq hd rfl) rfl rfl rfl rfl (c_120 hT hH (by omega)) (fun r58 w59 h60 => ?_)
              obtain ⟨z61, rfl, rfl, q62r, q62x⟩ := h60
              replace q62x : (0 ≤ z57 ∧ z57 < (w 1 0) ∧ z61 = (w 5 z57) % 256) ∨ ((z57 < 0 ∨ (w 1 0) ≤ z57) ∧ z61 = 0) := by rw [show w 1 0 = w 1 0 from rfl, show w 5 z57 = w 5 z57 from rfl] at q62x; exact q62x
              refine e_Ok.nrm (q := 51) (st' := [(0, z61)]) rfl rfl ?_
              refine e_Ok.callS rfl (e_dq hd rfl) rfl rfl (c_122 (by omega)) (fun r63 w64 h65 => ?_)
              obtain ⟨z66, rfl, rfl, q67⟩ := h65
              obtain ⟨rfl, q67⟩ | ⟨rfl, q67⟩ := q67
              · refine e_Ok.nrm (q := 54) (st' := [(0, 1)]) rfl rfl ?_
                refine e_Ok.if1 rfl (fun h68 => ?_) (fun h68 => ?_)
                · replace h68 : (1 : Int) ≠ 0 := h68
                  refine e_Ok.ps1 (x := (0, 0)) (q := 75) 1 rfl ?_
                  refine e_Ok.rets rfl rfl ?_
                  exact ⟨_, rfl, rfl, by omega⟩
                · replace h68 : (1 : Int) = 0 := Classical.not_not.mp (show ¬ ((1 : Int) ≠ 0) from h68)
                  exfalso; omega
              · refine e_Ok.nrm (q := 54) (st' := [(0, 0)]) rfl rfl ?_
                refine e_Ok.if1 rfl (fun h69 => ?_) (fun h69 => ?_)
                · replace h69 : (0 : Int) ≠ 0 := h69
                  exfalso; omega
                · replace h69 : (0 : Int) = 0 := Classical.not_not.mp (show ¬ ((0 : Int) ≠ 0) from h69)
                  refine e_Ok.ps3 (x := (0, y3)) (y := (0, x)) (z := (1, 1)) (q := 60) 3 rfl ?_
                  refine e_Ok.any rfl (eF_add_any _ _) (fun z70 z70a z70b => ?_)
                  refine e_Ok.callV rfl (e_dq hd rfl) rfl rfl rfl rfl (c_120 hT hH (by omega)) (fun r71 w72 h73 => ?_)
                  obtain ⟨z74, rfl, rfl, q75r, q75x⟩ := h73
                  replace q75x : (0 ≤ z70 ∧ z70 < (w 1 0) ∧ z74 = (w 5 z70) % 256) ∨ ((z70 < 0 ∨ (w 1 0) ≤ z70) ∧ z74 = 0) := by rw [show w 1 0 = w 1 0 from rfl, show w 5 z70 = w 5 z70 from rfl] at q75x; exact q75x
                  refine e_Ok.nrm (q := 64) (st' := [(0, z74)]) rfl rfl ?_
                  refine e_Ok.callS rfl (e_dq hd rfl) rfl rfl (c_122 (by omega)) (fun r76 w77 h78 => ?_)
                  obtain ⟨z79, rfl, rfl, q80⟩ := h78
                  obtain ⟨rfl, q80⟩ | ⟨rfl, q80⟩ := q80
                  · refine e_Ok.nrm (q := 67) (st' := [(0, 1)]) rfl rfl ?_
                    refine e_Ok.if1 rfl (fun h81 => ?_) (fun h81 => ?_)
                    · replace h81 : (1 : Int) ≠ 0 := h81
                      refine e_Ok.ps1 (x := (0, 0)) (q := 75) 1 rfl ?_
                      refine e_Ok.rets rfl rfl ?_
                      exact ⟨_, rfl, rfl, by omega⟩
                    · replace h81 : (1 : Int) = 0 := Classical.not_not.mp (show ¬ ((1 : Int) ≠ 0) from h81)
                      exfalso; omega
                  · refine e_Ok.nrm (q := 67) (st' := [(0, 0)]) rfl rfl ?_
                    refine e_Ok.if1 rfl (fun h82 => ?_) (fun h82 => ?_)
                    · replace h82 : (0 : Int) ≠ 0 := h82
                      exfalso; omega
                    · replace h82 : (0 : Int) = 0 := Classical.not_not.mp (show ¬ ((0 : Int) ≠ 0) from h82)
                      refine e_Ok.ps1 (x := (0, 1)) (q := 75) 2 rfl ?_
                      refine e_Ok.rets rfl rfl ?_
                      exact ⟨_, rfl, rfl, by omega⟩
            · replace h56 : (z48 : Int) = z54 := Classical.not_not.mp (show ¬ ((z48 : Int) ≠ z54) from h56)
              refine e_Ok.inc (z := y3 + 1) rfl rfl (by first | with_reducible rfl | omega) (by omega) ?_
              show e_Ok 20 elay kcode eI (d + 1) 134 (41, [(3, (0, y3 + 1)), (0, (1, 1)), (1, (0, p)), (2, (0, x))], [], w) _
              refine e_Ok.ps0 (q := 2) 1 rfl ?_
              refine e_Ok.sub kAlk (e_sub_of rfl ?_) (ih2 (y3 + 1) ((by omega)) (by omega))
              exact ⟨rfl, rfl, rfl, rfl, trivial⟩
        · refine e_Ok.nrm (q := 18) (st' := [(0, 0)]) rfl rfl ?_
          refine e_Ok.if1 rfl (fun h83 => ?_) (fun h83 => ?_)
          · replace h83 : (0 : Int) = 0 := h83
            refine e_Ok.ps3 (x := (0, y3)) (y := (0, p)) (z := (1, 1)) (q := 47) 3 rfl ?_
            refine e_Ok.any rfl (eF_add_any _ _) (fun z84 z84a z84b => ?_)
            refine e_Ok.callV rfl (e_dq hd rfl) rfl rfl rfl rfl (c_120 hT hH (by omega)) (fun r85 w86 h87 => ?_)
            obtain ⟨z88, rfl, rfl, q89r, q89x⟩ := h87
            replace q89x : (0 ≤ z84 ∧ z84 < (w 1 0) ∧ z88 = (w 5 z84) % 256) ∨ ((z84 < 0 ∨ (w 1 0) ≤ z84) ∧ z88 = 0) := by rw [show w 1 0 = w 1 0 from rfl, show w 5 z84 = w 5 z84 from rfl] at q89x; exact q89x
            refine e_Ok.nrm (q := 51) (st' := [(0, z88)]) rfl rfl ?_
            refine e_Ok.callS rfl (e_dq hd rfl) rfl rfl (c_122 (by omega)) (fun r90 w91 h92 => ?_)
            obtain ⟨z93, rfl, rfl, q94⟩ := h92
            obtain ⟨rfl, q94⟩ | ⟨rfl, q94⟩ := q94
            · refine e_Ok.nrm (q := 54) (st' := [(0, 1)]) rfl rfl ?_
              refine e_Ok.if1 rfl (fun h95 => ?_) (fun h95 => ?_)
              · replace h95 : (1 : Int) ≠ 0 := h95
                refine e_Ok.ps1 (x := (0, 0)) (q := 75) 1 rfl ?_
                refine e_Ok.rets rfl rfl ?_
                exact ⟨_, rfl, rfl, by omega⟩
              · replace h95 : (1 : Int) = 0 := Classical.not_not.mp (show ¬ ((1 : Int) ≠ 0) from h95)
                exfalso; omega
            · refine e_Ok.nrm (q := 54) (st' := [(0, 0)]) rfl rfl ?_
              refine e_Ok.if1 rfl (fun h101 => ?_) (fun h101 => ?_)
              · replace h101 : (0 : Int) ≠ 0 := h101
                exfalso; omega
              · replace h101 : (0 : Int) = 0 := Classical.not_not.mp (show ¬ ((0 : Int) ≠ 0) from h101)
                refine e_Ok.ps3 (x := (0, y3)) (y := (0, x)) (z := (1, 1)) (q := 60) 3 rfl ?_
                refine e_Ok.any rfl (eF_add_any _ _) (fun z103 z103a z103b => ?_)
                refine e_Ok.callV rfl (e_dq hd rfl) rfl rfl rfl rfl (c_120 hT hH (by omega)) (fun r104 w105 h106 => ?_)
                obtain ⟨z107, rfl, rfl, q108r, q108x⟩ := h106
                replace q108x : (0 ≤ z103 ∧ z103 < (w 1 0) ∧ z107 = (w 5 z103) % 256) ∨ ((z103 < 0 ∨ (w 1 0) ≤ z103) ∧ z107 = 0) := by rw [show w 1 0 = w 1 0 from rfl, show w 5 z103 = w 5 z103 from rfl] at q108x; exact q108x
                refine e_Ok.nrm (q := 64) (st' := [(0, z107)]) rfl rfl ?_
                refine e_Ok.callS rfl (e_dq hd rfl) rfl rfl (c_122 (by omega)) (fun r109 w110 h111 => ?_)
                obtain ⟨z112, rfl, rfl, q113⟩ := h111
                obtain ⟨rfl, q113⟩ | ⟨rfl, q113⟩ := q113
                · refine e_Ok.nrm (q := 67) (st' := [(0, 1)]) rfl rfl ?_
                  refine e_Ok.if1 rfl (fun h114 => ?_) (fun h114 => ?_)
                  · replace h114 : (1 : Int) ≠ 0 := h114
                    refine e_Ok.ps1 (x := (0, 0)) (q := 75) 1 rfl ?_
                    refine e_Ok.rets rfl rfl ?_
                    exact ⟨_, rfl, rfl, by omega⟩
                  · replace h114 : (1 : Int) = 0 := Classical.not_not.mp (show ¬ ((1 : Int) ≠ 0) from h114)
                    exfalso; omega
                · refine e_Ok.nrm (q := 67) (st' := [(0, 0)]) rfl rfl ?_
                  refine e_Ok.if1 rfl (fun h115 => ?_) (fun h115 => ?_)
                  · replace h115 : (0 : Int) ≠ 0 := h115
                    exfalso; omega
                  · replace h115 : (0 : Int) = 0 := Classical.not_not.mp (show ¬ ((0 : Int) ≠ 0) from h115)
                    refine e_Ok.ps1 (x := (0, 1)) (q := 75) 2 rfl ?_
                    refine e_Ok.rets rfl rfl ?_
                    exact ⟨_, rfl, rfl, by omega⟩
          · replace h83 : (0 : Int) ≠ 0 := (show ¬ ((0 : Int) = 0) from h83)
            exfalso; omega
  refine e_Ok.sub kAlk (e_sub_of rfl ?_) (hL1 (25 + 1 : Int).toNat 0 ((by omega)) (by omega))
  exact ⟨rfl, rfl, rfl, rfl, trivial⟩
theorem c_135 {d : Nat} (hd : 22 ≤ d) {w : eW} (hT : e_Has kTy w) (hH : e_Has kRy w) {cd : Int} (hc : w 1 3 = cd) (hcd : isCd cd) {x : Int} (g_x : (-2147483648) ≤ x ∧ x ≤ 2147483647) : e_Ok 20 elay kcode eI d 135 (0, [(0, (1, 1)), (1, (0, x))], [], w) (fun r w' => ∃ z : Int, r = [(0, z)] ∧ w = w' ∧ (-1 ≤ z ∧ z ≤ 31)) := by
  obtain ⟨d, rfl⟩ : ∃ e, d = e + 1 := ⟨d - 1, by omega⟩
  have hcd2 := hcd; unfold isCd at hcd2
  have hcd3 : 2 ≤ cd ∧ cd ≤ 145 := by omega
  have pV := e_Has.get hT (c := cd) (k := 2) (lo := 0) (hi := 32) (kD_2 hcd) (by decide)
  refine e_Ok.run (t' := (2, [(2, (0, 0)), (0, (1, 1)), (1, (0, x))], [], w)) 2 rfl ?_
  have hL1 : ∀ (nn : Nat) (y2 : Int), (0 ≤ y2 ∧ y2 ≤ 32) → 33 - y2 < nn → e_Ok 20 elay kcode eI (d + 1) 135 (2, [(0, (1, 1)), (1, (0, x)), (2, (0, y2))], [], w) (fun r w' => ∃ z : Int, r = [(0, z)] ∧ w = w' ∧ (-1 ≤ z ∧ z ≤ 31)) := by
    intro nn
    induction nn with
    | zero => intro y2 hj hm; obtain j3 := hj; exfalso; omega
    | succ nn ih2 =>
      intro y2 hj hm
      obtain j3 := hj
      refine e_Ok.run (t' := (4, [(0, (1, 1)), (1, (0, x)), (2, (0, y2))], [(1, 1), (0, y2)], w)) 2 rfl ?_
      refine e_Ok.getr (z := cd) rfl (el_o rfl) rfl rfl hc (by omega) ?_
      have h4 := (e_Has.get hT (c := cd) (k := 2) (lo := 0) (hi := 32) (kD_2 hcd) (by decide))
      refine e_Ok.getf (z := w cd 2) rfl (lD0 hcd) rfl rfl rfl (e_bq h4 (by decide) (by decide)) ?_
      refine e_Ok.if2 rfl (fun h5 => ?_) (fun h5 => ?_)
      · replace h5 : (y2 : Int) ≥ w cd 2 := h5
        refine e_Ok.ps1 (x := (0, (-1))) (q := 36) 1 rfl ?_
        refine e_Ok.rets rfl rfl ?_
        exact ⟨_, rfl, rfl, by omega⟩
      · replace h5 : (y2 : Int) < w cd 2 := Int.not_le.mp (show ¬ ((y2 : Int) ≥ w cd 2) from h5)
        refine e_Ok.ps2 (x := (1, 1)) (y := (1, 1)) (q := 15) 2 rfl ?_
        refine e_Ok.getr (z := 6) rfl (el_o rfl) rfl rfl (e_Has.eq hT (kt_o rfl)) ⟨by decide, by decide⟩ ?_
        refine e_Ok.ps1 (x := (0, y2)) (q := 19) 1 rfl ?_
        have h6 := (e_Has.get hH (c := 6) (k := y2) (lo := (-2147483648)) (hi := 2147483647) rfl (by decide))
        refine e_Ok.ald (z := w 6 y2) rfl (el_o rfl) rfl (by omega) rfl (e_bq h6 (by decide) (by decide)) ?_
        refine e_Ok.ps1 (x := (0, x)) (q := 21) 1 rfl ?_
        refine e_Ok.callV rfl (e_dq hd rfl) rfl rfl rfl rfl (c_134 (e_dq hd rfl) hT hH (by omega) (by omega)) (fun r7 w8 h9 => ?_)
        obtain ⟨z10, rfl, rfl, q11⟩ := h9
        refine e_Ok.nrm (q := 24) (st' := [(0, z10)]) rfl rfl ?_
        refine e_Ok.if1 rfl (fun h12 => ?_) (fun h12 => ?_)
        · replace h12 : (z10 : Int) = 0 := h12
          refine e_Ok.inc (z := y2 + 1) rfl rfl (by first | with_reducible rfl | omega) (by omega) ?_
          show e_Ok 20 elay kcode eI (d + 1) 135 (32, [(2, (0, y2 + 1)), (0, (1, 1)), (1, (0, x))], [], w) _
          refine e_Ok.ps0 (q := 2) 1 rfl ?_
          refine e_Ok.sub kAlk (e_sub_of rfl ?_) (ih2 (y2 + 1) ((by omega)) (by omega))
          exact ⟨rfl, rfl, rfl, trivial⟩
        · replace h12 : (z10 : Int) ≠ 0 := (show ¬ ((z10 : Int) = 0) from h12)
          refine e_Ok.ps1 (x := (0, y2)) (q := 28) 1 rfl ?_
          refine e_Ok.rets rfl rfl ?_
          exact ⟨_, rfl, rfl, by omega⟩
  refine e_Ok.sub kAlk (e_sub_of rfl ?_) (hL1 (33 + 1 : Int).toNat 0 ((by omega)) (by omega))
  exact ⟨rfl, rfl, rfl, trivial⟩
theorem c_136 {d : Nat} (hd : 22 ≤ d) {w : eW} (hT : e_Has kTy w) (hH : e_Has kRy w) {x : Int} (g_x : (-2147483648) ≤ x ∧ x ≤ 2147483647) : e_Ok 20 elay kcode eI d 136 (0, [(0, (1, 1)), (1, (0, x))], [], w) (fun r w' => ∃ z : Int, r = [(0, z)] ∧ w = w' ∧ (-1 ≤ z ∧ z ≤ 499 ∧ z < w 1 14)) := by
  obtain ⟨d, rfl⟩ : ∃ e, d = e + 1 := ⟨d - 1, by omega⟩
  have p14 := e_Has.get hH (c := 1) (k := 14) (lo := 0) (hi := 500) rfl (by decide)
  refine e_Ok.run (t' := (2, [(2, (0, 0)), (0, (1, 1)), (1, (0, x))], [], w)) 2 rfl ?_
  have hL1 : ∀ (nn : Nat) (y2 : Int), (0 ≤ y2 ∧ y2 ≤ 500) → 501 - y2 < nn → e_Ok 20 elay kcode eI (d + 1) 136 (2, [(0, (1, 1)), (1, (0, x)), (2, (0, y2))], [], w) (fun r w' => ∃ z : Int, r = [(0, z)] ∧ w = w' ∧ (-1 ≤ z ∧ z ≤ 499 ∧ z < w 1 14)) := by
    intro nn
    induction nn with
    | zero => intro y2 hj hm; obtain j3 := hj; exfalso; omega
    | succ nn ih2 =>
      intro y2 hj hm
      obtain j3 := hj
      refine e_Ok.run (t' := (4, [(0, (1, 1)), (1, (0, x)), (2, (0, y2))], [(1, 1), (0, y2)], w)) 2 rfl ?_
      have h4 := (e_Has.get hH (c := 1) (k := 14) (lo := 0) (hi := 500) rfl (by decide))
      refine e_Ok.getf (z := w 1 14) rfl (el_o rfl) rfl rfl rfl (e_bq h4 (by decide) (by decide)) ?_
      refine e_Ok.if2 rfl (fun h5 => ?_) (fun h5 => ?_)
      · replace h5 : (y2 : Int) ≥ w 1 14 := h5
        refine e_Ok.ps1 (x := (0, (-1))) (q := 33) 1 rfl ?_
        refine e_Ok.rets rfl rfl ?_
        exact ⟨_, rfl, rfl, by omega⟩
      · replace h5 : (y2 : Int) < w 1 14 := Int.not_le.mp (show ¬ ((y2 : Int) ≥ w 1 14) from h5)
        refine e_Ok.ps2 (x := (1, 1)) (y := (1, 1)) (q := 12) 2 rfl ?_
        refine e_Ok.getr (z := 7) rfl (el_o rfl) rfl rfl (e_Has.eq hT (kt_o rfl)) ⟨by decide, by decide⟩ ?_
        refine e_Ok.ps1 (x := (0, y2)) (q := 16) 1 rfl ?_
        have h6 := (e_Has.get hH (c := 7) (k := y2) (lo := (-2147483648)) (hi := 2147483647) rfl (by decide))
        refine e_Ok.ald (z := w 7 y2) rfl (el_o rfl) rfl (by omega) rfl (e_bq h6 (by decide) (by decide)) ?_
        refine e_Ok.ps1 (x := (0, x)) (q := 18) 1 rfl ?_
        refine e_Ok.callV rfl (e_dq hd rfl) rfl rfl rfl rfl (c_134 (e_dq hd rfl) hT hH (by omega) (by omega)) (fun r7 w8 h9 => ?_)
        obtain ⟨z10, rfl, rfl, q11⟩ := h9
        refine e_Ok.nrm (q := 21) (st' := [(0, z10)]) rfl rfl ?_
        refine e_Ok.if1 rfl (fun h12 => ?_) (fun h12 => ?_)
        · replace h12 : (z10 : Int) = 0 := h12
          refine e_Ok.inc (z := y2 + 1) rfl rfl (by first | with_reducible rfl | omega) (by omega) ?_
          show e_Ok 20 elay kcode eI (d + 1) 136 (29, [(2, (0, y2 + 1)), (0, (1, 1)), (1, (0, x))], [], w) _
          refine e_Ok.ps0 (q := 2) 1 rfl ?_
          refine e_Ok.sub kAlk (e_sub_of rfl ?_) (ih2 (y2 + 1) ((by omega)) (by omega))
          exact ⟨rfl, rfl, rfl, trivial⟩
        · replace h12 : (z10 : Int) ≠ 0 := (show ¬ ((z10 : Int) = 0) from h12)
          refine e_Ok.ps1 (x := (0, y2)) (q := 25) 1 rfl ?_
          refine e_Ok.rets rfl rfl ?_
          exact ⟨_, rfl, rfl, by omega⟩
  refine e_Ok.sub kAlk (e_sub_of rfl ?_) (hL1 (501 + 1 : Int).toNat 0 ((by omega)) (by omega))
  exact ⟨rfl, rfl, rfl, trivial⟩
theorem c_137 {d : Nat} (hd : 23 ≤ d) {w : eW} (hT : e_Has kTy w) (hH : e_Has kRy w) (hk : tkR w) {cd : Int} (hc : w 1 3 = cd) (hcd : isCd cd) : e_Ok 20 elay kcode eI d 137 (0, [(0, (1, 1))], [], w) (fun r w' => ∃ z : Int, r = [(0, z)] ∧ e_fr kRc w w' ∧ e_Has kTy w' ∧ e_Has kRy w' ∧ tkR w' ∧ (nF w' → nF w) ∧ (0 ≤ z ∧ z ≤ 31)) := by
  obtain ⟨d, rfl⟩ : ∃ e, d = e + 1 := ⟨d - 1, by omega⟩
  have hcd2 := hcd; unfold isCd at hcd2
  have hcd3 : 2 ≤ cd ∧ cd ≤ 145 := by omega
  have p1 := e_Has.get hH (c := 1) (k := 1) (lo := (-2147483648)) (hi := 2147483647) rfl (by decide)
  have p5 := e_Has.get hH (c := 1) (k := 5) (lo := 0) (hi := 53) rfl (by decide)
  have p6 := e_Has.get hH (c := 1) (k := 6) (lo := 0) (hi := 4000) rfl (by decide)
  have p9 := e_Has.get hH (c := 1) (k := 9) (lo := (-2147483648)) (hi := 2147483647) rfl (by decide)
  refine e_Ok.ps2 (x := (1, 1)) (y := (1, 1)) (q := 2) 2 rfl ?_
  have h1 := (e_Has.get hH (c := 1) (k := 6) (lo := 0) (hi := 4000) rfl (by decide))
  refine e_Ok.getf (z := w 1 6) rfl (el_o rfl) rfl rfl rfl (e_bq h1 (by decide) (by decide)) ?_
  refine e_Ok.callV rfl (e_dq hd rfl) rfl rfl rfl rfl (c_135 (e_dq hd rfl) hT hH hc hcd (by omega)) (fun r2 w3 h4 => ?_)
  obtain ⟨z5, rfl, rfl, q6⟩ := h4
  refine e_Ok.nrm (q := 8) (st' := [(0, z5)]) rfl rfl ?_
  refine e_Ok.run (t' := (10, [(1, (0, z5)), (0, (1, 1))], [(0, z5)], w)) 2 rfl ?_
  refine e_Ok.if1 rfl (fun h7 => ?_) (fun h7 => ?_)
  · replace h7 : (z5 : Int) ≥ 0 := h7
    refine e_Ok.ps2 (x := (0, 0)) (y := (0, z5)) (q := 24) 2 rfl ?_
    refine e_Ok.mmax rfl rfl (fun z8 hz8 => ?_)
    replace hz8 : (z5 < 0 ∧ z8 = 0) ∨ (0 ≤ z5 ∧ z8 = z5) := hz8
    refine e_Ok.rets rfl rfl ?_
    exact ⟨_, rfl, e_fr.refl w, hT, hH, hk, fun h => h, by omega⟩
  · replace h7 : (z5 : Int) < 0 := Int.not_le.mp (show ¬ ((z5 : Int) ≥ 0) from h7)
    refine e_Ok.ps3 (x := (1, 1)) (y := (0, 5)) (z := (1, 1)) (q := 16) 3 rfl ?_
    refine e_Ok.getf (z := w 1 6) rfl (el_o rfl) rfl rfl rfl (by omega) ?_
    refine e_Ok.callV rfl (e_dq hd rfl) rfl rfl rfl rfl (c_133 hT hH hk (by omega) (by omega)) (fun r9 w10 h11 => ?_)
    obtain ⟨rfl, q12f, q12T, q12H, q12k, q12n⟩ := h11
    refine e_Ok.nrm (q := 22) (st' := []) rfl rfl ?_
    refine e_Ok.ps2 (x := (0, 0)) (y := (0, z5)) (q := 24) 2 rfl ?_
    refine e_Ok.mmax rfl rfl (fun z14 hz14 => ?_)
    replace hz14 : (z5 < 0 ∧ z14 = 0) ∨ (0 ≤ z5 ∧ z14 = z5) := hz14
    refine e_Ok.rets rfl rfl ?_
    exact ⟨_, rfl, (show e_fr kRc w w10 from e_fr.trans (e_fr.refl w) (e_fr.mono q12f (fun c k q => by exact q))), q12T, q12H, q12k, (fun h => absurd h q12n), by omega⟩
theorem c_139 {d : Nat} (hd : 23 ≤ d) {w : eW} (hT : e_Has kTy w) (hH : e_Has kRy w) (hk : tkR w) {cd : Int} (hc : w 1 3 = cd) (hcd : isCd cd) : e_Ok 20 elay kcode eI d 139 (0, [(0, (1, 1))], [], w) (fun r w' => r = [] ∧ e_fr kRc w w' ∧ e_Has kTy w' ∧ e_Has kRy w' ∧ tkR w' ∧ (nF w' → nF w)) := by
  obtain ⟨d, rfl⟩ : ∃ e, d = e + 1 := ⟨d - 1, by omega⟩
  have hcd2 := hcd; unfold isCd at hcd2
  have hcd3 : 2 ≤ cd ∧ cd ≤ 145 := by omega
  have p1 := e_Has.get hH (c := 1) (k := 1) (lo := (-2147483648)) (hi := 2147483647) rfl (by decide)
  have p5 := e_Has.get hH (c := 1) (k := 5) (lo := 0) (hi := 53) rfl (by decide)
  have p6 := e_Has.get hH (c := 1) (k := 6) (lo := 0) (hi := 4000) rfl (by decide)
  have p9 := e_Has.get hH (c := 1) (k := 9) (lo := (-2147483648)) (hi := 2147483647) rfl (by decide)
  refine e_Ok.ps2 (x := (1, 1)) (y := (1, 1)) (q := 2) 2 rfl ?_
  have h1 := (e_Has.get hH (c := 1) (k := 6) (lo := 0) (hi := 4000) rfl (by decide))
  refine e_Ok.getf (z := w 1 6) rfl (el_o rfl) rfl rfl rfl (e_bq h1 (by decide) (by decide)) ?_
  refine e_Ok.callV rfl (e_dq hd rfl) rfl rfl rfl rfl (c_135 (e_dq hd rfl) hT hH hc hcd (by omega)) (fun r2 w3 h4 => ?_)
  obtain ⟨z5, rfl, rfl, q6⟩ := h4
  refine e_Ok.nrm (q := 8) (st' := [(0, z5)]) rfl rfl ?_
  refine e_Ok.if1 rfl (fun h7 => ?_) (fun h7 => ?_)
  · replace h7 : (z5 : Int) ≥ 0 := h7
    refine e_Ok.ps3 (x := (1, 1)) (y := (0, 4)) (z := (1, 1)) (q := 25) 3 rfl ?_
    refine e_Ok.getf (z := w 1 6) rfl (el_o rfl) rfl rfl rfl (by omega) ?_
    refine e_Ok.callV rfl (e_dq hd rfl) rfl rfl rfl rfl (c_133 hT hH hk (by omega) (by omega)) (fun r8 w9 h10 => ?_)
    obtain ⟨rfl, q11f, q11T, q11H, q11k, q11n⟩ := h10
    refine e_Ok.nrm (q := 31) (st' := []) rfl rfl ?_
    refine e_Ok.rets rfl rfl ?_
    exact ⟨rfl, (show e_fr kRc w w9 from e_fr.trans (e_fr.refl w) (e_fr.mono q11f (fun c k q => by exact q))), q11T, q11H, q11k, (fun h => absurd h q11n)⟩
  · replace h7 : (z5 : Int) < 0 := Int.not_le.mp (show ¬ ((z5 : Int) ≥ 0) from h7)
    refine e_Ok.ps2 (x := (1, 1)) (y := (1, 1)) (q := 13) 2 rfl ?_
    refine e_Ok.getf (z := w 1 6) rfl (el_o rfl) rfl rfl rfl (by omega) ?_
    refine e_Ok.callV rfl (e_dq hd rfl) rfl rfl rfl rfl (c_136 (e_dq hd rfl) hT hH (by omega)) (fun r13 w14 h15 => ?_)
    obtain ⟨z16, rfl, rfl, q17⟩ := h15
    refine e_Ok.nrm (q := 19) (st' := [(0, z16)]) rfl rfl ?_
    refine e_Ok.if1 rfl (fun h18 => ?_) (fun h18 => ?_)
    · replace h18 : (z16 : Int) < 0 := h18
      refine e_Ok.rets rfl rfl ?_
      exact ⟨rfl, e_fr.refl w, hT, hH, hk, fun h => h⟩
    · replace h18 : (z16 : Int) ≥ 0 := Int.not_lt.mp (show ¬ ((z16 : Int) < 0) from h18)
      refine e_Ok.ps3 (x := (1, 1)) (y := (0, 4)) (z := (1, 1)) (q := 25) 3 rfl ?_
      refine e_Ok.getf (z := w 1 6) rfl (el_o rfl) rfl rfl rfl (by omega) ?_
      refine e_Ok.callV rfl (e_dq hd rfl) rfl rfl rfl rfl (c_133 hT hH hk (by omega) (by omega)) (fun r19 w20 h21 => ?_)
      obtain ⟨rfl, q22f, q22T, q22H, q22k, q22n⟩ := h21
      refine e_Ok.nrm (q := 31) (st' := []) rfl rfl ?_
      refine e_Ok.rets rfl rfl ?_
      exact ⟨rfl, (show e_fr kRc w w20 from e_fr.trans (e_fr.refl w) (e_fr.mono q22f (fun c k q => by exact q))), q22T, q22H, q22k, (fun h => absurd h q22n)⟩
theorem c_21 {d : Nat} {w : eW} (hT : e_Has kTy w) {cd : Int} (hcd : isCd cd) {op : Int} (g_op : 0 ≤ op ∧ op ≤ 63) {od : Int} (g_od : 0 ≤ od ∧ od ≤ 33554431) : e_Ok 20 elay kcode eI d 21 (0, [(0, (1, cd)), (1, (0, op)), (2, (0, od))], [], w) (fun r w' => ∃ z : Int, r = [(0, z)] ∧ e_fr (kEm cd) w w' ∧ e_Has kTy w' ∧ emQ w w' cd op od z) := by
  have hcd2 := hcd; unfold isCd at hcd2
  have hcd3 : 2 ≤ cd ∧ cd ≤ 145 := by omega
  have pL := e_Has.get hT (c := cd) (k := 0) (lo := 0) (hi := 4000) (kD_0 hcd) (by decide)
  refine e_Ok.ps1 (x := (1, cd)) (q := 1) 1 rfl ?_
  have h1 := (e_Has.get hT (c := cd) (k := 0) (lo := 0) (hi := 4000) (kD_0 hcd) (by decide))
  refine e_Ok.getf (z := w cd 0) rfl (lD0 hcd) rfl rfl rfl (e_bq h1 (by decide) (by decide)) ?_
  refine e_Ok.ps1 (x := (0, 4000)) (q := 7) 1 rfl ?_
  refine e_Ok.if2 rfl (fun h2 => ?_) (fun h2 => ?_)
  · replace h2 : (w cd 0 : Int) < 4000 := h2
    refine e_Ok.ps1 (x := (1, cd)) (q := 18) 1 rfl ?_
    refine e_Ok.getr (z := cd + 2) rfl (lD0 hcd) rfl rfl (Eq.trans (e_Has.eq hT (kD_4 hcd)) (by omega)) (by omega) ?_
    refine e_Ok.ps1 (x := (1, cd)) (q := 22) 1 rfl ?_
    refine e_Ok.getf (z := w cd 0) rfl (lD0 hcd) rfl rfl rfl (by omega) ?_
    refine e_Ok.ps2 (x := (0, 6)) (y := (0, od)) (q := 28) 2 rfl ?_
    refine e_Ok.shl6 rfl (by omega) (fun z3 hz3 => ?_)
    replace hz3 : z3 = od * 64 := hz3
    refine e_Ok.ps1 (x := (0, op)) (q := 30) 1 rfl ?_
    refine e_Ok.or6 rfl (by omega) (by omega) (fun z4 hz4 => ?_)
    replace hz4 : z4 = z3 + op := hz4
    refine e_Ok.ast rfl (lD2 (d := cd) (by omega) hcd) rfl rfl (by omega) ?_
    generalize hw5 : e_up w (cd + 2) (w cd 0) z4 = w5
    have hT7 : e_Has kTy w5 := e_Has.upr hT hw5 (kD2 (d := cd) _ (by omega) hcd) (by omega)
    refine e_Ok.ps2 (x := (1, cd)) (y := (1, cd)) (q := 34) 2 rfl ?_
    refine e_Ok.getf (z := w cd 0) rfl (lD0 hcd) rfl rfl (e_uq hw5 (Or.inl (e_ne1 (by decide))) rfl) (by omega) ?_
    refine e_Ok.ps1 (x := (0, 1)) (q := 38) 1 rfl ?_
    refine e_Ok.add (z := w cd 0 + 1) rfl rfl (by omega) ?_
    refine e_Ok.putf rfl (lD0 hcd) rfl rfl ?_
    generalize hw8 : e_up w5 cd 0 (w cd 0 + 1) = w8
    have hT10 : e_Has kTy w8 := e_Has.upr hT7 hw8 (kD_0 hcd) (by omega)
    refine e_Ok.ps1 (x := (1, cd)) (q := 43) 1 rfl ?_
    refine e_Ok.getf (z := w cd 0 + 1) rfl (lD0 hcd) rfl rfl (e_ue hw8) (by omega) ?_
    refine e_Ok.ps1 (x := (0, 1)) (q := 47) 1 rfl ?_
    refine e_Ok.sub' (z := w cd 0) rfl (by omega) (by omega) ?_
    refine e_Ok.rets rfl rfl ?_
    exact ⟨_, rfl, (show e_fr (kEm cd) w w8 from e_fr.up (show e_fr (kEm cd) w w5 from e_fr.up (e_fr.refl w) hw5 (by first | exact Or.inr (by omega) | (unfold kEm; omega))) hw8 (by first | exact Or.inl ⟨(by omega), rfl⟩ | (unfold kEm; omega))), hT10, Or.inl ⟨by omega, (e_ue hw8), by omega, (by have g : w8 (cd + 2) (w cd 0) = z4 := (e_uq hw8 (Or.inl (by omega)) (e_ue hw5)); omega), fun k hk => by rw [← hw8, e_up_ne _ _ (by omega), ← hw5, e_up_ne _ _ (by omega)]⟩⟩
  · replace h2 : (w cd 0 : Int) ≥ 4000 := Int.not_lt.mp (show ¬ ((w cd 0 : Int) < 4000) from h2)
    refine e_Ok.ps1 (x := (1, cd)) (q := 11) 1 rfl ?_
    refine e_Ok.getf (z := w cd 0) rfl (lD0 hcd) rfl rfl rfl (by omega) ?_
    refine e_Ok.ps1 (x := (0, 1)) (q := 15) 1 rfl ?_
    refine e_Ok.sub' (z := w cd 0 - 1) rfl rfl (by omega) ?_
    refine e_Ok.rets rfl rfl ?_
    exact ⟨_, rfl, e_fr.refl w, hT, Or.inr ⟨by omega, rfl, by omega⟩⟩
theorem c_22 {d : Nat} {w : eW} (hT : e_Has kTy w) {cd : Int} (hcd : isCd cd) {x : Int} (g_x : (-2147483648) ≤ x ∧ x ≤ 2147483647) {od : Int} (g_od : 0 ≤ od ∧ od ≤ 33554431) : e_Ok 20 elay kcode eI d 22 (0, [(0, (1, cd)), (1, (0, x)), (2, (0, od))], [], w) (fun r w' => r = [] ∧ e_fr (kPa cd) w w' ∧ e_Has kTy w' ∧ paQ w w' cd x od) := by
  have hcd2 := hcd; unfold isCd at hcd2
  have hcd3 : 2 ≤ cd ∧ cd ≤ 145 := by omega
  have pL := e_Has.get hT (c := cd) (k := 0) (lo := 0) (hi := 4000) (kD_0 hcd) (by decide)
  refine e_Ok.ps1 (x := (0, x)) (q := 1) 1 rfl ?_
  refine e_Ok.if1 rfl (fun h1 => ?_) (fun h1 => ?_)
  · replace h1 : (x : Int) < 0 := h1
    refine e_Ok.rets rfl rfl ?_
    exact ⟨rfl, e_fr.refl w, hT, Or.inr ⟨by omega, rfl⟩⟩
  · replace h1 : (x : Int) ≥ 0 := Int.not_lt.mp (show ¬ ((x : Int) < 0) from h1)
    refine e_Ok.ps2 (x := (1, cd)) (y := (0, x)) (q := 6) 2 rfl ?_
    have h2 := (e_Has.get hT (c := cd) (k := 0) (lo := 0) (hi := 4000) (kD_0 hcd) (by decide))
    refine e_Ok.getf (z := w cd 0) rfl (lD0 hcd) rfl rfl rfl (e_bq h2 (by decide) (by decide)) ?_
    refine e_Ok.if2 rfl (fun h3 => ?_) (fun h3 => ?_)
    · replace h3 : (x : Int) ≥ w cd 0 := h3
      refine e_Ok.rets rfl rfl ?_
      exact ⟨rfl, e_fr.refl w, hT, Or.inr ⟨by omega, rfl⟩⟩
    · replace h3 : (x : Int) < w cd 0 := Int.not_le.mp (show ¬ ((x : Int) ≥ w cd 0) from h3)
      refine e_Ok.ps1 (x := (1, cd)) (q := 13) 1 rfl ?_
      refine e_Ok.getr (z := cd + 2) rfl (lD0 hcd) rfl rfl (Eq.trans (e_Has.eq hT (kD_4 hcd)) (by omega)) (by omega) ?_
      refine e_Ok.ps3 (x := (0, 6)) (y := (0, od)) (z := (0, x)) (q := 20) 3 rfl ?_
      refine e_Ok.shl6 rfl (by omega) (fun z4 hz4 => ?_)
      replace hz4 : z4 = od * 64 := hz4
      refine e_Ok.ps1 (x := (1, cd)) (q := 22) 1 rfl ?_
      refine e_Ok.getr (z := cd + 2) rfl (lD0 hcd) rfl rfl (Eq.trans (e_Has.eq hT (kD_4 hcd)) (by omega)) (by omega) ?_
      refine e_Ok.ps1 (x := (0, x)) (q := 26) 1 rfl ?_
      have h5 := (e_Has.get hT (c := cd + 2) (k := x) (lo := (-2147483648)) (hi := 2147483647) (kD2 (d := cd) _ (by omega) hcd) (by decide))
      refine e_Ok.ald (z := w (cd + 2) x) rfl (lD2 (d := cd) (by omega) hcd) rfl (by omega) rfl (e_bq h5 (by decide) (by decide)) ?_
      refine e_Ok.ps1 (x := (0, 63)) (q := 29) 1 rfl ?_
      refine e_Ok.andm 63 6 rfl (by decide) (fun z6 hz6 => ?_)
      replace hz6 : z6 = (w (cd + 2) x) % 64 := hz6
      have hz6r : 0 ≤ z6 ∧ z6 ≤ 63 := by omega
      refine e_Ok.or6 rfl (by omega) (by omega) (fun z7 hz7 => ?_)
      replace hz7 : z7 = z4 + z6 := hz7
      refine e_Ok.ast rfl (lD2 (d := cd) (by omega) hcd) rfl rfl (by omega) ?_
      generalize hw8 : e_up w (cd + 2) x z7 = w8
      have hT10 : e_Has kTy w8 := e_Has.upr hT hw8 (kD2 (d := cd) _ (by omega) hcd) (by omega)
      refine e_Ok.rets rfl rfl ?_
      exact ⟨rfl, (show e_fr (kPa cd) w w8 from e_fr.up (e_fr.refl w) hw8 (by first | exact (by omega) | (unfold kPa; omega))), hT10, Or.inl ⟨by omega, by omega, (by have g : w8 (cd + 2) x = z7 := (e_ue hw8); omega), fun k hk => by rw [← hw8, e_up_ne _ _ (by omega)]⟩⟩
end
end
