noncomputable section
/-! the two readers beside one another: what they have alike while they read (texts, token, names, faults of names) -/
def kNtk (c k : Int) : Prop := ¬ ((c = 1 ∧ 0 ≤ k ∧ k ≤ 8) ∨ c = 5)
def mNtk (c k : Int) : Prop := ¬ ((c = 275 ∧ (k = 8 ∨ k = 9 ∨ (84 ≤ k ∧ k ≤ 89))) ∨ c = 281)
theorem kNtk.at {w w' : eW} (f : e_fr kNtk w w') {c k : Int} (q : (c = 1 ∧ 0 ≤ k ∧ k ≤ 8) ∨ c = 5) : w' c k = w c k := f c k (fun n => n q)
theorem mNtk.at {v v' : eW} (f : e_fr mNtk v v') {c k : Int} (q : (c = 275 ∧ (k = 8 ∨ k = 9 ∨ (84 ≤ k ∧ k ≤ 89))) ∨ c = 281) : v' c k = v c k := f c k (fun n => n q)
theorem rpA.fr {N : Int} {w v w' v' : eW} (h : rpA N w v) (f : e_fr kNtk w w') (g : e_fr mNtk v v') : rpA N w' v' := by
  obtain ⟨⟨a1, a2, a3⟩, a4, a5, a6, a7, a8⟩ := h
  refine ⟨⟨(kNtk.at f (by omega)).trans a1, (mNtk.at g (by omega)).trans a2, a3⟩, fun i i0 i1 => ?_, a5.fr (fun c k q => ?_) f, a6.fr (fun c k q => ?_) f, a7.fr (fun c k q => ?_) g, a8.fr (fun c k q => ?_) g⟩
  · rw [kNtk.at f (by omega), mNtk.at g (by omega)]; exact a4 i i0 i1
  · unfold kNtk at q; unfold kLt; rw [if_neg (by omega)]
  · unfold kNtk at q
    unfold kLr
    by_cases e : c = 1
    · rw [if_pos e, if_neg (by omega), if_neg (by omega), if_neg (by omega), if_neg (by omega), if_neg (by omega)]
    · rw [if_neg e, if_neg (by omega)]
  · unfold mNtk at q; unfold mLq; rw [if_neg (by omega)]
  · unfold mNtk at q; unfold mLr; rw [if_neg (by omega)]
theorem rpK.fr {N : Int} {w v w' v' : eW} (h : rpK N w v) (f : e_fr kNtk w w') (g : e_fr mNtk v v') : rpK N w' v' := by
  have e1 : w' 1 1 = w 1 1 := kNtk.at f (by omega)
  have e5 : w' 1 5 = w 1 5 := kNtk.at f (by omega)
  have e6 : w' 1 6 = w 1 6 := kNtk.at f (by omega)
  have e7 : w' 1 7 = w 1 7 := kNtk.at f (by omega)
  have e8 : w' 1 8 = w 1 8 := kNtk.at f (by omega)
  have g4 : v' 275 84 = v 275 84 := mNtk.at g (by omega)
  have g5 : v' 275 85 = v 275 85 := mNtk.at g (by omega)
  have g6 : v' 275 86 = v 275 86 := mNtk.at g (by omega)
  have g7 : v' 275 87 = v 275 87 := mNtk.at g (by omega)
  have g8 : v' 275 88 = v 275 88 := mNtk.at g (by omega)
  unfold rpK
  rw [e1, e5, e6, e7, e8, g4, g5, g6, g7, g8]
  exact h
/-- a word's end -/
def tkEn (N : Int) (w : eW) : Prop := (w 1 5 = 1 ∨ 21 ≤ w 1 5) → wdF (w 5) N (w 1 6) = w 1 7 ∧ w 1 7 - w 1 6 ≤ 24
theorem kNtk.tk {N : Int} {w w' : eW} (f : e_fr kNtk w w') (h : tkR w ∧ tkEn N w) : tkR w' ∧ tkEn N w' := by
  have e0 : w' 1 0 = w 1 0 := kNtk.at f (by omega)
  have e5 : w' 1 5 = w 1 5 := kNtk.at f (by omega)
  have e6 : w' 1 6 = w 1 6 := kNtk.at f (by omega)
  have e7 : w' 1 7 = w 1 7 := kNtk.at f (by omega)
  have e8 : w' 1 8 = w 1 8 := kNtk.at f (by omega)
  have e : w' 5 = w 5 := funext (fun i => kNtk.at f (by omega))
  unfold tkR tkEn
  rw [e0, e5, e6, e7, e8, e]
  exact h
/-- all that a new token brings -/
def TK (N : Int) (w v w' v' : eW) : Prop := rpA N w' v' ∧ rpK N w' v' ∧ (tkR w' ∧ tkEn N w') ∧ w 1 7 ≤ w' 1 6 ∧ e_fr kRa w w' ∧ e_fr mTq v v'
theorem tkP_E {T : Int → Int} {N x kd a e nv : Int} (h : tkP T N x kd a e nv) (hk : kd = 1 ∨ 21 ≤ kd) : wdF T N a = e ∧ e - a ≤ 24 := by
  obtain ⟨-, h⟩ := h
  rcases h with ⟨-, h, -⟩ | ⟨-, h⟩
  · omega
  · rcases h with ⟨-, -, h⟩ | ⟨-, h1, h2⟩ | ⟨-, -, h, -⟩
    · omega
    · rcases h2 with h2 | h2
      · omega
      · exact ⟨h1.symm, h2.1⟩
    · exfalso
      have r := sgI_r (T a % 256)
      unfold sgK at h
      split at h
      · omega
      · split at h
        · omega
        · split at h
          · omega
          · split at h <;> omega
theorem t_123b {N : Int} {w v : eW} (hA : rpA N w v) (hf : w 1 1 = 0 ∧ v 275 88 = 0) (hn : w 1 7 = v 275 87) (hr : 0 ≤ w 1 7 ∧ w 1 7 ≤ N) {n d d' : Nat} {r' : List eV} {v' : eW} (hM : e_Rn 20 elay ecode eI d' 327 (0, [(0, (1, 275))], [], v) r' v') : e_Pn 20 elay kcode eI n d 123 (0, [(0, (1, 1))], [], w) (fun r w' => r = [] ∧ r' = [] ∧ TK N w v w' v') := by
  refine (e_Pn.and (t_123 hA hf hn hr hM) (e_Pn.and (e_Ok.pnA (D0 := 600) (fun D hD => l_123 (by omega) hA.2.2.1 hA.2.2.2.1 (by have := hA.1; omega)) n d) (e_Ok.pnA (D0 := 600) (fun D hD => l_123_x (by omega) hA.2.2.1 hA.2.2.2.1 (by have := hA.1; omega)) n d))).imp (fun r w' h => ?_)
  obtain ⟨⟨h1, h2, h3, h4, h5, h6, h7⟩, ⟨-, -, -, -, g5, -, -⟩, -, g8⟩ := h
  refine ⟨h1, h2, h3, h4, ⟨g5, fun hk => ?_⟩, h5, h6, h7⟩
  rw [hA.1.1] at g8
  have e : w' 5 = w 5 := funext (fun i => h6 5 i (by unfold kRa; omega))
  rw [e]
  exact tkP_E g8 hk
/-! names -/
def minB (b c x : Int) : Prop := (c ≤ b ∧ x = c) ∨ (b < c ∧ x = b)
def nmI (N B : Int) (T : Int → Int) (v : eW) (i : Int) : Prop := (0 ≤ v 342 i ∧ v 342 i < B) ∧ (0 ≤ v 341 i ∧ v 341 i ≤ 4) ∧ (v 341 i ≠ 4 → v 343 i = wl T N (v 342 i) ∧ 1 ≤ v 343 i ∧ v 343 i ≤ 24)
/-- a fault of names that both see where the name stands -/
def bdK (N : Int) (T : Int → Int) (v : eW) (n : Int) : Prop := v 341 n = 4 ∨ ((v 341 n = 0 ∨ v 341 n = 1) ∧ ((∃ k, (0 ≤ k ∧ k < n) ∧ (v 341 k = 0 ∨ v 341 k = 1) ∧ snm T N (v 342 k) (v 342 n)) ∨ 32 ≤ cntK v (v 341 n) n)) ∨ (v 341 n = 2 ∧ ∀ k, 0 ≤ k → k < n → v 341 k = 0 → ¬ snm T N (v 342 k) (v 342 n))
def senQ (N : Int) (T : Int → Int) (v : eW) (s p : Int) : Prop := (s = 0 ∧ ∀ n, 0 ≤ n → n < v 275 94 → ¬ bdK N T v n) ∨ (s ≠ 0 ∧ ∃ b, (0 ≤ b ∧ b < v 275 94) ∧ bdK N T v b ∧ (∀ n, 0 ≤ n → n < b → ¬ bdK N T v n) ∧ p = v 342 b)
/-- what the model has of names, by itself -/
def NN (N B : Int) (T : Int → Int) (v : eW) : Prop := (0 ≤ v 275 94 ∧ v 275 94 ≤ B) ∧ (∀ i j, 0 ≤ i → i < j → j < v 275 94 → v 342 i < v 342 j) ∧ (∀ i, 0 ≤ i → i < v 275 94 → nmI N B T v i) ∧ (∀ i j, 0 ≤ i → i < j → j < v 275 94 → v 341 j = 0 → v 341 i = 0)
/-- the class's tables of names -/
def NT (v : eW) (x y : Int) (f g : Int → Int) : Prop := (minB 32 (cntK v 0 (v 275 94)) x ∧ ∀ i, 0 ≤ i → i < v 275 94 → v 341 i = 0 → cntK v 0 i < 32 → f (cntK v 0 i) = v 342 i) ∧ (minB 500 (cntK v 1 (v 275 94)) y ∧ ∀ i, 0 ≤ i → i < v 275 94 → v 341 i = 1 → cntK v 1 i < 500 → g (cntK v 1 i) = v 342 i)
def NR (N cd B : Int) (w v : eW) : Prop := NN N B (w 5) v ∧ NT v (w cd 2) (w 1 14) (w 6) (w 7) ∧ senQ N (w 5) v (w 1 9) (w 1 10)
def isCl3 (x : Int) : Prop := x = 33 ∨ x = 34 ∨ x = 39
/-- rows that name a routine are the names of routines that are used (one that waits: pz) -/
def CN (cd pz : Int) (w v : eW) : Prop := w cd 0 < 4000 → ∀ z, ((∃ i, (0 ≤ i ∧ i < w cd 0) ∧ isCl3 (w (cd + 2) i % 64) ∧ w (cd + 2) i / 64 = z) ∨ (0 ≤ z ∧ z = pz)) ↔ (∃ n, (0 ≤ n ∧ n < v 275 94) ∧ v 341 n = 3 ∧ v 342 n = z)
/-- the bundle -/
def Rk (N cd b : Int) (w v : eW) : Prop := rpA N w v ∧ rpK N w v ∧ (tkR w ∧ tkEn N w) ∧ kRw cd w ∧ mRw v ∧ (0 ≤ w cd 0 ∧ w cd 0 ≤ 4000) ∧ (0 ≤ v 275 80 ∧ v 275 80 ≤ w 1 6 + b)
/-- names that came behind, none of a kind below ka -/
def nmX (ka : Int) (v v' : eW) : Prop := v 275 94 ≤ v' 275 94 ∧ (∀ i, i < v 275 94 → v' 341 i = v 341 i ∧ v' 342 i = v 342 i ∧ v' 343 i = v 343 i) ∧ (∀ i, v 275 94 ≤ i → i < v' 275 94 → ka ≤ v' 341 i)
theorem nmX.r (ka : Int) (v : eW) : nmX ka v v := ⟨Int.le_refl _, fun _ _ => ⟨rfl, rfl, rfl⟩, fun i h1 h2 => by omega⟩
theorem nmX.tr {ka : Int} {v v1 v2 : eW} (h : nmX ka v v1) (h' : nmX ka v1 v2) : nmX ka v v2 := by
  obtain ⟨a1, a2, a3⟩ := h
  obtain ⟨b1, b2, b3⟩ := h'
  refine ⟨by omega, fun i hi => ?_, fun i h1 h2 => ?_⟩
  · obtain ⟨x1, x2, x3⟩ := a2 i hi
    obtain ⟨y1, y2, y3⟩ := b2 i (by omega)
    exact ⟨y1.trans x1, y2.trans x2, y3.trans x3⟩
  · by_cases q : i < v1 275 94
    · rw [(b2 i q).1]; exact a3 i h1 q
    · exact b3 i (by omega) h2
theorem nmX.low {ka ka' : Int} {v v' : eW} (h : nmX ka v v') (hk : ka' ≤ ka) : nmX ka' v v' := ⟨h.1, h.2.1, fun i h1 h2 => Int.le_trans hk (h.2.2 i h1 h2)⟩
/-- a step of both readers: s how many more rows than bytes, o what is open, b a name at the token, pz a routine's name that waits, l and m the innermost loop -/
def st (N cd : Int) (w v w' v' : eW) (s o b pz l m t ka : Int) : Prop := Rk N cd b w' v' ∧ NR N cd (w' 1 6 + b) w' v' ∧ CN cd pz w' v' ∧ (w' 1 11 = w 1 11 + o ∧ v' 275 83 = v 275 83 + o) ∧ (w' 1 13 = l ∧ v' 275 82 = m ∧ w' 1 12 = t) ∧ (w cd 0 ≤ w' cd 0 ∧ w' cd 0 - w cd 0 ≤ w' 1 6 - w 1 6 + s ∧ w 1 6 ≤ w' 1 6) ∧ (w' cd 0 < 4000 → ∀ i, i < w cd 0 → w' (cd + 2) i = w (cd + 2) i) ∧ nmX ka v v'
section STL
variable {N cd s o b pz l m t ka : Int} {w v w1 v1 w2 v2 : eW}
theorem st.refl (h1 : Rk N cd 0 w v) (h2 : NR N cd (w 1 6 + 0) w v) (h3 : CN cd (-1) w v) : st N cd w v w v 0 0 0 (-1) (w 1 13) (v 275 82) (w 1 12) ka := ⟨h1, h2, h3, ⟨by omega, by omega⟩, ⟨rfl, rfl, rfl⟩, ⟨by omega, by omega, by omega⟩, fun _ _ _ => rfl, nmX.r ka v⟩
theorem st.tr {s' o' b' pz' l' m' t' ka : Int} (h : st N cd w v w1 v1 s o b pz l m t ka) (h' : st N cd w1 v1 w2 v2 s' o' b' pz' l' m' t' ka) : st N cd w v w2 v2 (s + s') (o + o') b' pz' l' m' t' ka := by
  obtain ⟨-, -, -, a4, -, a6, a7, a8⟩ := h
  obtain ⟨c1, c2, c3, c4, c5, c6, c7, c8⟩ := h'
  exact ⟨c1, c2, c3, ⟨by omega, by omega⟩, c5, ⟨by omega, by omega, by omega⟩, fun g i hi => (c7 g i (by omega)).trans (a7 (by omega) i hi), a8.tr c8⟩
theorem st.mono {s' : Int} (h : st N cd w v w1 v1 s o b pz l m t ka) (hs : s ≤ s') : st N cd w v w1 v1 s' o b pz l m t ka := by
  obtain ⟨a1, a2, a3, a4, a5, a6, a7, a8⟩ := h
  exact ⟨a1, a2, a3, a4, a5, ⟨a6.1, by omega, a6.2.2⟩, a7, a8⟩
theorem st.re {s' o' : Int} (h : st N cd w v w1 v1 s o b pz l m t ka) (hs : s ≤ s') (ho : o = o') {l' m' t' : Int} (hl : l = l') (hm : m = m') (ht : t = t') : st N cd w v w1 v1 s' o' b pz l' m' t' ka := by
  subst ho hl hm ht
  exact h.mono hs
end STL
end
