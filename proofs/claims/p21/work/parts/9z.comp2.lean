noncomputable section
/-! expressions: what is emitted is in order -/
def nmO (w : eW) (N n m : Int) : Prop := (0 ≤ w 341 m ∧ w 341 m ≤ 4) ∧ (-2147483648 ≤ w 342 m ∧ w 342 m ≤ 2147483647) ∧ (w 341 m ≠ 4 → 0 ≤ w 342 m ∧ 0 ≤ w 343 m ∧ w 342 m + w 343 m ≤ N ∧ 0 ≤ w 344 m ∧ w 344 m ≤ n)
def NMp (w : eW) (mm p : Int) : Prop := (w 328 (p + 40000) = 2 ∨ w 328 (p + 40000) = 31 → ∃ m, 0 ≤ m ∧ m < mm ∧ w 341 m = 2 ∧ w 344 m = p) ∧ (w 328 (p + 40000) = 38 ∨ w 328 (p + 40000) = 39 ∨ w 328 (p + 40000) = 44 → ∃ m, 0 ≤ m ∧ m < mm ∧ w 341 m = 3 ∧ w 344 m = p) ∧ (w 328 (p + 40000) = 46 → 0 ≤ w 329 (p + 40000) ∨ ∃ m, 0 ≤ m ∧ m < mm ∧ w 341 m = 4)
def NM (w : eW) (N n mm : Int) : Prop := (∀ m, 0 ≤ m → m < mm → nmO w N n m) ∧ (∀ p, 0 ≤ p → p < n → NMp w mm p)
theorem NM.em {w w' : eW} {N n mm o x s : Int} (h : NM w N n mm) (he : EM w w' n o x s) (hn : 0 ≤ n) (h1 : o ≠ 2) (h2 : o ≠ 31) (h3 : o ≠ 38) (h4 : o ≠ 39) (h5 : o ≠ 44) (h6 : o = 46 → 0 ≤ x ∨ ∃ m, 0 ≤ m ∧ m < mm ∧ w 341 m = 4) : NM w' N (n + 1) mm := by
  have e : ∀ c k, 341 ≤ c → c ≤ 344 → w' c k = w c k := fun c k q1 q2 => he.1 c k (by omega)
  refine ⟨fun m g1 g2 => ?_, fun p g1 g2 => ?_⟩
  · obtain ⟨q1, q2, q3⟩ := h.1 m g1 g2
    unfold nmO
    rw [e 341 m (by decide) (by decide), e 342 m (by decide) (by decide), e 343 m (by decide) (by decide), e 344 m (by decide) (by decide)]
    exact ⟨q1, q2, fun g => by have := q3 g; omega⟩
  · unfold NMp
    by_cases c : p = n
    · subst c
      rw [he.2.1, he.2.2.1]
      refine ⟨fun g => by clear h6; omega, fun g => by clear h6; omega, fun g => (h6 g).imp id (fun ⟨m, m1, m2, m3⟩ => ⟨m, m1, m2, by rw [e 341 m (by decide) (by decide)]; exact m3⟩)⟩
    · have a8 := he.1 328 (p + 40000) (by clear h6; omega)
      have a9 := he.1 329 (p + 40000) (by clear h6; omega)
      have hpn : p < n := by clear h6; omega
      obtain ⟨q1, q2, q3⟩ := h.2 p g1 hpn
      rw [a8, a9]
      refine ⟨fun g => ?_, fun g => ?_, fun g => (q3 g).imp id (fun ⟨m, m1, m2, m3⟩ => ⟨m, m1, m2, by rw [e 341 m (by decide) (by decide)]; exact m3⟩)⟩
      · obtain ⟨m, m1, m2, m3, m4⟩ := q1 g
        exact ⟨m, m1, m2, by rw [e 341 m (by decide) (by decide)]; exact m3, by rw [e 344 m (by decide) (by decide)]; exact m4⟩
      · obtain ⟨m, m1, m2, m3, m4⟩ := q2 g
        exact ⟨m, m1, m2, by rw [e 341 m (by decide) (by decide)]; exact m3, by rw [e 344 m (by decide) (by decide)]; exact m4⟩
/-- the same, but for cells that are not the program's -/
def prE (w w' : eW) : Prop := ∀ c k, (328 ≤ c ∧ c ≤ 336) ∨ (341 ≤ c ∧ c ≤ 344) → w' c k = w c k
theorem prE.dq {w w' : eW} (h : prE w w') (p : Int) : dp w' p = dp w p := dp_eq (fun k _ _ => h 328 _ (by omega))
theorem NM.pr {w w' : eW} {N n mm : Int} (h : NM w N n mm) (e : prE w w') : NM w' N n mm := by
  refine ⟨fun m g1 g2 => ?_, fun p g1 g2 => ?_⟩
  · unfold nmO
    rw [e 341 m (by omega), e 342 m (by omega), e 343 m (by omega), e 344 m (by omega)]
    exact h.1 m g1 g2
  · obtain ⟨q1, q2, q3⟩ := h.2 p g1 g2
    unfold NMp
    rw [e 328 _ (by omega), e 329 _ (by omega)]
    refine ⟨fun g => ?_, fun g => ?_, fun g => (q3 g).imp id (fun ⟨m, m1, m2, m3⟩ => ⟨m, m1, m2, by rw [e 341 m (by omega)]; exact m3⟩)⟩
    · obtain ⟨m, m1, m2, m3, m4⟩ := q1 g
      exact ⟨m, m1, m2, by rw [e 341 m (by omega)]; exact m3, by rw [e 344 m (by omega)]; exact m4⟩
    · obtain ⟨m, m1, m2, m3, m4⟩ := q2 g
      exact ⟨m, m1, m2, by rw [e 341 m (by omega)]; exact m3, by rw [e 344 m (by omega)]; exact m4⟩
/-- a name was noted -/
theorem NM.name {w w1 w' : eW} {N n mm f ta te s o y : Int} (h : NM w N n mm) (he : EM w w1 n o y s) (hn : 0 ≤ n) (hm : 0 ≤ mm) (hv : (w' 341 mm = f ∧ w' 342 mm = ta ∧ w' 343 mm = te - ta ∧ w' 344 mm = n)) (ho : ∀ c k, ¬ (((341 ≤ c ∧ c ≤ 344) ∧ k = mm) ∨ (c = 275 ∧ k = 94)) → w' c k = w1 c k) (ht : 0 ≤ ta ∧ ta ≤ te ∧ te ≤ N) (hN : N ≤ 4000) (hf : (f = 2 ∧ o = 2) ∨ (f = 3 ∧ (o = 38 ∨ o = 39 ∨ o = 44))) : NM w' N (n + 1) (mm + 1) := by
  obtain ⟨v1, v2, v3, v4⟩ := hv
  have e : ∀ c m, 341 ≤ c → c ≤ 344 → m ≠ mm → w' c m = w c m := fun c m q1 q2 q3 => (ho c m (by omega)).trans (he.1 c m (by omega))
  have e8 : w' 328 (n + 40000) = o := (ho 328 _ (by omega)).trans he.2.1
  have ep : ∀ c p, c = 328 ∨ c = 329 → p ≠ n → w' c (p + 40000) = w c (p + 40000) := fun c p q1 q2 => (ho c _ (by omega)).trans (he.1 c _ (by omega))
  refine ⟨fun m g1 g2 => ?_, fun p g1 g2 => ?_⟩
  · unfold nmO
    by_cases c : m = mm
    · subst c
      rw [v1, v2, v3, v4]
      exact ⟨by omega, by omega, fun _ => by omega⟩
    · rw [e 341 m (by decide) (by decide) c, e 342 m (by decide) (by decide) c, e 343 m (by decide) (by decide) c, e 344 m (by decide) (by decide) c]
      obtain ⟨q1, q2, q3⟩ := h.1 m g1 (by omega)
      exact ⟨q1, q2, fun g => by have := q3 g; omega⟩
  · unfold NMp
    by_cases c : p = n
    · subst c
      rw [e8]
      refine ⟨fun g => ⟨mm, hm, by omega, by omega, v4⟩, fun g => ⟨mm, hm, by omega, by omega, v4⟩, fun g => by omega⟩
    · obtain ⟨q1, q2, q3⟩ := h.2 p g1 (by omega)
      rw [ep 328 p (by omega) c, ep 329 p (by omega) c]
      refine ⟨fun g => ?_, fun g => ?_, fun g => (q3 g).imp id (fun ⟨m, m1, m2, m3⟩ => ⟨m, m1, by omega, by rw [e 341 m (by decide) (by decide) (by omega)]; exact m3⟩)⟩
      · obtain ⟨m, m1, m2, m3, m4⟩ := q1 g
        exact ⟨m, m1, by omega, by rw [e 341 m (by decide) (by decide) (by omega)]; exact m3, by rw [e 344 m (by decide) (by decide) (by omega)]; exact m4⟩
      · obtain ⟨m, m1, m2, m3, m4⟩ := q2 g
        exact ⟨m, m1, by omega, by rw [e 341 m (by decide) (by decide) (by omega)]; exact m3, by rw [e 344 m (by decide) (by decide) (by omega)]; exact m4⟩
/-- what an expression adds: instructions of the region s under 30, names that are read; P at places below 0: what was there before (place p at -1 - 2 p, name m at -2 - 2 m) -/
def xO (w : eW) (n mm : Int) (P : Int → Prop) (s : Int) : Prop := (∀ p, 0 ≤ p → p < n → P (-1 - 2 * p) ∨ (w 328 (p + 40000) < 30 ∧ w 330 (p + 40000) = s)) ∧ (∀ m, 0 ≤ m → m < mm → P (-2 - 2 * m) ∨ (w 341 m = 2 ∧ (0 ≤ w 344 m ∧ w 344 m < n) ∧ w 328 (w 344 m + 40000) = 2))
theorem xO.em {w w' : eW} {n mm o x s : Int} {P P' : Int → Prop} (h : xO w n mm P s) (he : EM w w' n o x s) (ho : o < 30) (hP : ∀ p, P p → P' p) : xO w' (n + 1) mm P' s := by
  refine ⟨fun p g1 g2 => ?_, fun m g1 g2 => ?_⟩
  · by_cases c : p = n
    · subst c
      rw [he.2.1, he.2.2.2.1]
      exact Or.inr ⟨ho, rfl⟩
    · rw [he.1 328 (p + 40000) (by omega), he.1 330 (p + 40000) (by omega)]
      exact (h.1 p g1 (by omega)).imp (hP _) id
  · rw [he.1 341 m (by omega), he.1 344 m (by omega)]
    exact (h.2 m g1 g2).imp (hP _) (fun z => ⟨z.1, by have := z.2.1; omega, by rw [he.1 328 _ (by have := z.2.1; omega)]; exact z.2.2⟩)
theorem xO.pr {w w' : eW} {n mm s : Int} {P : Int → Prop} (h : xO w n mm P s) (e : prE w w') : xO w' n mm P s :=
  ⟨fun p g1 g2 => by rw [e 328 _ (by omega), e 330 _ (by omega)]; exact h.1 p g1 g2, fun m g1 g2 => by rw [e 341 _ (by omega), e 344 _ (by omega), e 328 _ (by omega)]; exact h.2 m g1 g2⟩
theorem xO.cg {w : eW} {n mm s : Int} {P P' : Int → Prop} (h : xO w n mm P s) (g : ∀ p, p < 0 → P p → P' p) : xO w n mm P' s :=
  ⟨fun p g1 g2 => (h.1 p g1 g2).imp (g _ (by omega)) id, fun m g1 g2 => (h.2 m g1 g2).imp (g _ (by omega)) id⟩
/-- inside an expression: d numbers on the stack -/
def wfE (w : eW) (N n mm nt : Int) (P : Int → Prop) (s d : Int) : Prop := PI w n nt P ∧ (∀ o, sgO o = 1 → RQ w n nt P o s) ∧ NM w N n mm ∧ dp w n = d ∧ 0 ≤ n ∧ 0 ≤ d ∧ xO w n mm P s
theorem PI.pr {w w' : eW} {n nt : Int} {P : Int → Prop} (h : PI w n nt P) (e : prE w w') : PI w' n nt P := fun p g1 g2 => by
  obtain ⟨i1, i2, i3⟩ := h p g1 g2
  refine ⟨by rw [e.dq, e 328 _ (by omega), e 329 _ (by omega)]; exact i1, fun q => by rw [e 328 _ (by omega), e 330 _ (by omega)]; exact (i2 q).eq (Int.le_refl nt) (e 328 _ (by omega)) (e 330 _ (by omega)) (fun t _ _ => e 331 _ (by omega)), fun q => ⟨(i3 q).1.eq (Int.le_refl n) (fun k _ _ => e 328 _ (by omega)) (e 329 _ (by omega)) g1, fun k k1 k2 => by rw [e 328 _ (by omega), e 330 _ (by omega)]; exact ((i3 q).2 k k1 k2).eq (e 328 _ (by omega)) (e 329 _ (by omega)) (e 330 _ (by omega)) (e.dq p) (e.dq k)⟩⟩
theorem RQ.pr {w w' : eW} {n nt o s : Int} {P : Int → Prop} (h : RQ w n nt P o s) (e : prE w w') : RQ w' n nt P o s := fun p g1 g2 =>
  ⟨fun q => ((h p g1 g2).1 q).eq (Int.le_refl nt) (e 328 _ (by omega)) (e 330 _ (by omega)) (fun t _ _ => e 331 _ (by omega)), fun q => ((h p g1 g2).2 q).eq (e 328 _ (by omega)) (e 329 _ (by omega)) (e 330 _ (by omega)) (e.dq p) (e.dq n)⟩
theorem wfE.pr {w w' : eW} {N n mm nt s d : Int} {P : Int → Prop} (h : wfE w N n mm nt P s d) (e : prE w w') : wfE w' N n mm nt P s d :=
  ⟨h.1.pr e, fun o q => (h.2.1 o q).pr e, h.2.2.1.pr e, by rw [e.dq]; exact h.2.2.2.1, h.2.2.2.2.1, h.2.2.2.2.2.1, h.2.2.2.2.2.2.pr e⟩
theorem nx_exp {w' : eW} {nt n o s o' : Int} (h8 : w' 328 (n + 40000) = o) (h0 : w' 330 (n + 40000) = s) (ho : o < 30) (hq : sgO o' = 1) : iNx w' nt n o' s := by
  unfold iNx
  rw [h8, h0]
  exact ⟨fun _ => ⟨hq, rfl⟩, fun g => by omega, fun g => by omega⟩
theorem go_not {w' : eW} {n q o' s' o : Int} (h8 : w' 328 (n + 40000) = o) (ho : ¬ iJp o) : iGo w' n q o' s' := fun _ => by
  unfold iJp at ho
  rw [h8]
  exact ⟨fun g => by omega, fun g => by omega, fun g => by omega⟩
theorem to_not {w' : eW} {n m o : Int} (h8 : w' 328 (n + 40000) = o) (ho : ¬ iJp o) : iTo w' m n := by
  unfold iJp at ho
  unfold iTo
  rw [h8]
  exact ⟨fun g => by omega, fun g => by omega, fun g => by omega⟩
/-- an instruction of an expression, but a name's or a jump -/
theorem wfE.em {w w' : eW} {N n mm nt s d o x : Int} {P : Int → Prop} (h : wfE w N n mm nt P s d) (he : EM w w' n o x s) (ho : o < 30) (h2 : o ≠ 2) (hj : o ≠ 22) (hj2 : o ≠ 23) (hw : iOw d o x) (hd : 0 ≤ nxD o d) : wfE w' N (n + 1) mm nt P s (nxD o d) := by
  obtain ⟨q1, q2, q3, q4, q5, q6, q7⟩ := h
  have hs : sgO o = 1 := by unfold sgO; rw [if_pos (Or.inl ho)]
  have nj : ¬ iJp o := by unfold iJp; omega
  refine ⟨q1.em (q2 o hs) he q5 (by rw [q4]; exact hw) (fun p _ g => g) (fun p _ g => g) (fun _ => ⟨to_not he.2.1 nj, fun k _ _ => go_not he.2.1 nj⟩), fun o' g => RQ.em q1 he q5 (fun p _ g => g) (fun p _ g => g) (nx_exp he.2.1 he.2.2.2.1 ho g) (fun _ => go_not he.2.1 nj), q3.em he q5 h2 (by omega) (by omega) (by omega) (by omega) (fun g => by omega), by rw [he.dq1 q5, q4], by omega, hd, q7.em he ho (fun _ g => g)⟩
/-- a name that is read -/
theorem wfE.read {w w1 w' : eW} {N n mm nt s d ta te : Int} {P : Int → Prop} (h : wfE w N n mm nt P s d) (he : EM w w1 n 2 0 s) (hm : 0 ≤ mm) (hv : (w' 341 mm = 2 ∧ w' 342 mm = ta ∧ w' 343 mm = te - ta ∧ w' 344 mm = n)) (hoth : ∀ c k, ¬ (((341 ≤ c ∧ c ≤ 344) ∧ k = mm) ∨ (c = 275 ∧ k = 94)) → w' c k = w1 c k) (ht : 0 ≤ ta ∧ ta ≤ te ∧ te ≤ N) (hN : N ≤ 4000) (hd : d ≤ 4100) : wfE w' N (n + 1) (mm + 1) nt P s (d + 1) := by
  obtain ⟨q1, q2, q3, q4, q5, q6, q7⟩ := h
  have nj : ¬ iJp 2 := by unfold iJp; omega
  have hP := q1.em (q2 2 (by decide)) he q5 (by rw [q4]; unfold iOw; omega) (fun p _ g => g) (fun p _ g => g) (fun _ => ⟨to_not he.2.1 nj, fun k _ _ => go_not he.2.1 nj⟩)
  have hd1 : dp w1 (n + 1) = d + 1 := by rw [he.dq1 q5, q4]; unfold nxD; rw [if_pos (by omega)]
  -- from w1 to w' the program stays
  have e8 : ∀ c k, 328 ≤ c → c ≤ 336 → w' c k = w1 c k := fun c k g1 g2 => hoth c k (by omega)
  have ed : ∀ p, dp w' p = dp w1 p := fun p => dp_eq (fun k _ _ => e8 328 _ (by decide) (by decide))
  refine ⟨fun p g1 g2 => ?_, fun o' g => fun p g1 g2 => ?_, q3.name he q5 hm hv hoth ht hN (Or.inl ⟨rfl, rfl⟩), by rw [ed]; exact hd1, by omega, by omega, fun p g1 g2 => ?_, fun m g1 g2 => ?_⟩
  · obtain ⟨i1, i2, i3⟩ := hP p g1 g2
    refine ⟨by rw [ed, e8 328 _ (by decide) (by decide), e8 329 _ (by decide) (by decide)]; exact i1, fun q => by rw [e8 328 _ (by decide) (by decide), e8 330 _ (by decide) (by decide)]; exact (i2 q).eq (Int.le_refl nt) (e8 328 _ (by decide) (by decide)) (e8 330 _ (by decide) (by decide)) (fun t _ _ => e8 331 _ (by decide) (by decide)), fun q => ⟨(i3 q).1.eq (Int.le_refl _) (fun k _ _ => e8 328 _ (by decide) (by decide)) (e8 329 _ (by decide) (by decide)) g1, fun k k1 k2 => by rw [e8 328 _ (by decide) (by decide), e8 330 _ (by decide) (by decide)]; exact ((i3 q).2 k k1 k2).eq (e8 328 _ (by decide) (by decide)) (e8 329 _ (by decide) (by decide)) (e8 330 _ (by decide) (by decide)) (ed p) (ed k)⟩⟩
  · have hr := RQ.em (o' := o') (s' := s) q1 he q5 (fun p _ g => g) (fun p _ g => g) (nx_exp he.2.1 he.2.2.2.1 (by decide) g) (fun _ => go_not he.2.1 nj)
    exact ⟨fun q => ((hr p g1 g2).1 q).eq (Int.le_refl nt) (e8 328 _ (by decide) (by decide)) (e8 330 _ (by decide) (by decide)) (fun t _ _ => e8 331 _ (by decide) (by decide)), fun q => ((hr p g1 g2).2 q).eq (e8 328 _ (by decide) (by decide)) (e8 329 _ (by decide) (by decide)) (e8 330 _ (by decide) (by decide)) (ed p) (ed _)⟩
  · rw [e8 328 _ (by decide) (by decide), e8 330 _ (by decide) (by decide)]
    exact (q7.em he (by decide) (fun _ g => g)).1 p g1 g2
  · by_cases c : m = mm
    · subst c
      rw [hv.2.2.2]
      exact Or.inr ⟨hv.1, by omega, by rw [e8 328 _ (by decide) (by decide)]; exact he.2.1⟩
    · rw [hoth 341 m (by omega), hoth 344 m (by omega), e8 328 _ (by decide) (by decide)]
      exact (q7.em he (by decide) (fun _ g => g)).2 m g1 (by omega)
/-- a jump whose goal is still to come -/
theorem wfE.jump {w w' : eW} {N n mm nt s d o x : Int} {P : Int → Prop} (h : wfE w N n mm nt P s d) (he : EM w w' n o x s) (ho : o = 22 ∨ o = 23) (hd : 1 ≤ d ∧ d ≤ 4100) : wfE w' N (n + 1) mm nt (fun p => P p ∨ p = n) s (d - 1) := by
  obtain ⟨q1, q2, q3, q4, q5, q6, q7⟩ := h
  have hs : sgO o = 1 := by unfold sgO; rw [if_pos (Or.inl (by omega))]
  refine ⟨q1.em (q2 o hs) he q5 (by rw [q4]; unfold iOw; omega) (fun p _ g => Or.inl g) (fun p hp g => by rcases g with g | g; exact g; omega) (fun g => absurd (Or.inr rfl) g), fun o' g => RQ.em q1 he q5 (fun p _ g => Or.inl g) (fun p hp g => by rcases g with g | g; exact g; omega) (nx_exp he.2.1 he.2.2.2.1 (by omega) g) (fun g => absurd (Or.inr rfl) g), q3.em he q5 (by omega) (by omega) (by omega) (by omega) (by omega) (fun g => by omega), ?_, by omega, by omega, q7.em he (by omega) (fun _ g => Or.inl g)⟩
  rw [he.dq1 q5, q4]
  unfold nxD
  rw [if_neg (by omega), if_neg (by omega), if_pos (by omega)]
/-- the chain of jumps from c -/
def CHN (w : eW) (n c : Int) (Q : Int → Prop) : Prop := -1 ≤ c ∧ (0 ≤ c → Q c) ∧ (∀ p, Q p → 0 ≤ p ∧ p < n ∧ p ≤ c) ∧ (∀ p, Q p → (w 329 (p + 40000) = -1 ∧ ∀ q, Q q → p ≤ q) ∨ (Q (w 329 (p + 40000)) ∧ w 329 (p + 40000) < p ∧ ∀ q, Q q → q < p → q ≤ w 329 (p + 40000)))
theorem CHN.zero (w : eW) (n : Int) : CHN w n (-1) (fun _ => False) := ⟨by decide, fun g => by omega, fun p g => g.elim, fun p g => g.elim⟩
theorem CHN.keep {w w' : eW} {n n' c : Int} {Q : Int → Prop} (h : CHN w n c Q) (hn : n ≤ n') (h9 : ∀ p, 0 ≤ p → p < n → w' 329 (p + 40000) = w 329 (p + 40000)) : CHN w' n' c Q := by
  obtain ⟨q1, q2, q3, q4⟩ := h
  refine ⟨q1, q2, fun p g => by have := q3 p g; omega, fun p g => ?_⟩
  rw [h9 p (q3 p g).1 (q3 p g).2.1]
  exact q4 p g
theorem CHN.add {w w' : eW} {n c o s : Int} {Q : Int → Prop} (h : CHN w n c Q) (he : EM w w' n o c s) (hn : 0 ≤ n) : CHN w' (n + 1) n (fun p => Q p ∨ p = n) := by
  obtain ⟨q1, q2, q3, q4⟩ := h
  refine ⟨by omega, fun _ => Or.inr rfl, fun p g => ?_, fun p g => ?_⟩
  · rcases g with g | g
    · have := q3 p g; omega
    · omega
  · by_cases e : p = n
    · subst e
      rw [he.2.2.1]
      by_cases c0 : 0 ≤ c
      · refine Or.inr ⟨Or.inl (q2 c0), (q3 c (q2 c0)).2.1, fun q g1 g2 => ?_⟩
        rcases g1 with g1 | g1
        · exact (q3 q g1).2.2
        · omega
      · refine Or.inl ⟨by omega, fun q g1 => ?_⟩
        rcases g1 with g1 | g1
        · have := q3 q g1; omega
        · omega
    · have gp : Q p := g.resolve_right e
      rw [he.1 329 (p + 40000) (by omega)]
      rcases q4 p gp with ⟨r1, r2⟩ | ⟨r1, r2, r3⟩
      · refine Or.inl ⟨r1, fun q g1 => ?_⟩
        rcases g1 with g1 | g1
        · exact r2 q g1
        · have := q3 p gp; omega
      · refine Or.inr ⟨Or.inl r1, r2, fun q g1 g2 => ?_⟩
        rcases g1 with g1 | g1
        · exact r3 q g1 g2
        · have := q3 p gp; omega
/-- the chain is closed: all its jumps go behind the instruction that is emitted there -/
theorem wfE.close {w w1 w' : eW} {N n mm nt s d : Int} {P Q : Int → Prop} (h : wfE w N n mm nt (fun p => P p ∨ Q p) s d) (he : EM w w1 n 24 0 s) (hd : 1 ≤ d ∧ d ≤ 4100) (hQ : ∀ p, Q p → (0 ≤ p ∧ p < n) ∧ (w 328 (p + 40000) = 22 ∨ w 328 (p + 40000) = 23) ∧ dp w p = d ∧ w 330 (p + 40000) = s) (h9 : ∀ p, Q p → w' 329 (p + 40000) = n + 1) (ho : ∀ c k, ¬ (c = 329 ∧ ∃ p, Q p ∧ k = p + 40000) → w' c k = w1 c k) : wfE w' N (n + 1) mm nt P s d := by
  have h1 := h.em he (by decide) (by decide) (by decide) (by decide) (by unfold iOw; omega) (by unfold nxD; rw [if_neg (by omega), if_neg (by omega), if_neg (by omega)]; omega)
  rw [show nxD 24 d = d from by unfold nxD; rw [if_neg (by omega), if_neg (by omega), if_neg (by omega)]] at h1
  obtain ⟨q1, q2, q3, q4, q5, q6, q7⟩ := h1
  have hn := h.2.2.2.2.1
  have x8 : ∀ c k, c ≠ 329 → w' c k = w1 c k := fun c k g => ho c k (fun q => g q.1)
  have ed : ∀ p, dp w' p = dp w1 p := fun p => dp_eq (fun k _ _ => x8 328 _ (by decide))
  have x9 : ∀ p, ¬ Q p → w' 329 (p + 40000) = w1 329 (p + 40000) := fun p g => ho 329 _ (fun ⟨_, p', g1, g2⟩ => g (by rw [show p = p' by omega]; exact g1))
  have w8 : ∀ p, Q p → w1 328 (p + 40000) = w 328 (p + 40000) ∧ w1 330 (p + 40000) = w 330 (p + 40000) ∧ dp w1 p = dp w p := fun p g => ⟨he.1 _ _ (by have := hQ p g; omega), he.1 _ _ (by have := hQ p g; omega), he.dq (by have := hQ p g; omega)⟩
  refine ⟨fun p g1 g2 => ?_, fun o' g => fun p g1 g2 => ?_, ?_, by rw [ed]; exact q4, q5, q6, fun p g1 g2 => ?_, fun m g1 g2 => ?_⟩
  · obtain ⟨i1, i2, i3⟩ := q1 p g1 g2
    refine ⟨?_, fun q => by rw [x8 328 _ (by decide), x8 330 _ (by decide)]; exact (i2 q).eq (Int.le_refl nt) (x8 328 _ (by decide)) (x8 330 _ (by decide)) (fun t _ _ => x8 331 _ (by decide)), fun q => ?_⟩
    · rw [ed, x8 328 _ (by decide)]
      by_cases c : Q p
      · have := hQ p c
        have e := w8 p c
        rw [e.1, e.2.2] at i1 ⊢
        unfold iOw at i1 ⊢
        omega
      · rw [x9 p c]; exact i1
    · by_cases c : Q p
      · have hp := hQ p c
        have e := w8 p c
        refine ⟨?_, fun k k1 k2 g => ?_⟩
        · unfold iTo
          rw [x8 328 _ (by decide), e.1, h9 p c]
          exact ⟨fun _ => by omega, fun g => by omega, fun g => by omega⟩
        · rw [h9 p c] at g; omega
      · have := i3 (fun g => g.elim q c)
        refine ⟨this.1.eq (Int.le_refl _) (fun k _ _ => x8 328 _ (by decide)) (x9 p c) g1, fun k k1 k2 => by rw [x8 328 _ (by decide), x8 330 _ (by decide)]; exact (this.2 k k1 k2).eq (x8 328 _ (by decide)) (x9 p c) (x8 330 _ (by decide)) (ed p) (ed k)⟩
  · have hr := q2 o' g p g1 g2
    refine ⟨fun q => (hr.1 q).eq (Int.le_refl nt) (x8 328 _ (by decide)) (x8 330 _ (by decide)) (fun t _ _ => x8 331 _ (by decide)), fun q => ?_⟩
    by_cases c : Q p
    · have hp := hQ p c
      have e := w8 p c
      intro _
      rw [x8 328 _ (by decide), x8 330 _ (by decide), e.1, e.2.1, ed, ed, e.2.2, q4]
      exact ⟨fun _ => ⟨hp.2.2.1.symm, g, hp.2.2.2.symm⟩, fun z => by omega, fun z => by omega⟩
    · exact (hr.2 (fun z => z.elim q c)).eq (x8 328 _ (by decide)) (x9 p c) (x8 330 _ (by decide)) (ed p) (ed _)
  · refine ⟨fun m m1 m2 => ?_, fun p p1 p2 => ?_⟩
    · unfold nmO
      rw [x8 341 m (by decide), x8 342 m (by decide), x8 343 m (by decide), x8 344 m (by decide)]
      exact q3.1 m m1 m2
    · obtain ⟨r1, r2, r3⟩ := q3.2 p p1 p2
      unfold NMp
      rw [x8 328 _ (by decide)]
      refine ⟨fun z => ?_, fun z => ?_, fun z => ?_⟩
      · obtain ⟨m, m1, m2, m3, m4⟩ := r1 z
        exact ⟨m, m1, m2, by rw [x8 341 m (by decide)]; exact m3, by rw [x8 344 m (by decide)]; exact m4⟩
      · obtain ⟨m, m1, m2, m3, m4⟩ := r2 z
        exact ⟨m, m1, m2, by rw [x8 341 m (by decide)]; exact m3, by rw [x8 344 m (by decide)]; exact m4⟩
      · have c : ¬ Q p := fun c => by have := hQ p c; have e := w8 p c; omega
        rw [x9 p c]
        exact (r3 z).imp id (fun ⟨m, m1, m2, m3⟩ => ⟨m, m1, m2, by rw [x8 341 m (by decide)]; exact m3⟩)
  · rw [x8 328 _ (by decide), x8 330 _ (by decide)]
    exact (q7.1 p g1 g2).imp (fun g => g.resolve_right (fun z => by have := (hQ _ z).1; omega)) id
  · rw [x8 341 _ (by decide), x8 344 _ (by decide), x8 328 _ (by decide)]
    exact (q7.2 m g1 g2).imp (fun g => g.resolve_right (fun z => by have := (hQ _ z).1; omega)) id
end
