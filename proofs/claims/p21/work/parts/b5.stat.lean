noncomputable section
/-! statements: from one state of the text to the next -/
theorem sg_op {q : Int} (h : (31 ≤ q ∧ q ≤ 44) ∨ q = 47) : sgO q = 1 := by unfold sgO; rw [if_pos (by omega)]
theorem sg_no {q : Int} (h : q = 30 ∨ q = 45 ∨ q = 46 ∨ 48 ≤ q) : sgO q = 0 := by unfold sgO; rw [if_neg (by omega)]
theorem nxD_no {q d : Int} (h : 30 ≤ q) : nxD q d = 0 := by unfold nxD; rw [if_neg (by omega), if_pos h]
/-- behind an instruction that asks nothing at all -/
def GZ (w : eW) (N n mm nt nw : Int) (P : Int → Prop) (s : Int) (OW : Int → Prop) (o : Int) : Prop := GI w N n mm nt nw P s OW o False ∧ dp w n = 0 ∧ ∀ q s', RQ w n nt P q s'
theorem GZ.gb {w : eW} {N n mm nt nw s o : Int} {P OW : Int → Prop} (h : GZ w N n mm nt nw P s OW o) : GB w N n mm nt nw P s OW o := ⟨h.1.bm (fun z => z.elim), h.2.1, fun q _ => h.2.2 q s⟩
theorem GZ.pr {w w' : eW} {N n mm nt nw s o : Int} {P OW : Int → Prop} (h : GZ w N n mm nt nw P s OW o) (e : prE w w') : GZ w' N n mm nt nw P s OW o := ⟨h.1.pr e, by rw [e.dq]; exact h.2.1, fun q s' => (h.2.2 q s').pr e⟩
/-- a statement begins -/
theorem GB.beg {w w' : eW} {N n mm nt nw s o x : Int} {P OW : Int → Prop} (h : GB w N n mm nt nw P s OW o) (he : EM w w' n 30 x s) : GA w' N (n + 1) mm nt nw P s OW o := by
  obtain ⟨h1, h2, h3⟩ := h
  have hn : 0 ≤ n := h1.2.2.2.2.2.1.2.1
  have nj : ¬ iJp 30 := by unfold iJp; omega
  refine ⟨h1.em False he (h1.1.1.em (h3 30 (sg_no (by omega))) he hn (by rw [h2]; unfold iOw; omega) (fun p _ g => g) (fun p _ g => g) (fun _ => ⟨to_not he.2.1 nj, fun k _ _ => go_not he.2.1 nj⟩)) (h1.1.2.em he hn (by decide) (by decide) (by decide) (by decide) (by decide) (fun g => absurd g (by decide))) (fun _ _ z => z) (Or.inl (sg_no (by omega))) (fun g => absurd g (by decide)) (fun g => absurd g (by decide)), by rw [he.dq1 hn, nxD_no (by decide)], fun q => RQ.em h1.1.1 he hn (fun p _ g => g) (fun p _ g => g) ?_ (fun _ => go_not he.2.1 nj)⟩
  unfold iNx
  rw [he.2.1, he.2.2.2.1]
  exact ⟨fun g => by omega, fun g => by omega, fun _ => Or.inl rfl⟩
/-- the places and names that were there, below 0 -/
def enc (P : Int → Prop) (n mm : Int) (p : Int) : Prop := (0 ≤ p ∧ P p) ∨ (p < 0 ∧ ((∃ q, p = -1 - 2 * q ∧ q < n) ∨ (∃ m, p = -2 - 2 * m ∧ m < mm)))
theorem enc_nn {P : Int → Prop} {n mm p : Int} (hp : 0 ≤ p) : enc P n mm p ↔ P p :=
  ⟨fun h => h.elim (fun g => g.2) (fun g => absurd g.1 (by omega)), fun h => Or.inl ⟨hp, h⟩⟩
theorem PI.cg {w : eW} {n nt : Int} {P P' : Int → Prop} (h : PI w n nt P) (g : ∀ p, 0 ≤ p → (P' p ↔ P p)) : PI w n nt P' := fun p g1 g2 => ⟨(h p g1 g2).1, (h p g1 g2).2.1, fun q => (h p g1 g2).2.2 (fun z => q ((g p g1).2 z))⟩
theorem RQ.cg {w : eW} {n nt o s : Int} {P P' : Int → Prop} (h : RQ w n nt P o s) (g : ∀ p, 0 ≤ p → (P' p ↔ P p)) : RQ w n nt P' o s := fun p g1 g2 => ⟨(h p g1 g2).1, fun q => (h p g1 g2).2 (fun z => q ((g p g1).2 z))⟩
theorem GI.cg {w : eW} {N n mm nt nw s o : Int} {P P' OW : Int → Prop} {b : Prop} (h : GI w N n mm nt nw P s OW o b) (g : ∀ p, P' p ↔ P p) : GI w N n mm nt nw P' s OW o b := by
  obtain ⟨i1, i2, i3, i4, i5, i6, i7, i8, i9, i10, i11⟩ := h
  exact ⟨⟨i1.1.cg (fun p _ => g p), i1.2⟩, i2, i3, i4, i5, i6, i7, i8, i9, i10, i11.eq (fun _ _ _ => rfl) (fun _ _ _ => rfl) (fun _ _ _ => rfl) (Int.le_refl n) (fun p _ z => (g p).2 z)⟩
theorem GB.cg {w : eW} {N n mm nt nw s o : Int} {P P' OW : Int → Prop} (h : GB w N n mm nt nw P s OW o) (g : ∀ p, P' p ↔ P p) : GB w N n mm nt nw P' s OW o := ⟨h.1.cg g, h.2.1, fun q z => (h.2.2 q z).cg (fun p _ => g p)⟩
theorem GS.wf {w : eW} {N n mm nt nw s o d : Int} {P OW : Int → Prop} (h : GS w N n mm nt nw P s OW o d) : wfE w N n mm nt (enc P n mm) s d :=
  ⟨h.1.1.1.cg (fun p g => enc_nn g), fun q z => (h.2.2 q z).cg (fun p g => enc_nn g), h.1.1.2, h.2.1.1, h.1.2.2.2.2.2.1.2.1, h.2.1.2, fun p g1 g2 => Or.inl (Or.inr ⟨by omega, Or.inl ⟨p, rfl, g2⟩⟩), fun m g1 g2 => Or.inl (Or.inr ⟨by omega, Or.inr ⟨m, rfl, g2⟩⟩)⟩
/-- behind an expression -/
theorem GS.ex {w w' : eW} {N n n' mm mm' nt nw s o d e : Int} {P OW : Int → Prop} (h : GS w N n mm nt nw P s OW o d) (hf : e_fr (mEx n mm) w w') (hn : n ≤ n') (hm : mm ≤ mm') (hw : wfE w' N n' mm' nt (enc P n mm) s e) : GS w' N n' mm' nt nw P s OW o e ∧ (∀ p, n ≤ p → p < n' → w' 330 (p + 40000) = s) ∧ dp w' n = d ∧ (d ≠ e → n < n') := by
  obtain ⟨q1, q2, q3, q4, q5, q6, q7⟩ := hw
  have hnn : 0 ≤ n := h.1.2.2.2.2.2.1.2.1
  have hmm : 0 ≤ mm := h.1.2.2.2.2.2.1.2.2.2.2
  have g1 : PI w' n' nt P := q1.cg (fun p g => (enc_nn g).symm)
  have hx : ∀ p, n ≤ p → p < n' → w' 328 (p + 40000) < 30 ∧ w' 330 (p + 40000) = s := fun p z1 z2 => (q7.1 p (by omega) z2).resolve_left (fun z => by
    rcases z with z | ⟨_, ⟨q, z3, z4⟩ | ⟨m, z3, z4⟩⟩
    · have := z.1; omega
    · omega
    · omega)
  have hk : ∀ m, mm ≤ m → m < mm' → w' 341 m = 2 ∧ (0 ≤ w' 344 m ∧ w' 344 m < n') ∧ w' 328 (w' 344 m + 40000) = 2 := fun m z1 z2 => (q7.2 m (by omega) z2).resolve_left (fun z => by
    rcases z with z | ⟨_, ⟨q, z3, z4⟩ | ⟨q, z3, z4⟩⟩
    · have := z.1; omega
    · omega
    · omega)
  have hdn : dp w' n = d := (dp_eq (fun k z1 z2 => hf 328 _ (by unfold mEx; omega))).trans h.2.1.1
  refine ⟨⟨?_, ⟨q4, q6⟩, fun q z => (q2 q z).cg (fun p g => (enc_nn g).symm)⟩, fun p z1 z2 => (hx p z1 z2).2, hdn, fun z => ?_⟩
  case refine_2 =>
    by_cases c : n = n'
    · rw [c, q4] at hdn
      exact absurd hdn.symm z
    · omega
  refine h.1.grow (fun c k z1 z2 => hf c k (by unfold mEx; omega)) hn hm (fun k z1 z2 => hf _ _ (by unfold mEx; omega)) (fun k z1 z2 => hf _ _ (by unfold mEx; omega)) (fun k z1 z2 _ => hf _ _ (by unfold mEx; omega)) g1 q3 (fun z => z.elim) (fun p z1 z2 => ?_) (fun m z1 z2 z3 => ⟨by rw [← hf 341 m (by unfold mEx; omega)]; exact z3, hf _ _ (by unfold mEx; omega)⟩) (fun m z1 z2 z3 => by rw [(hk m z1 z2).1] at z3; exact absurd z3 (by decide)) (fun m z1 z2 z3 => ?_)
  · obtain ⟨y1, y2⟩ := hx p z1 z2
    unfold plO
    rw [y2]
    exact ⟨h.1.2.2.2.2.2.1.1, Or.inl (anc.refl w' s), fun g => by omega, fun g => by omega⟩
  · by_cases c : m < mm
    · rw [hf 341 m (by unfold mEx; omega)] at z3
      exact (h.1.2.2.2.2.2.2.2.2.2.2 m z1 c z3).imp id (fun y => y.eq (hf 341 m (by unfold mEx; omega)) (hf 344 m (by unfold mEx; omega)) (fun k y1 y2 => hf 328 _ (by unfold mEx; omega)) hn)
    · obtain ⟨y1, y2, y3⟩ := hk m (by omega) z2
      exact Or.inr ⟨y2, fun _ => Or.inl y3, fun y => by omega⟩
/-- the last instruction of a statement (but those with names) -/
theorem GS.fin {w w' : eW} {N n mm nt nw s o d q x : Int} {P OW : Int → Prop} (h : GS w N n mm nt nw P s OW o d) (he : EM w w' n q x s) (hq : 31 ≤ q ∧ q ≤ 44) (h1 : q ≠ 31) (h3 : q ≠ 38) (h4 : q ≠ 39) (h5 : q ≠ 44) (hw : iOw d q x) (h34 : q = 34 → (0 ≤ x ∧ x < n) ∧ dp w x = 0 ∧ w 330 (x + 40000) = s) : GB w' N (n + 1) mm nt nw P s OW o := by
  obtain ⟨g1, ⟨g2, g3⟩, g4⟩ := h
  have hn : 0 ≤ n := g1.2.2.2.2.2.1.2.1
  have hs : sgO q = 1 := sg_op (Or.inl hq)
  have hj : iTo w' (n + 1) n ∧ ∀ k, 0 ≤ k → k ≤ n → iGo w' n k (w' 328 (k + 40000)) (w' 330 (k + 40000)) := by
    by_cases c : q = 34
    · obtain ⟨y1, y2, y3⟩ := h34 c
      refine ⟨?_, fun k k1 k2 z => ?_⟩
      · unfold iTo
        rw [he.2.1, he.2.2.1]
        exact ⟨fun z => by omega, fun z => by omega, fun z => by omega⟩
      · rw [he.2.2.1] at z
        rw [he.2.1, he.2.2.2.1]
        refine ⟨fun z => by omega, fun _ => ⟨?_, ?_⟩, fun z => by omega⟩
        · rw [← z, he.dq (by omega)]; exact y2
        · rw [← z, he.1 330 _ (by omega)]; exact y3
    · have nj : ¬ iJp q := by unfold iJp; omega
      exact ⟨to_not he.2.1 nj, fun k _ _ => go_not he.2.1 nj⟩
  refine ⟨g1.em True he (g1.1.1.em (g4 q hs) he hn (by rw [g2]; exact hw) (fun p _ g => g) (fun p _ g => g) (fun _ => hj)) (g1.1.2.em he hn (by omega) h1 h3 h4 h5 (fun g => by omega)) (fun _ _ z => z) (Or.inr (fun z => z)) (fun g => by omega) (fun g => by omega), by rw [he.dq1 hn, nxD_no (by omega)], fun q' g => RQ.em g1.1.1 he hn (fun p _ g => g) (fun p _ g => g) ?_ (fun _ z => ?_)⟩
  · unfold iNx
    rw [he.2.1, he.2.2.2.1]
    exact ⟨fun z => by omega, fun _ => ⟨g, rfl⟩, fun z => by omega⟩
  · rw [he.2.2.1] at z
    rw [he.2.1]
    exact ⟨fun z => by omega, fun y => by have := (h34 y).1; omega, fun z => by omega⟩
/-- an instruction that asks nothing of the next -/
theorem GI.zz {w w' : eW} {N n mm nt nw s o q x : Int} {P OW : Int → Prop} {b : Prop} (h : GI w N n mm nt nw P s OW o b) (hr : RQ w n nt P q s) (hd : dp w n = 0) (he : EM w w' n q x s) (hq : q = 45 ∨ q = 46 ∨ (49 ≤ q ∧ q ≤ 51)) (h46 : q = 46 → (x = -1 ∧ ∃ m, 0 ≤ m ∧ m < mm ∧ w 341 m = 4) ∨ OW x) (h49 : 49 ≤ q → (0 ≤ x ∧ x < nt) ∧ s = 3 * x + (q - 49)) : GZ w' N (n + 1) mm nt nw P s OW o := by
  have hn : 0 ≤ n := h.2.2.2.2.2.1.2.1
  have nj : ¬ iJp q := by clear h46 h49; unfold iJp; omega
  have h4 : q = 46 → 0 ≤ x ∨ ∃ m, 0 ≤ m ∧ m < mm ∧ w 341 m = 4 := fun g => (h46 g).elim (fun z => Or.inr z.2) (fun z => Or.inl (h.2.2.2.2.2.2.2.1 x z).1)
  refine ⟨h.em False he (h.1.1.em hr he hn (by rw [hd]; unfold iOw; clear h46 h4 h49; omega) (fun p _ g => g) (fun p _ g => g) (fun _ => ⟨to_not he.2.1 nj, fun k _ _ => go_not he.2.1 nj⟩)) (h.1.2.em he hn (by clear h46 h4 h49; omega) (by clear h46 h4 h49; omega) (by clear h46 h4 h49; omega) (by clear h46 h4 h49; omega) (by clear h46 h4 h49; omega) h4) (fun _ _ z => z) (Or.inl (sg_no (by clear h46 h4 h49; omega))) (fun g => (h46 g).imp (fun z => z.1) id) h49, by rw [he.dq1 hn, nxD_no (by clear h46 h4 h49; omega)], fun q' s' => RQ.em h.1.1 he hn (fun p _ g => g) (fun p _ g => g) ?_ (fun _ => go_not he.2.1 nj)⟩
  unfold iNx
  rw [he.2.1]
  clear h46 h4 h49
  exact ⟨fun z => by omega, fun z => by omega, fun z => by omega⟩
/-- a jump whose goal is still to come -/
theorem GI.jf {w w' : eW} {N n mm nt nw s o x : Int} {P OW : Int → Prop} {b : Prop} (h : GI w N n mm nt nw P s OW o b) (hr : RQ w n nt P 48 s) (hd : dp w n = 0) (he : EM w w' n 48 x s) : GZ w' N (n + 1) mm nt nw (fun p => P p ∨ p = n) s OW o := by
  have hn : 0 ≤ n := h.2.2.2.2.2.1.2.1
  refine ⟨h.em False he (h.1.1.em hr he hn (by rw [hd]; unfold iOw; omega) (fun p _ g => Or.inl g) (fun p hp g => by rcases g with g | g; exact g; omega) (fun g => absurd (Or.inr rfl) g)) (h.1.2.em he hn (by decide) (by decide) (by decide) (by decide) (by decide) (fun g => absurd g (by decide))) (fun _ _ z => Or.inl z) (Or.inl (sg_no (by omega))) (fun g => absurd g (by decide)) (fun g => absurd g (by decide)), by rw [he.dq1 hn, nxD_no (by decide)], fun q' s' => RQ.em h.1.1 he hn (fun p _ g => Or.inl g) (fun p hp g => by rcases g with g | g; exact g; omega) ?_ (fun g => absurd (Or.inr rfl) g)⟩
  unfold iNx
  rw [he.2.1]
  exact ⟨fun z => by omega, fun z => by omega, fun z => by omega⟩
/-- a jump back -/
theorem GI.jb {w w' : eW} {N n mm nt nw s o x : Int} {P OW : Int → Prop} {b : Prop} (h : GI w N n mm nt nw P s OW o b) (hr : RQ w n nt P 48 s) (hd : dp w n = 0) (he : EM w w' n 48 x s) (hx : 0 ≤ x ∧ x < n) (h8 : w 328 (x + 40000) = 30) (h0 : w 330 (x + 40000) = s) (hdx : dp w x = 0) : GZ w' N (n + 1) mm nt nw P s OW o := by
  have hn : 0 ≤ n := h.2.2.2.2.2.1.2.1
  have e8 : w' 328 (x + 40000) = 30 := (he.1 328 _ (by omega)).trans h8
  have e0 : w' 330 (x + 40000) = s := (he.1 330 _ (by omega)).trans h0
  have ed : dp w' x = 0 := (he.dq (by omega)).trans hdx
  refine ⟨h.em False he (h.1.1.em hr he hn (by rw [hd]; unfold iOw; omega) (fun p _ g => g) (fun p _ g => g) (fun _ => ⟨?_, fun k k1 k2 z => ?_⟩)) (h.1.2.em he hn (by decide) (by decide) (by decide) (by decide) (by decide) (fun g => absurd g (by decide))) (fun _ _ z => z) (Or.inl (sg_no (by omega))) (fun g => absurd g (by decide)) (fun g => absurd g (by decide)), by rw [he.dq1 hn, nxD_no (by decide)], fun q' s' => RQ.em h.1.1 he hn (fun p _ g => g) (fun p _ g => g) ?_ (fun _ z => ?_)⟩
  · unfold iTo
    rw [he.2.1, he.2.2.1]
    exact ⟨fun z => by omega, fun z => by omega, fun _ => Or.inr ⟨hx.1, hx.2, e8⟩⟩
  · rw [he.2.2.1] at z
    rw [he.2.1, he.2.2.2.1, ← z, e8, e0, ed]
    exact ⟨fun z => by omega, fun z => by omega, fun _ => ⟨rfl, sg_no (by omega), rfl⟩⟩
  · unfold iNx
    rw [he.2.1]
    exact ⟨fun z => by omega, fun z => by omega, fun z => by omega⟩
  · rw [he.2.2.1] at z
    omega
/-- a jump if not, whose goal is still to come -/
theorem GS.jn {w w' : eW} {N n mm nt nw s o x : Int} {P OW : Int → Prop} (h : GS w N n mm nt nw P s OW o 1) (he : EM w w' n 47 x s) : GB w' N (n + 1) mm nt nw (fun p => P p ∨ p = n) s OW o := by
  obtain ⟨g1, ⟨g2, g3⟩, g4⟩ := h
  have hn : 0 ≤ n := g1.2.2.2.2.2.1.2.1
  refine ⟨g1.em True he (g1.1.1.em (g4 47 (sg_op (by omega))) he hn (by rw [g2]; unfold iOw; omega) (fun p _ g => Or.inl g) (fun p hp g => by rcases g with g | g; exact g; omega) (fun g => absurd (Or.inr rfl) g)) (g1.1.2.em he hn (by decide) (by decide) (by decide) (by decide) (by decide) (fun g => absurd g (by decide))) (fun _ _ z => Or.inl z) (Or.inr (fun z => z)) (fun g => absurd g (by decide)) (fun g => absurd g (by decide)), by rw [he.dq1 hn, nxD_no (by decide)], fun q' z => RQ.em g1.1.1 he hn (fun p _ g => Or.inl g) (fun p hp g => by rcases g with g | g; exact g; omega) ?_ (fun g => absurd (Or.inr rfl) g)⟩
  unfold iNx
  rw [he.2.1, he.2.2.2.1]
  exact ⟨fun z => by omega, fun _ => ⟨z, rfl⟩, fun z => by omega⟩
/-- the goal has come -/
theorem GB.patch {w w' : eW} {N n mm nt nw s o j : Int} {P OW : Int → Prop} (h : GB w N n mm nt nw (fun p => P p ∨ p = j) s OW o) (hw : e_up w 329 (j + 40000) n = w') (hj : 0 ≤ j ∧ j < n) (h8 : w 328 (j + 40000) = 47 ∨ w 328 (j + 40000) = 48) (h0 : w 330 (j + 40000) = s) : GB w' N n mm nt nw P s OW o := by
  obtain ⟨g1, g2, g3⟩ := h
  have x8 : ∀ c k, c ≠ 329 → w' c k = w c k := fun c k g => by rw [← hw]; exact e_up_ne _ _ (Or.inl g)
  have x9 : ∀ p, p ≠ j → w' 329 (p + 40000) = w 329 (p + 40000) := fun p g => by rw [← hw]; exact e_up_ne _ _ (Or.inr (by omega))
  have xj : w' 329 (j + 40000) = n := by rw [← hw]; exact e_up_eq _ _ _ _
  have ed : ∀ p, dp w' p = dp w p := fun p => dp_eq (fun k _ _ => x8 328 _ (by decide))
  have hP : PI w' n nt P := fun p p1 p2 => by
    obtain ⟨i1, i2, i3⟩ := g1.1.1 p p1 p2
    refine ⟨?_, fun q => by rw [x8 328 _ (by decide), x8 330 _ (by decide)]; exact (i2 q).eq (Int.le_refl nt) (x8 328 _ (by decide)) (x8 330 _ (by decide)) (fun t _ _ => x8 331 _ (by decide)), fun q => ?_⟩
    · rw [ed, x8 328 _ (by decide)]
      by_cases c : p = j
      · subst c
        unfold iOw at i1 ⊢
        omega
      · rw [x9 p c]; exact i1
    · by_cases c : p = j
      · subst c
        refine ⟨?_, fun k k1 k2 z => ?_⟩
        · unfold iTo
          rw [x8 328 _ (by decide), xj]
          exact ⟨fun z => by omega, fun z => by omega, fun z => Or.inl (by omega)⟩
        · rw [xj] at z
          omega
      · have := i3 (fun z => z.elim q c)
        exact ⟨this.1.eq (Int.le_refl n) (fun k _ _ => x8 328 _ (by decide)) (x9 p c) p1, fun k k1 k2 => by rw [x8 328 _ (by decide), x8 330 _ (by decide)]; exact (this.2 k k1 k2).eq (x8 328 _ (by decide)) (x9 p c) (x8 330 _ (by decide)) (ed p) (ed k)⟩
  have hN : NM w' N n mm := by
    refine ⟨fun m m1 m2 => ?_, fun p p1 p2 => ?_⟩
    · unfold nmO
      rw [x8 341 m (by decide), x8 342 m (by decide), x8 343 m (by decide), x8 344 m (by decide)]
      exact g1.1.2.1 m m1 m2
    · obtain ⟨r1, r2, r3⟩ := g1.1.2.2 p p1 p2
      unfold NMp
      rw [x8 328 _ (by decide)]
      refine ⟨fun z => ?_, fun z => ?_, fun z => ?_⟩
      · obtain ⟨m, m1, m2, m3, m4⟩ := r1 z
        exact ⟨m, m1, m2, by rw [x8 341 m (by decide)]; exact m3, by rw [x8 344 m (by decide)]; exact m4⟩
      · obtain ⟨m, m1, m2, m3, m4⟩ := r2 z
        exact ⟨m, m1, m2, by rw [x8 341 m (by decide)]; exact m3, by rw [x8 344 m (by decide)]; exact m4⟩
      · have c : p ≠ j := fun c => by subst c; rcases h8 with h8 | h8 <;> (rw [h8] at z; exact absurd z (by decide))
        rw [x9 p c]
        exact (r3 z).imp id (fun ⟨m, m1, m2, m3⟩ => ⟨m, m1, m2, by rw [x8 341 m (by decide)]; exact m3⟩)
  refine ⟨g1.grow (fun c k z1 z2 => x8 c k (by omega)) (Int.le_refl n) (Int.le_refl mm) (fun k _ _ => x8 _ _ (by decide)) (fun k _ _ => x8 _ _ (by decide)) (fun k _ _ z => x9 k (fun c => by subst c; omega)) hP hN (fun _ => ⟨fun z => by omega, fun _ => trivial⟩) (fun p z1 z2 => by omega) (fun m _ _ z => ⟨by rw [← x8 341 m (by decide)]; exact z, x8 _ _ (by decide)⟩) (fun m z1 z2 => by omega) (g1.2.2.2.2.2.2.2.2.2.2.eq (fun m _ _ => x8 _ _ (by decide)) (fun m _ _ => x8 _ _ (by decide)) (fun k _ _ => x8 _ _ (by decide)) (Int.le_refl n) (fun p z1 z2 => z2.resolve_right (by omega))), by rw [ed]; exact g2, fun q z => fun p p1 p2 => ?_⟩
  obtain ⟨r1, r2⟩ := g3 q z p p1 p2
  refine ⟨fun y => (r1 y).eq (Int.le_refl nt) (x8 328 _ (by decide)) (x8 330 _ (by decide)) (fun t _ _ => x8 331 _ (by decide)), fun y => ?_⟩
  by_cases c : p = j
  · subst c
    intro _
    rw [x8 328 _ (by decide), x8 330 _ (by decide), h0, ed, ed, g2]
    exact ⟨fun v => by omega, fun v => by omega, fun _ => ⟨rfl, z, rfl⟩⟩
  · exact (r2 (fun v => v.elim y c)).eq (x8 328 _ (by decide)) (x9 p c) (x8 330 _ (by decide)) (ed p) (ed n)
end
