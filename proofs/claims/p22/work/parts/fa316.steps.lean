noncomputable section
/-! steps of the two readers keep the bundle -/
def nmE (v v' : eW) : Prop := v' 341 = v 341 ∧ v' 342 = v 342 ∧ v' 343 = v 343 ∧ v' 275 94 = v 275 94
def nwE (cd : Int) (w w' : eW) : Prop := w' 5 = w 5 ∧ w' 6 = w 6 ∧ w' 7 = w 7 ∧ w' cd 2 = w cd 2 ∧ w' 1 14 = w 1 14 ∧ w' 1 9 = w 1 9 ∧ w' 1 10 = w 1 10
theorem nmE.c {v v' : eW} (h : nmE v v') : cntK v' = cntK v := funext (fun k => funext (fun m => cntK_eq (fun m => by rw [h.1]) k m))
theorem nmE.of {S : Int → Int → Prop} {v v' : eW} (f : e_fr S v v') (h : ∀ i, ¬ S 341 i ∧ ¬ S 342 i ∧ ¬ S 343 i) (h2 : ¬ S 275 94) : nmE v v' := ⟨funext (fun i => f _ _ (h i).1), funext (fun i => f _ _ (h i).2.1), funext (fun i => f _ _ (h i).2.2), f _ _ h2⟩
theorem nmX.E {ka : Int} {v v1 v2 : eW} (h : nmX ka v v1) (e : nmE v1 v2) : nmX ka v v2 := by
  obtain ⟨e1, e2, e3, e4⟩ := e
  unfold nmX
  rw [e1, e2, e3, e4]
  exact h
theorem nmE.r (v : eW) : nmE v v := ⟨rfl, rfl, rfl, rfl⟩
theorem nwE.r (cd : Int) (w : eW) : nwE cd w w := ⟨rfl, rfl, rfl, rfl, rfl, rfl, rfl⟩
theorem NR.fr {N cd B : Int} {w v w' v' : eW} (h : NR N cd B w v) (ew : nwE cd w w') (ev : nmE v v') : NR N cd B w' v' := by
  have ec := ev.c
  obtain ⟨e1, e2, e3, e4, e5, e6, e7⟩ := ew
  obtain ⟨g1, g2, g3, g4⟩ := ev
  unfold NR NN NT senQ nmI bdK at h ⊢
  rw [e1, e2, e3, e4, e5, e6, e7, g1, g2, g3, g4, ec]
  exact h
theorem NR.wider {N cd B B' : Int} {w v : eW} (h : NR N cd B w v) (hB : B ≤ B') : NR N cd B' w v := by
  obtain ⟨⟨⟨a, b⟩, c, d, e⟩, f, g⟩ := h
  exact ⟨⟨⟨a, by omega⟩, c, fun i i0 i1 => ⟨⟨(d i i0 i1).1.1, by have := (d i i0 i1).1.2; omega⟩, (d i i0 i1).2⟩, e⟩, f, g⟩
theorem CN.fr {cd pz : Int} {w v w' v' : eW} (h : CN cd pz w v) (e0 : w' cd 0 = w cd 0) (e2 : w' (cd + 2) = w (cd + 2)) (ev : nmE v v') : CN cd pz w' v' := by
  obtain ⟨g1, g2, -, g4⟩ := ev
  unfold CN at h ⊢
  rw [e0, e2, g1, g2, g4]
  exact h
theorem mRw.fr2 {S : Int → Int → Prop} {v v' : eW} (f : e_fr S v v') (hS : ∀ k, S 275 k → (78 ≤ k ∧ k ≤ 89) ∨ k = 94) (h : mRw v) : mRw v' := fun q hq => by
  have d : mRL.all (fun q => decide (¬ ((78 ≤ q.1 ∧ q.1 ≤ 89) ∨ q.1 = 94))) = true := by decide +kernel
  have d2 := of_decide_eq_true (List.all_eq_true.mp d q hq)
  rw [f 275 q.1 (fun s => d2 (hS _ s))]
  exact h q hq
theorem kRw.fr2 {cd : Int} {S : Int → Int → Prop} {w w' : eW} (f : e_fr S w w') (hS : ∀ k, S 1 k → k ≠ 3 ∧ k ≠ 4 ∧ k ≠ 15 ∧ k ≠ 16) (hT : ∀ k, S cd k → k ≠ 3 ∧ k ≠ 4) (h : kRw cd w) : kRw cd w' := by
  obtain ⟨g1, g2, g3, g4, g5, g6, g7⟩ := h
  exact ⟨g1, (f _ _ (fun s => (hS _ s).1 rfl)).trans g2, (f _ _ (fun s => (hS _ s).2.1 rfl)).trans g3, (f _ _ (fun s => (hS _ s).2.2.1 rfl)).trans g4, (f _ _ (fun s => (hS _ s).2.2.2 rfl)).trans g5, (f _ _ (fun s => (hT _ s).1 rfl)).trans g6, (f _ _ (fun s => (hT _ s).2 rfl)).trans g7⟩
theorem isCd.m {cd : Int} (h : isCd cd) : cd ≠ 1 ∧ cd ≠ 5 ∧ cd ≠ 6 ∧ cd ≠ 7 ∧ cd ≠ 3 ∧ cd ≠ 4 ∧ cd + 1 ≠ 1 ∧ cd + 1 ≠ 5 ∧ cd + 1 ≠ 6 ∧ cd + 1 ≠ 7 ∧ cd + 2 ≠ 1 ∧ cd + 2 ≠ 5 ∧ cd + 2 ≠ 6 ∧ cd + 2 ≠ 7 := by
  unfold isCd at h
  omega
/-- what the model's readers write beside names and tokens -/
def mEm (c k : Int) : Prop := (328 ≤ c ∧ c ≤ 336) ∨ (c = 275 ∧ (k = 78 ∨ k = 79 ∨ k = 81))
/-- what the class's reader writes beside names, tokens and code -/
def kFs (cd c k : Int) : Prop := (c = 1 ∧ k = 12) ∨ c = cd + 1
section STS
variable {N cd s o b pz l m t ka : Int} {w v w1 v1 w2 v2 : eW}
theorem Rk.fr {S T : Int → Int → Prop} (h : Rk N cd b w v) (f : e_fr S w w1) (g : e_fr T v v1) (hS : ∀ c k, S c k → kNtk c k) (hS1 : ∀ k, S 1 k → k ≠ 15 ∧ k ≠ 16) (hS2 : ∀ k, S cd k → k ≠ 3 ∧ k ≠ 4) (hT : ∀ c k, T c k → mNtk c k) (hT1 : ∀ k, T 275 k → (78 ≤ k ∧ k ≤ 89) ∨ k = 94) (hl : 0 ≤ w1 cd 0 ∧ w1 cd 0 ≤ 4000) {b' : Int} (hw : 0 ≤ v1 275 80 ∧ v1 275 80 ≤ w 1 6 + b') : Rk N cd b' w1 v1 := by
  obtain ⟨a1, a2, a3, a4, a5, a6, a7, a8⟩ := h
  have f' := f.mono hS
  have g' := g.mono hT
  have e : w1 1 6 = w 1 6 := kNtk.at f' (by omega)
  refine ⟨a1.fr f' g', a2.fr f' g', kNtk.tk f' a3, kRw.fr2 f (fun k q => ?_) hS2 a4, mRw.fr2 g hT1 a5, hl, by omega⟩
  have h1 := hS1 k q
  have h2 := hS 1 k q
  unfold kNtk at h2
  omega
theorem st.mf (h : st N cd w v w1 v1 s o b pz l m t ka) (f : e_fr mEm v1 v2) : st N cd w v w1 v2 s o b pz l m t ka := by
  obtain ⟨a1, a2, a3, a4, a5, a6, a7, a8⟩ := h
  have e := nmE.of f (fun i => by unfold mEm; omega) (by unfold mEm; omega)
  have e0 : v2 275 80 = v1 275 80 := f _ _ (by unfold mEm; omega)
  have e2 : v2 275 82 = v1 275 82 := f _ _ (by unfold mEm; omega)
  have e3 : v2 275 83 = v1 275 83 := f _ _ (by unfold mEm; omega)
  exact ⟨a1.fr (S := fun _ _ => False) (fun _ _ _ => rfl) f (fun _ _ q => q.elim) (fun _ q => q.elim) (fun _ q => q.elim) (fun c k q => by unfold mEm at q; unfold mNtk; omega) (fun k q => by unfold mEm at q; omega) a1.2.2.2.2.2.1 (by rw [e0]; exact a1.2.2.2.2.2.2), a2.fr (nwE.r cd w1) e, a3.fr rfl rfl e, ⟨a4.1, by omega⟩, ⟨a5.1, by omega, a5.2.2⟩, a6, a7, a8.E e⟩
theorem nwE.em (hc : isCd cd) (f : e_fr (kEm cd) w1 w2) : nwE cd w1 w2 ∧ ∀ k, w2 1 k = w1 1 k := by
  have n := hc.m
  have F : ∀ c k, ¬ ((c = cd ∧ k = 0) ∨ c = cd + 2) → w2 c k = w1 c k := f
  exact ⟨⟨funext (fun i => F _ _ (by omega)), funext (fun i => F _ _ (by omega)), funext (fun i => F _ _ (by omega)), F _ _ (by omega), F _ _ (by omega), F _ _ (by omega), F _ _ (by omega)⟩, fun k => F _ _ (by omega)⟩
theorem Rk.em (h : Rk N cd b w1 v1) (f : e_fr (kEm cd) w1 w2) (hl : 0 ≤ w2 cd 0 ∧ w2 cd 0 ≤ 4000) : Rk N cd b w2 v1 := by
  have n := h.2.2.2.1.1.m
  exact h.fr (T := fun _ _ => False) f (fun _ _ _ => rfl) (fun c k q => by unfold kEm at q; unfold kNtk; omega) (fun k q => by unfold kEm at q; omega) (fun k q => by unfold kEm at q; omega) (fun _ _ q => q.elim) (fun _ q => q.elim) hl h.2.2.2.2.2.2
theorem emQ.len {op od z : Int} (h : emQ w1 w2 cd op od z) (hl : 0 ≤ w1 cd 0 ∧ w1 cd 0 ≤ 4000) : (0 ≤ w2 cd 0 ∧ w2 cd 0 ≤ 4000) ∧ w1 cd 0 ≤ w2 cd 0 ∧ w2 cd 0 ≤ w1 cd 0 + 1 := by
  rcases h with ⟨h1, h2, -⟩ | ⟨h1, h2, -⟩
  · omega
  · subst h2; omega
/-- a row that names no routine -/
theorem st.em {op od z : Int} (h : st N cd w v w1 v1 s o b pz l m t ka) (f : e_fr (kEm cd) w1 w2) (hq : emQ w1 w2 cd op od z) (ho : 0 ≤ op ∧ op ≤ 63 ∧ 0 ≤ od) (hn : ¬ isCl3 op) : st N cd w v w2 v1 (s + 1) o b pz l m t ka := by
  obtain ⟨a1, a2, a3, a4, a5, a6, a7, a8⟩ := h
  obtain ⟨ew, e1⟩ := nwE.em a1.2.2.2.1.1 f
  have hl := emQ.len hq a1.2.2.2.2.2.1
  refine ⟨a1.em f hl.1, ?_, fun g z' => ?_, ⟨(e1 11).trans a4.1, a4.2⟩, ⟨(e1 13).trans a5.1, a5.2.1, (e1 12).trans a5.2.2⟩, ⟨by omega, by rw [e1 6]; omega, by rw [e1 6]; omega⟩, fun g i hi => ?_, a8⟩
  · rw [e1 6]; exact a2.fr ew (nmE.r v1)
  · rcases hq with ⟨q1, q2, q3, q4, q5⟩ | ⟨q1, q2, -⟩
    · rw [← a3 (by omega) z']
      constructor
      · rintro (⟨i, i1, i2, i3⟩ | i)
        · by_cases e : i = w1 cd 0
          · exfalso
            rw [e, q4] at i2
            rw [show (64 * od + op) % 64 = op by omega] at i2
            exact hn i2
          · rw [q5 i e] at i2 i3
            exact Or.inl ⟨i, ⟨i1.1, by omega⟩, i2, i3⟩
        · exact Or.inr i
      · rintro (⟨i, i1, i2, i3⟩ | i)
        · exact Or.inl ⟨i, ⟨i1.1, by omega⟩, by rw [q5 i (by omega)]; exact i2, by rw [q5 i (by omega)]; exact i3⟩
        · exact Or.inr i
    · subst q2; omega
  · rcases hq with ⟨q1, q2, q3, q4, q5⟩ | ⟨q1, q2, -⟩
    · rw [q5 i (by omega)]; exact a7 (by omega) i hi
    · subst q2; omega
/-- the row that names the routine that waits -/
theorem st.emc {op od z : Int} (h : st N cd w v w1 v1 s o b pz l m t ka) (f : e_fr (kEm cd) w1 w2) (hq : emQ w1 w2 cd op od z) (ho : 0 ≤ op ∧ op ≤ 63 ∧ 0 ≤ od) (hn : isCl3 op) (hp : od = pz) : st N cd w v w2 v1 (s + 1) o b (-1) l m t ka := by
  obtain ⟨a1, a2, a3, a4, a5, a6, a7, a8⟩ := h
  obtain ⟨ew, e1⟩ := nwE.em a1.2.2.2.1.1 f
  have hl := emQ.len hq a1.2.2.2.2.2.1
  refine ⟨a1.em f hl.1, ?_, fun g z' => ?_, ⟨(e1 11).trans a4.1, a4.2⟩, ⟨(e1 13).trans a5.1, a5.2.1, (e1 12).trans a5.2.2⟩, ⟨by omega, by rw [e1 6]; omega, by rw [e1 6]; omega⟩, fun g i hi => ?_, a8⟩
  · rw [e1 6]; exact a2.fr ew (nmE.r v1)
  · rcases hq with ⟨q1, q2, q3, q4, q5⟩ | ⟨q1, q2, -⟩
    · rw [← a3 (by omega) z']
      constructor
      · rintro (⟨i, i1, i2, i3⟩ | i)
        · by_cases e : i = w1 cd 0
          · rw [e, q4] at i3
            exact Or.inr ⟨by omega, by omega⟩
          · rw [q5 i e] at i2 i3
            exact Or.inl ⟨i, ⟨i1.1, by omega⟩, i2, i3⟩
        · omega
      · rintro (⟨i, i1, i2, i3⟩ | i)
        · exact Or.inl ⟨i, ⟨i1.1, by omega⟩, by rw [q5 i (by omega)]; exact i2, by rw [q5 i (by omega)]; exact i3⟩
        · have := a1.2.2.2.2.2.1
          refine Or.inl ⟨w1 cd 0, ⟨by omega, by omega⟩, ?_, ?_⟩
          · rw [q4, show (64 * od + op) % 64 = op by omega]; exact hn
          · rw [q4]; omega
    · subst q2; omega
  · rcases hq with ⟨q1, q2, q3, q4, q5⟩ | ⟨q1, q2, -⟩
    · rw [q5 i (by omega)]; exact a7 (by omega) i hi
    · subst q2; omega
/-- a place that was written, with what it does -/
def plcQ (cd : Int) (w0 : eW) (z op : Int) (w : eW) : Prop := w cd 0 < 4000 → w0 cd 0 ≤ z ∧ z < w cd 0 ∧ w (cd + 2) z % 64 = op
theorem plcQ.mk {op od z : Int} (h : st N cd w v w1 v1 s o b pz l m t ka) (hq : emQ w1 w2 cd op od z) (ho : 0 ≤ op ∧ op ≤ 63) : plcQ cd w z op w2 := fun g => by
  have a6 := h.2.2.2.2.2.1
  rcases hq with ⟨q1, q2, q3, q4, -⟩ | ⟨q1, q2, -⟩
  · subst q3
    exact ⟨by omega, by omega, by rw [q4]; omega⟩
  · subst q2; omega
theorem plcQ.st {w0 : eW} {z op : Int} (p : plcQ cd w0 z op w) (h : st N cd w v w1 v1 s o b pz l m t ka) : plcQ cd w0 z op w1 := fun g => by
  have a6 := h.2.2.2.2.2.1
  obtain ⟨p1, p2, p3⟩ := p (by omega)
  exact ⟨p1, by omega, by rw [h.2.2.2.2.2.2.1 g z p2]; exact p3⟩
theorem plcQ.em {w0 : eW} {z op op' od z' : Int} (p : plcQ cd w0 z op w1) (hq : emQ w1 w2 cd op' od z') : plcQ cd w0 z op w2 := fun g => by
  rcases hq with ⟨q1, q2, q3, q4, q5⟩ | ⟨q1, q2, -⟩
  · obtain ⟨p1, p2, p3⟩ := p q1
    exact ⟨p1, by omega, by rw [q5 z (by omega)]; exact p3⟩
  · subst q2; exact p g
theorem plcQ.pa {w0 : eW} {z op x od : Int} (p : plcQ cd w0 z op w1) (hq : paQ w1 w2 cd x od) (e0 : w2 cd 0 = w1 cd 0) : plcQ cd w0 z op w2 := fun g => by
  obtain ⟨p1, p2, p3⟩ := p (by omega)
  refine ⟨p1, by omega, ?_⟩
  rcases hq with ⟨q1, q2, q4, q5⟩ | ⟨q1, q2⟩
  · by_cases e : z = x
    · subst e; rw [q4]; omega
    · rw [q5 z e]; exact p3
  · subst q2; exact p3
theorem plcQ.fr {w0 : eW} {z op : Int} (p : plcQ cd w0 z op w1) (e0 : w2 cd 0 = w1 cd 0) (er : ∀ i, w2 (cd + 2) i = w1 (cd + 2) i) : plcQ cd w0 z op w2 := fun g => by
  obtain ⟨p1, p2, p3⟩ := p (by omega)
  exact ⟨p1, by omega, by rw [er]; exact p3⟩
theorem st.pa {x od op : Int} (h : st N cd w v w1 v1 s o b pz l m t ka) (f : e_fr (kPa cd) w1 w2) (hq : paQ w1 w2 cd x od) (p : plcQ cd w x op w1) (hn : ¬ isCl3 op) : st N cd w v w2 v1 s o b pz l m t ka := by
  obtain ⟨a1, a2, a3, a4, a5, a6, a7, a8⟩ := h
  have n := a1.2.2.2.1.1.m
  have F : ∀ c k, ¬ (c = cd + 2) → w2 c k = w1 c k := f
  obtain ⟨ew, e1⟩ := nwE.em a1.2.2.2.1.1 (f.mono (S' := kEm cd) (fun c k q => Or.inr q))
  have e0 : w2 cd 0 = w1 cd 0 := F _ _ (by omega)
  refine ⟨a1.em (f.mono (fun c k q => Or.inr q)) (by rw [e0]; exact a1.2.2.2.2.2.1), ?_, fun g z' => ?_, ⟨(e1 11).trans a4.1, a4.2⟩, ⟨(e1 13).trans a5.1, a5.2.1, (e1 12).trans a5.2.2⟩, ⟨by omega, by rw [e1 6]; omega, by rw [e1 6]; omega⟩, fun g i hi => ?_, a8⟩
  · rw [e1 6]; exact a2.fr ew (nmE.r v1)
  · rw [e0] at g ⊢
    obtain ⟨p1, p2, p3⟩ := p g
    rw [← a3 g z']
    rcases hq with ⟨q1, q2, q4, q5⟩ | ⟨q1, q2⟩
    · have hx : ¬ isCl3 (w2 (cd + 2) x % 64) := by rw [q4, show (64 * od + w1 (cd + 2) x % 64) % 64 = w1 (cd + 2) x % 64 by omega, p3]; exact hn
      have hx1 : ¬ isCl3 (w1 (cd + 2) x % 64) := by rw [p3]; exact hn
      constructor
      · rintro (⟨i, i1, i2, i3⟩ | i)
        · by_cases e : i = x
          · subst e; exact absurd i2 hx
          · rw [q5 i e] at i2 i3
            exact Or.inl ⟨i, i1, i2, i3⟩
        · exact Or.inr i
      · rintro (⟨i, i1, i2, i3⟩ | i)
        · by_cases e : i = x
          · subst e; exact absurd i2 hx1
          · exact Or.inl ⟨i, i1, by rw [q5 i e]; exact i2, by rw [q5 i e]; exact i3⟩
        · exact Or.inr i
    · subst q2; exact Iff.rfl
  · rw [e0] at g
    obtain ⟨p1, p2, p3⟩ := p g
    rcases hq with ⟨q1, q2, q4, q5⟩ | ⟨q1, q2⟩
    · rw [q5 i (by omega)]; exact a7 g i hi
    · subst q2; exact a7 g i hi
/-- a new token -/
theorem st.ad {k : Int} (h : st N cd w v w1 v1 s o b pz l m t ka) (tt : TK N w1 v1 w2 v2) (hk : w1 1 6 + k ≤ w1 1 7) (hb : b ≤ k) : st N cd w v w2 v2 (s - k) o 0 pz l m t ka := by
  obtain ⟨a1, a2, a3, a4, a5, a6, a7, a8⟩ := h
  obtain ⟨t1, t2, t3, t4, t5, t6⟩ := tt
  have n := a1.2.2.2.1.1.m
  have F : ∀ c k, ¬ (c = 1 ∧ 5 ≤ k ∧ k ≤ 8) → w2 c k = w1 c k := t5
  have G : ∀ c k, ¬ (c = 275 ∧ 84 ≤ k ∧ k ≤ 87) → v2 c k = v1 c k := t6
  have ev : nmE v1 v2 := ⟨funext (fun i => G _ _ (by omega)), funext (fun i => G _ _ (by omega)), funext (fun i => G _ _ (by omega)), G _ _ (by omega)⟩
  have ew : nwE cd w1 w2 := ⟨funext (fun i => F _ _ (by omega)), funext (fun i => F _ _ (by omega)), funext (fun i => F _ _ (by omega)), F _ _ (by omega), F _ _ (by omega), F _ _ (by omega), F _ _ (by omega)⟩
  have e0 : w2 cd 0 = w1 cd 0 := F _ _ (by omega)
  have er : w2 (cd + 2) = w1 (cd + 2) := funext (fun i => F _ _ (by omega))
  have e80 : v2 275 80 = v1 275 80 := G _ _ (by omega)
  have h80 := a1.2.2.2.2.2.2
  have kk := a1.2.1.2.1.2.2.2.1
  exact ⟨⟨t1, t2, t3, kRw.fr2 t5 (fun k q => by unfold kRa at q; omega) (fun k q => by unfold kRa at q; omega) a1.2.2.2.1, mRw.fr2 t6 (fun k q => by unfold mTq at q; omega) a1.2.2.2.2.1, by rw [e0]; exact a1.2.2.2.2.2.1, by omega⟩, (a2.fr ew ev).wider (by omega), a3.fr e0 er ev, ⟨(F 1 11 (by omega)).trans a4.1, (G 275 83 (by omega)).trans a4.2⟩, ⟨(F 1 13 (by omega)).trans a5.1, (G 275 82 (by omega)).trans a5.2.1, (F 1 12 (by omega)).trans a5.2.2⟩, by omega, fun g i hi => by rw [er]; exact a7 (by omega) i hi, a8.E ev⟩
end STS
end
