noncomputable section
/-- arms' states and ways: unchanged, or stopped in a move -/
def sRel (w w' : eW) : Prop := ∀ b, 0 ≤ b → b ≤ 3 → (w' 276 (36 * b + 16) = w 276 (36 * b + 16) ∧ w' 276 (36 * b + 22) = w 276 (36 * b + 22)) ∨ (w 276 (36 * b + 16) = 1 ∧ w' 276 (36 * b + 16) = 2 ∧ w' 276 (36 * b + 22) = 0)
def mSt (c k : Int) : Prop := c = 276 ∧ (16 ≤ k ∧ k < 160 ∧ ((k - 16) % 36 = 4 ∨ (k - 16) % 36 = 5))
def mBM (c k : Int) : Prop := c = 276 ∧ (k = 5 ∨ 25060 ≤ k ∨ (16 ≤ k ∧ k < 160 ∧ ((k - 16) % 36 = 6 ∨ (k - 16) % 36 = 9)) ∨ (416 ≤ k ∧ k < 20576 ∧ ((k - 416) % 1260 = 7)))
def mBr (c k : Int) : Prop := c = 276 ∧ (k = 5 ∨ 25060 ≤ k ∨ (16 ≤ k ∧ k < 160 ∧ ((k - 16) % 36 = 6 ∨ (k - 16) % 36 = 9)) ∨ (416 ≤ k ∧ k < 20576 ∧ ((k - 416) % 1260 = 7)) ∨ (16 ≤ k ∧ k < 160 ∧ ((k - 16) % 36 = 0)))
def mTr (c k : Int) : Prop := c = 276 ∧ ((1 ≤ k ∧ k ≤ 5) ∨ 25060 ≤ k ∨ (16 ≤ k ∧ k < 160 ∧ ((k - 16) % 36 = 6 ∨ (k - 16) % 36 = 9 ∨ (k - 16) % 36 = 0 ∨ (22 ≤ (k - 16) % 36 ∧ (k - 16) % 36 ≤ 27))) ∨ (416 ≤ k ∧ k < 20576 ∧ ((k - 416) % 1260 = 7)))
def mIn (c k : Int) : Prop := c = 276 ∧ 20836 ≤ k ∧ k ≤ 20867
def mPa (p c k : Int) : Prop := c = 276 ∧ 4 * p + 20576 ≤ k ∧ k ≤ 4 * p + 20579
theorem no_55_0 {k : Int} : ¬ mSt 275 k := by unfold mSt; omega
theorem c_390 {d : Nat} (hd : 21 ≤ d) {w : eW} (hT : e_Has mTy w) {a : Int} : e_Ok 20 elay ecode eI d 390 (0, [(0, (1, 275)), (1, (0, a))], [], w) (fun r w' => r = [] ∧ e_fr mSt w w' ∧ e_Has mTy w' ∧ (∀ b, 0 ≤ b → b < w 275 10 → w' 276 (36 * b + 20) = 0) ∧ ∀ b, 0 ≤ b → b ≤ 3 → w' 276 (36 * b + 20) = 0 ∨ w' 276 (36 * b + 20) = w 276 (36 * b + 20)) := by
  obtain ⟨d, rfl⟩ : ∃ e, d = e + 1 := ⟨d - 1, by omega⟩
  refine e_Ok.run (t' := (2, [(2, (0, 0)), (0, (1, 275)), (1, (0, a))], [], w)) 2 rfl ?_
  have hL1 : ∀ (nn : Nat) (y2 : Int) (v1 : eW), e_fr mSt w v1 ∧ e_Has mTy v1 ∧ (0 ≤ y2 ∧ y2 ≤ 4) ∧ (∀ b, 0 ≤ b → b < y2 → v1 276 (36 * b + 20) = 0) ∧ (∀ b, 0 ≤ b → b ≤ 3 → v1 276 (36 * b + 20) = 0 ∨ v1 276 (36 * b + 20) = w 276 (36 * b + 20)) → 5 - y2 < nn → e_Ok 20 elay ecode eI (d + 1) 390 (2, [(0, (1, 275)), (1, (0, a)), (2, (0, y2))], [], v1) (fun r w' => r = [] ∧ e_fr mSt w w' ∧ e_Has mTy w' ∧ (∀ b, 0 ≤ b → b < w 275 10 → w' 276 (36 * b + 20) = 0) ∧ ∀ b, 0 ≤ b → b ≤ 3 → w' 276 (36 * b + 20) = 0 ∨ w' 276 (36 * b + 20) = w 276 (36 * b + 20)) := by
    intro nn
    induction nn with
    | zero => intro y2 v1 hj hm; obtain ⟨j3, j4, j5, j6, j7⟩ := hj; exfalso; omega
    | succ nn ih2 =>
      intro y2 v1 hj hm
      obtain ⟨j3, j4, j5, j6, j7⟩ := hj
      refine e_Ok.run (t' := (4, [(0, (1, 275)), (1, (0, a)), (2, (0, y2))], [(1, 275), (0, y2)], v1)) 2 rfl ?_
      have h8 := (e_Has.get hT (c := 275) (k := 10) (lo := 0) (hi := 4) rfl (by decide))
      refine e_Ok.getf (z := w 275 10) rfl (el_o rfl) rfl rfl ((j3 275 10 no_55_0).trans rfl) (by omega) ?_
      refine e_Ok.if2 rfl (fun h9 => ?_) (fun h9 => ?_)
      · replace h9 : (y2 : Int) ≥ w 275 10 := h9
        refine e_Ok.rets rfl rfl ?_
        exact ⟨rfl, j3, j4, fun b g1 g2 => j6 b g1 (by omega), j7⟩
      · replace h9 : (y2 : Int) < w 275 10 := by have q : ¬ ((y2 : Int) ≥ w 275 10) := h9; omega
        refine e_Ok.run (t' := (11, [(0, (1, 275)), (1, (0, a)), (2, (0, y2))], [(1, 275)], v1)) 1 rfl ?_
        refine e_Ok.getr (z := 276) rfl (el_o rfl) rfl rfl ((j3 275 0 no_55_0).trans (e_Has.eq hT rfl)) (by omega) ?_
        refine e_Ok.run (t' := (15, [(0, (1, 275)), (1, (0, a)), (2, (0, y2))], [(0, y2), (1, 276)], v1)) 1 rfl ?_
        refine e_Ok.callS rfl (by omega) rfl rfl (c_268 (by omega)) (fun r10 w11 h12 => ?_)
        obtain ⟨rfl, rfl⟩ := h12
        show e_Ok 20 elay ecode eI (d + 1) 390 (18, [(0, (1, 275)), (1, (0, a)), (2, (0, y2))], [(0, 36 * y2 + 16), (1, 276)], v1) _
        refine e_Ok.run (t' := (19, [(0, (1, 275)), (1, (0, a)), (2, (0, y2))], [(0, 4), (0, 36 * y2 + 16), (1, 276)], v1)) 1 rfl ?_
        refine e_Ok.add (z := 36 * y2 + 20) rfl (by omega) (by omega) ?_
        refine e_Ok.run (t' := (21, [(0, (1, 275)), (1, (0, a)), (2, (0, y2))], [(0, 0), (0, 36 * y2 + 20), (1, 276)], v1)) 1 rfl ?_
        refine e_Ok.ast rfl (el_o rfl) rfl rfl (by omega) ?_
        generalize hw13 : e_up v1 276 (36 * y2 + 20) 0 = w13
        have f14 : e_fr mSt w w13 := e_fr.up j3 hw13 (by unfold mSt; omega)
        have hT15 : e_Has mTy w13 := e_Has.upr j4 hw13 (nR_FRESH (a := y2) (by omega)) (by omega)
        refine e_Ok.run (t' := (23, [(0, (1, 275)), (1, (0, a)), (2, (0, y2))], [(1, 275)], w13)) 1 rfl ?_
        refine e_Ok.getr (z := 276) rfl (el_o rfl) rfl rfl (by rw [← hw13]; exact (e_up_ne _ _ (Or.inl (by omega))).trans ((j3 275 0 no_55_0).trans (e_Has.eq hT rfl))) (by omega) ?_
        refine e_Ok.run (t' := (27, [(0, (1, 275)), (1, (0, a)), (2, (0, y2))], [(0, y2), (1, 276)], w13)) 1 rfl ?_
        refine e_Ok.callS rfl (by omega) rfl rfl (c_268 (by omega)) (fun r16 w17 h18 => ?_)
        obtain ⟨rfl, rfl⟩ := h18
        show e_Ok 20 elay ecode eI (d + 1) 390 (30, [(0, (1, 275)), (1, (0, a)), (2, (0, y2))], [(0, 36 * y2 + 16), (1, 276)], w13) _
        refine e_Ok.run (t' := (31, [(0, (1, 275)), (1, (0, a)), (2, (0, y2))], [(0, 5), (0, 36 * y2 + 16), (1, 276)], w13)) 1 rfl ?_
        refine e_Ok.add (z := 36 * y2 + 21) rfl (by omega) (by omega) ?_
        refine e_Ok.run (t' := (34, [(0, (1, 275)), (1, (0, a)), (2, (0, y2))], [(0, a), (0, y2), (0, 36 * y2 + 21), (1, 276)], w13)) 2 rfl ?_
        refine e_Ok.if2 rfl (fun h19 => ?_) (fun h19 => ?_)
        · replace h19 : (y2 : Int) ≠ a := h19
          refine e_Ok.run (t' := (52, [(0, (1, 275)), (1, (0, a)), (2, (0, y2))], [(0, 0), (0, 36 * y2 + 21), (1, 276)], w13)) 1 rfl ?_
          refine e_Ok.ast rfl (el_o rfl) rfl rfl (by omega) ?_
          generalize hw20 : e_up w13 276 (36 * y2 + 21) 0 = w20
          have f21 : e_fr mSt w w20 := e_fr.up f14 hw20 (by unfold mSt; omega)
          have hT22 : e_Has mTy w20 := e_Has.upr hT15 hw20 (nR_BUT_OWN (a := y2) (by omega)) (by omega)
          refine e_Ok.inc (z := y2 + 1) rfl rfl (by omega) (by omega) ?_
          show e_Ok 20 elay ecode eI (d + 1) 390 (56, [(2, (0, y2 + 1)), (0, (1, 275)), (1, (0, a))], [], w20) _
          refine e_Ok.run (t' := (2, [(2, (0, y2 + 1)), (0, (1, 275)), (1, (0, a))], [], w20)) 1 rfl ?_
          refine e_Ok.sub eAlk (e_sub_of rfl ?_) (ih2 (y2 + 1) w20 ⟨f21, hT22, by omega, (fun b g1 g2 => Decidable.byCases (p := b = y2) (fun e => by rw [e]; exact (by rw [← hw20]; exact (e_up_ne _ _ (Or.inr (by omega))).trans (by rw [← hw13]; exact e_up_eq _ _ _ _))) (fun e => Eq.trans (by rw [← hw20]; exact (e_up_ne _ _ (Or.inr (by omega))).trans (by rw [← hw13]; exact (e_up_ne _ _ (Or.inr (by omega))).trans rfl)) (j6 b g1 (by omega)))), (fun b g1 g2 => Decidable.byCases (p := b = y2) (fun e => Or.inl (by rw [e]; exact (by rw [← hw20]; exact (e_up_ne _ _ (Or.inr (by omega))).trans (by rw [← hw13]; exact e_up_eq _ _ _ _)))) (fun e => by rw [show w20 276 (36 * b + 20) = v1 276 (36 * b + 20) from (by rw [← hw20]; exact (e_up_ne _ _ (Or.inr (by omega))).trans (by rw [← hw13]; exact (e_up_ne _ _ (Or.inr (by omega))).trans rfl))]; exact j7 b g1 g2))⟩ (by omega))
          exact ⟨rfl, rfl, rfl, trivial⟩
        · replace h19 : (y2 : Int) = a := by have q : ¬ ((y2 : Int) ≠ a) := h19; omega
          refine e_Ok.run (t' := (38, [(0, (1, 275)), (1, (0, a)), (2, (0, y2))], [(1, 275), (0, 36 * y2 + 21), (1, 276)], w13)) 1 rfl ?_
          refine e_Ok.getr (z := 276) rfl (el_o rfl) rfl rfl (by rw [← hw13]; exact (e_up_ne _ _ (Or.inl (by omega))).trans ((j3 275 0 no_55_0).trans (e_Has.eq hT rfl))) (by omega) ?_
          refine e_Ok.run (t' := (42, [(0, (1, 275)), (1, (0, a)), (2, (0, y2))], [(0, y2), (1, 276), (0, 36 * y2 + 21), (1, 276)], w13)) 1 rfl ?_
          refine e_Ok.callS rfl (by omega) rfl rfl (c_268 (by omega)) (fun r23 w24 h25 => ?_)
          obtain ⟨rfl, rfl⟩ := h25
          show e_Ok 20 elay ecode eI (d + 1) 390 (45, [(0, (1, 275)), (1, (0, a)), (2, (0, y2))], [(0, 36 * y2 + 16), (1, 276), (0, 36 * y2 + 21), (1, 276)], w13) _
          refine e_Ok.run (t' := (46, [(0, (1, 275)), (1, (0, a)), (2, (0, y2))], [(0, 5), (0, 36 * y2 + 16), (1, 276), (0, 36 * y2 + 21), (1, 276)], w13)) 1 rfl ?_
          refine e_Ok.add (z := 36 * y2 + 21) rfl (by omega) (by omega) ?_
          have h26 := (e_Has.get j4 (c := 276) (k := 36 * y2 + 21) (lo := 0) (hi := 1) (nR_BUT_OWN (a := y2) (by omega)) (by decide))
          refine e_Ok.ald (z := v1 276 (36 * y2 + 21)) rfl (el_o rfl) rfl (by omega) (by rw [← hw13]; exact (e_up_ne _ _ (Or.inr (by omega))).trans rfl) (by omega) ?_
          refine e_Ok.run (t' := (52, [(0, (1, 275)), (1, (0, a)), (2, (0, y2))], [(0, v1 276 (36 * y2 + 21)), (0, 36 * y2 + 21), (1, 276)], w13)) 1 rfl ?_
          refine e_Ok.ast rfl (el_o rfl) rfl rfl (by omega) ?_
          generalize hw27 : e_up w13 276 (36 * y2 + 21) (v1 276 (36 * y2 + 21)) = w27
          have f28 : e_fr mSt w w27 := e_fr.up f14 hw27 (by unfold mSt; omega)
          have hT29 : e_Has mTy w27 := e_Has.upr hT15 hw27 (nR_BUT_OWN (a := y2) (by omega)) (by omega)
          refine e_Ok.inc (z := y2 + 1) rfl rfl (by omega) (by omega) ?_
          show e_Ok 20 elay ecode eI (d + 1) 390 (56, [(2, (0, y2 + 1)), (0, (1, 275)), (1, (0, a))], [], w27) _
          refine e_Ok.run (t' := (2, [(2, (0, y2 + 1)), (0, (1, 275)), (1, (0, a))], [], w27)) 1 rfl ?_
          refine e_Ok.sub eAlk (e_sub_of rfl ?_) (ih2 (y2 + 1) w27 ⟨f28, hT29, by omega, (fun b g1 g2 => Decidable.byCases (p := b = y2) (fun e => by rw [e]; exact (by rw [← hw27]; exact (e_up_ne _ _ (Or.inr (by omega))).trans (by rw [← hw13]; exact e_up_eq _ _ _ _))) (fun e => Eq.trans (by rw [← hw27]; exact (e_up_ne _ _ (Or.inr (by omega))).trans (by rw [← hw13]; exact (e_up_ne _ _ (Or.inr (by omega))).trans rfl)) (j6 b g1 (by omega)))), (fun b g1 g2 => Decidable.byCases (p := b = y2) (fun e => Or.inl (by rw [e]; exact (by rw [← hw27]; exact (e_up_ne _ _ (Or.inr (by omega))).trans (by rw [← hw13]; exact e_up_eq _ _ _ _)))) (fun e => by rw [show w27 276 (36 * b + 20) = v1 276 (36 * b + 20) from (by rw [← hw27]; exact (e_up_ne _ _ (Or.inr (by omega))).trans (by rw [← hw13]; exact (e_up_ne _ _ (Or.inr (by omega))).trans rfl))]; exact j7 b g1 g2))⟩ (by omega))
          exact ⟨rfl, rfl, rfl, trivial⟩
  refine e_Ok.sub eAlk (e_sub_of rfl ?_) (hL1 (5 + 1 : Int).toNat 0 w ⟨(e_fr.refl w), hT, by omega, (fun b g1 g2 => by omega), (fun b g1 g2 => Or.inr rfl)⟩ (by omega))
  exact ⟨rfl, rfl, rfl, trivial⟩
theorem no_55_1 {k : Int} : ¬ mE 275 k := by unfold mE; omega
theorem no_55_2 {a : Int} (ha : 0 ≤ a ∧ a ≤ 3) : ¬ mE 276 (36 * a + 25) := by unfold mE; omega
theorem no_55_3 {b : Int} (hb : 0 ≤ b ∧ b ≤ 3) : ¬ mE 276 (36 * b + 22) := by unfold mE; omega
theorem su_55_8 {c k : Int} (q : mE c k) : mBM c k := by
  unfold mE at q
  rcases q with ⟨q, (q | q)⟩
  · exact ⟨(by omega), Or.inl (by omega)⟩
  · exact ⟨(by omega), Or.inr (Or.inl (by omega))⟩
theorem c_383 {d : Nat} (hd : 21 ≤ d) {w : eW} (hT : e_Has mTy w) {a : Int} (ha : 0 ≤ a ∧ a ≤ 3) (hE : w 276 5 ≤ 2147483646) : e_Ok 20 elay ecode eI d 383 (0, [(0, (1, 275)), (1, (0, a))], [], w) (fun r w' => r = [] ∧ e_fr mBM w w' ∧ e_Has mTy w' ∧ w 276 5 ≤ w' 276 5 ∧ w' 276 5 ≤ w 276 5 + 1 ∧ (w 276 (36 * a + 16) = 1 → w' 276 (36 * a + 22) = 0) ∧ (∀ b, 0 ≤ b → b ≤ 3 → (w 276 (36 * a + 16) ≠ 1 ∨ b ≠ a) → w' 276 (36 * b + 22) = w 276 (36 * b + 22))) := by
  obtain ⟨d, rfl⟩ : ∃ e, d = e + 1 := ⟨d - 1, by omega⟩
  refine e_Ok.run (t' := (1, [(0, (1, 275)), (1, (0, a))], [(0, a)], w)) 1 rfl ?_
  refine e_Ok.callS rfl (by omega) rfl rfl (c_268 (by omega)) (fun r1 w2 h3 => ?_)
  obtain ⟨rfl, rfl⟩ := h3
  show e_Ok 20 elay ecode eI (d + 1) 383 (4, [(0, (1, 275)), (1, (0, a))], [(0, 36 * a + 16)], w) _
  refine e_Ok.run (t' := (6, [(2, (0, 36 * a + 16)), (0, (1, 275)), (1, (0, a))], [(1, 275)], w)) 2 rfl ?_
  refine e_Ok.getr (z := 276) rfl (el_o rfl) rfl rfl (e_Has.eq hT rfl) (by omega) ?_
  refine e_Ok.run (t' := (11, [(2, (0, 36 * a + 16)), (0, (1, 275)), (1, (0, a))], [(0, 0), (0, 36 * a + 16), (1, 276)], w)) 2 rfl ?_
  refine e_Ok.add (z := 36 * a + 16) rfl (by omega) (by omega) ?_
  have h4 := (e_Has.get hT (c := 276) (k := 36 * a + 16) (lo := 0) (hi := 2) (nR_STATE (a := a) (by omega)) (by decide))
  refine e_Ok.ald (z := w 276 (36 * a + 16)) rfl (el_o rfl) rfl (by omega) rfl (by omega) ?_
  refine e_Ok.run (t' := (14, [(2, (0, 36 * a + 16)), (0, (1, 275)), (1, (0, a))], [(0, 1), (0, w 276 (36 * a + 16))], w)) 1 rfl ?_
  refine e_Ok.if2 rfl (fun h5 => ?_) (fun h5 => ?_)
  · replace h5 : (w 276 (36 * a + 16) : Int) ≠ 1 := h5
    refine e_Ok.rets rfl rfl ?_
    have e6 : w 276 5 = w 276 5 := rfl
    exact ⟨rfl, (e_fr.refl w), hT, by omega, by omega, (fun e => absurd e (by omega)), (fun b g1 g2 g3 => rfl)⟩
  · replace h5 : (w 276 (36 * a + 16) : Int) = 1 := by have q : ¬ ((w 276 (36 * a + 16) : Int) ≠ 1) := h5; omega
    refine e_Ok.run (t' := (22, [(2, (0, 36 * a + 16)), (0, (1, 275)), (1, (0, a))], [(0, 0), (0, a), (0, 9), (1, 275)], w)) 4 rfl ?_
    refine e_Ok.callV rfl (by omega) rfl rfl rfl rfl (c_319 hT (by omega) (by omega) (by omega) (by omega)) (fun r7 w8 h9 => ?_)
    obtain ⟨rfl, q10, q10T, q10n⟩ := h9
    have f11 : e_fr mBM w w8 := e_fr.trans (e_fr.refl w) (e_fr.mono q10 (fun c k q => su_55_8 q))
    show e_Ok 20 elay ecode eI (d + 1) 383 (25, [(2, (0, 36 * a + 16)), (0, (1, 275)), (1, (0, a))], [], w8) _
    refine e_Ok.run (t' := (26, [(2, (0, 36 * a + 16)), (0, (1, 275)), (1, (0, a))], [(1, 275)], w8)) 1 rfl ?_
    refine e_Ok.getr (z := 276) rfl (el_o rfl) rfl rfl ((q10 275 0 no_55_1).trans (e_Has.eq hT rfl)) (by omega) ?_
    refine e_Ok.run (t' := (32, [(2, (0, 36 * a + 16)), (0, (1, 275)), (1, (0, a))], [(0, 9), (0, 36 * a + 16), (1, 276)], w8)) 2 rfl ?_
    refine e_Ok.add (z := 36 * a + 25) rfl (by omega) (by omega) ?_
    have h12 := (e_Has.get hT (c := 276) (k := 36 * a + 25) (lo := (-1)) (hi := 15) (nR_MOVER (a := a) (by omega)) (by decide))
    refine e_Ok.ald (z := w 276 (36 * a + 25)) rfl (el_o rfl) rfl (by omega) ((q10 276 (36 * a + 25) (by first | exact no_55_2 (by omega) | (unfold mE; omega))).trans rfl) (by omega) ?_
    refine e_Ok.if1 rfl (fun h13 => ?_) (fun h13 => ?_)
    · replace h13 : (w 276 (36 * a + 25) : Int) < 0 := h13
      refine e_Ok.run (t' := (59, [(2, (0, 36 * a + 16)), (0, (1, 275)), (1, (0, a))], [(1, 275)], w8)) 1 rfl ?_
      refine e_Ok.getr (z := 276) rfl (el_o rfl) rfl rfl ((q10 275 0 no_55_1).trans (e_Has.eq hT rfl)) (by omega) ?_
      refine e_Ok.run (t' := (65, [(2, (0, 36 * a + 16)), (0, (1, 275)), (1, (0, a))], [(0, 9), (0, 36 * a + 16), (1, 276)], w8)) 2 rfl ?_
      refine e_Ok.add (z := 36 * a + 25) rfl (by omega) (by omega) ?_
      refine e_Ok.run (t' := (67, [(2, (0, 36 * a + 16)), (0, (1, 275)), (1, (0, a))], [(0, (-1)), (0, 36 * a + 25), (1, 276)], w8)) 1 rfl ?_
      refine e_Ok.ast rfl (el_o rfl) rfl rfl (by omega) ?_
      generalize hw14 : e_up w8 276 (36 * a + 25) (-1) = w14
      have f15 : e_fr mBM w w14 := e_fr.up f11 hw14 (by unfold mBM; omega)
      have hT16 : e_Has mTy w14 := e_Has.upr q10T hw14 (nR_MOVER (a := a) (by omega)) (by omega)
      refine e_Ok.run (t' := (69, [(2, (0, 36 * a + 16)), (0, (1, 275)), (1, (0, a))], [(1, 275)], w14)) 1 rfl ?_
      refine e_Ok.getr (z := 276) rfl (el_o rfl) rfl rfl (by rw [← hw14]; exact (e_up_ne _ _ (Or.inl (by omega))).trans ((q10 275 0 no_55_1).trans (e_Has.eq hT rfl))) (by omega) ?_
      refine e_Ok.run (t' := (75, [(2, (0, 36 * a + 16)), (0, (1, 275)), (1, (0, a))], [(0, 6), (0, 36 * a + 16), (1, 276)], w14)) 2 rfl ?_
      refine e_Ok.add (z := 36 * a + 22) rfl (by omega) (by omega) ?_
      refine e_Ok.run (t' := (77, [(2, (0, 36 * a + 16)), (0, (1, 275)), (1, (0, a))], [(0, 0), (0, 36 * a + 22), (1, 276)], w14)) 1 rfl ?_
      refine e_Ok.ast rfl (el_o rfl) rfl rfl (by omega) ?_
      generalize hw17 : e_up w14 276 (36 * a + 22) 0 = w17
      have f18 : e_fr mBM w w17 := e_fr.up f15 hw17 (by unfold mBM; omega)
      have hT19 : e_Has mTy w17 := e_Has.upr hT16 hw17 (nR_TRAVELS (a := a) (by omega)) (by omega)
      refine e_Ok.rets rfl rfl ?_
      have e20 : w17 276 5 = w8 276 5 := (by rw [← hw17]; exact (e_up_ne _ _ (Or.inr (by omega))).trans (by rw [← hw14]; exact (e_up_ne _ _ (Or.inr (by omega))).trans rfl))
      exact ⟨rfl, f18, hT19, by omega, by omega, (fun e => (by rw [← hw17]; exact e_up_eq _ _ _ _)), (fun b g1 g2 g3 => (by rw [← hw17]; exact (e_up_ne _ _ (Or.inr (by omega))).trans (by rw [← hw14]; exact (e_up_ne _ _ (Or.inr (by omega))).trans ((q10 276 (36 * b + 22) (by first | exact no_55_3 (by omega) | (unfold mE; omega))).trans rfl))))⟩
    · replace h13 : (w 276 (36 * a + 25) : Int) ≥ 0 := by have q : ¬ ((w 276 (36 * a + 25) : Int) < 0) := h13; omega
      refine e_Ok.run (t' := (38, [(2, (0, 36 * a + 16)), (0, (1, 275)), (1, (0, a))], [(1, 275)], w8)) 1 rfl ?_
      refine e_Ok.getr (z := 276) rfl (el_o rfl) rfl rfl ((q10 275 0 no_55_1).trans (e_Has.eq hT rfl)) (by omega) ?_
      refine e_Ok.run (t' := (42, [(2, (0, 36 * a + 16)), (0, (1, 275)), (1, (0, a))], [(1, 275), (1, 276)], w8)) 1 rfl ?_
      refine e_Ok.getr (z := 276) rfl (el_o rfl) rfl rfl ((q10 275 0 no_55_1).trans (e_Has.eq hT rfl)) (by omega) ?_
      refine e_Ok.run (t' := (48, [(2, (0, 36 * a + 16)), (0, (1, 275)), (1, (0, a))], [(0, 9), (0, 36 * a + 16), (1, 276), (1, 276)], w8)) 2 rfl ?_
      refine e_Ok.add (z := 36 * a + 25) rfl (by omega) (by omega) ?_
      refine e_Ok.ald (z := w 276 (36 * a + 25)) rfl (el_o rfl) rfl (by omega) ((q10 276 (36 * a + 25) (by first | exact no_55_2 (by omega) | (unfold mE; omega))).trans rfl) (by omega) ?_
      refine e_Ok.callS rfl (by omega) rfl rfl (c_269 (by omega)) (fun r21 w22 h23 => ?_)
      obtain ⟨rfl, rfl⟩ := h23
      show e_Ok 20 elay ecode eI (d + 1) 383 (53, [(2, (0, 36 * a + 16)), (0, (1, 275)), (1, (0, a))], [(0, 1260 * w 276 (36 * a + 25) + 416), (1, 276)], w8) _
      refine e_Ok.run (t' := (55, [(2, (0, 36 * a + 16)), (0, (1, 275)), (1, (0, a))], [(0, 7), (0, 1260 * w 276 (36 * a + 25) + 416), (1, 276)], w8)) 1 rfl ?_
      refine e_Ok.add (z := 1260 * w 276 (36 * a + 25) + 423) rfl (by omega) (by omega) ?_
      refine e_Ok.run (t' := (57, [(2, (0, 36 * a + 16)), (0, (1, 275)), (1, (0, a))], [(0, 1), (0, 1260 * w 276 (36 * a + 25) + 423), (1, 276)], w8)) 1 rfl ?_
      refine e_Ok.ast rfl (el_o rfl) rfl rfl (by omega) ?_
      generalize hw24 : e_up w8 276 (1260 * w 276 (36 * a + 25) + 423) 1 = w24
      have f25 : e_fr mBM w w24 := e_fr.up f11 hw24 (by unfold mBM; omega)
      have hT26 : e_Has mTy w24 := e_Has.upr q10T hw24 (nR_BROKEN (t := w 276 (36 * a + 25)) (by omega)) (by omega)
      refine e_Ok.run (t' := (59, [(2, (0, 36 * a + 16)), (0, (1, 275)), (1, (0, a))], [(1, 275)], w24)) 1 rfl ?_
      refine e_Ok.getr (z := 276) rfl (el_o rfl) rfl rfl (by rw [← hw24]; exact (e_up_ne _ _ (Or.inl (by omega))).trans ((q10 275 0 no_55_1).trans (e_Has.eq hT rfl))) (by omega) ?_
      refine e_Ok.run (t' := (65, [(2, (0, 36 * a + 16)), (0, (1, 275)), (1, (0, a))], [(0, 9), (0, 36 * a + 16), (1, 276)], w24)) 2 rfl ?_
      refine e_Ok.add (z := 36 * a + 25) rfl (by omega) (by omega) ?_
      refine e_Ok.run (t' := (67, [(2, (0, 36 * a + 16)), (0, (1, 275)), (1, (0, a))], [(0, (-1)), (0, 36 * a + 25), (1, 276)], w24)) 1 rfl ?_
      refine e_Ok.ast rfl (el_o rfl) rfl rfl (by omega) ?_
      generalize hw27 : e_up w24 276 (36 * a + 25) (-1) = w27
      have f28 : e_fr mBM w w27 := e_fr.up f25 hw27 (by unfold mBM; omega)
      have hT29 : e_Has mTy w27 := e_Has.upr hT26 hw27 (nR_MOVER (a := a) (by omega)) (by omega)
      refine e_Ok.run (t' := (69, [(2, (0, 36 * a + 16)), (0, (1, 275)), (1, (0, a))], [(1, 275)], w27)) 1 rfl ?_
      refine e_Ok.getr (z := 276) rfl (el_o rfl) rfl rfl (by rw [← hw27]; exact (e_up_ne _ _ (Or.inl (by omega))).trans (by rw [← hw24]; exact (e_up_ne _ _ (Or.inl (by omega))).trans ((q10 275 0 no_55_1).trans (e_Has.eq hT rfl)))) (by omega) ?_
      refine e_Ok.run (t' := (75, [(2, (0, 36 * a + 16)), (0, (1, 275)), (1, (0, a))], [(0, 6), (0, 36 * a + 16), (1, 276)], w27)) 2 rfl ?_
      refine e_Ok.add (z := 36 * a + 22) rfl (by omega) (by omega) ?_
      refine e_Ok.run (t' := (77, [(2, (0, 36 * a + 16)), (0, (1, 275)), (1, (0, a))], [(0, 0), (0, 36 * a + 22), (1, 276)], w27)) 1 rfl ?_
      refine e_Ok.ast rfl (el_o rfl) rfl rfl (by omega) ?_
      generalize hw30 : e_up w27 276 (36 * a + 22) 0 = w30
      have f31 : e_fr mBM w w30 := e_fr.up f28 hw30 (by unfold mBM; omega)
      have hT32 : e_Has mTy w30 := e_Has.upr hT29 hw30 (nR_TRAVELS (a := a) (by omega)) (by omega)
      refine e_Ok.rets rfl rfl ?_
      have e33 : w30 276 5 = w8 276 5 := (by rw [← hw30]; exact (e_up_ne _ _ (Or.inr (by omega))).trans (by rw [← hw27]; exact (e_up_ne _ _ (Or.inr (by omega))).trans (by rw [← hw24]; exact (e_up_ne _ _ (Or.inr (by omega))).trans rfl)))
      exact ⟨rfl, f31, hT32, by omega, by omega, (fun e => (by rw [← hw30]; exact e_up_eq _ _ _ _)), (fun b g1 g2 g3 => (by rw [← hw30]; exact (e_up_ne _ _ (Or.inr (by omega))).trans (by rw [← hw27]; exact (e_up_ne _ _ (Or.inr (by omega))).trans (by rw [← hw24]; exact (e_up_ne _ _ (Or.inr (by omega))).trans ((q10 276 (36 * b + 22) (by first | exact no_55_3 (by omega) | (unfold mE; omega))).trans rfl)))))⟩
theorem no_55_4 {k : Int} : ¬ mBM 275 k := by unfold mBM; omega
theorem no_55_5 {b : Int} (hb : 0 ≤ b ∧ b ≤ 3) : ¬ mBM 276 (36 * b + 16) := by unfold mBM; omega
theorem su_55_9 {c k : Int} (q : mBM c k) : mBr c k := by
  unfold mBM at q
  rcases q with ⟨q, (q | q | ⟨q, (⟨q, (q | q)⟩)⟩ | ⟨q, ⟨q, q⟩⟩)⟩
  · exact ⟨(by omega), Or.inl (by omega)⟩
  · exact ⟨(by omega), Or.inr (Or.inl (by omega))⟩
  · exact ⟨(by omega), Or.inr (Or.inr (Or.inl ⟨(by omega), ⟨(by omega), Or.inl (by omega)⟩⟩))⟩
  · unfold mBr; omega
  · exact ⟨(by omega), Or.inr (Or.inr (Or.inr (Or.inl ⟨(by omega), ⟨(by omega), (by omega)⟩⟩)))⟩
theorem c_384 {d : Nat} (hd : 22 ≤ d) {w : eW} (hT : e_Has mTy w) {a : Int} (ha : 0 ≤ a ∧ a ≤ 3) (hE : w 276 5 ≤ 2147483646) : e_Ok 20 elay ecode eI d 384 (0, [(0, (1, 275)), (1, (0, a))], [], w) (fun r w' => r = [] ∧ e_fr mBr w w' ∧ e_Has mTy w' ∧ (w 276 5 ≤ w' 276 5 ∧ w' 276 5 ≤ w 276 5 + 1) ∧ sRel w w') := by
  obtain ⟨d, rfl⟩ : ∃ e, d = e + 1 := ⟨d - 1, by omega⟩
  refine e_Ok.run (t' := (1, [(0, (1, 275)), (1, (0, a))], [(1, 275)], w)) 1 rfl ?_
  refine e_Ok.getr (z := 276) rfl (el_o rfl) rfl rfl (e_Has.eq hT rfl) (by omega) ?_
  refine e_Ok.run (t' := (5, [(0, (1, 275)), (1, (0, a))], [(0, a), (1, 276)], w)) 1 rfl ?_
  refine e_Ok.callS rfl (by omega) rfl rfl (c_268 (by omega)) (fun r1 w2 h3 => ?_)
  obtain ⟨rfl, rfl⟩ := h3
  show e_Ok 20 elay ecode eI (d + 1) 384 (8, [(0, (1, 275)), (1, (0, a))], [(0, 36 * a + 16), (1, 276)], w) _
  refine e_Ok.run (t' := (9, [(0, (1, 275)), (1, (0, a))], [(0, 0), (0, 36 * a + 16), (1, 276)], w)) 1 rfl ?_
  refine e_Ok.add (z := 36 * a + 16) rfl (by omega) (by omega) ?_
  have h4 := (e_Has.get hT (c := 276) (k := 36 * a + 16) (lo := 0) (hi := 2) (nR_STATE (a := a) (by omega)) (by decide))
  refine e_Ok.ald (z := w 276 (36 * a + 16)) rfl (el_o rfl) rfl (by omega) rfl (by omega) ?_
  refine e_Ok.run (t' := (12, [(0, (1, 275)), (1, (0, a))], [(0, 1), (0, w 276 (36 * a + 16))], w)) 1 rfl ?_
  refine e_Ok.if2 rfl (fun h5 => ?_) (fun h5 => ?_)
  · replace h5 : (w 276 (36 * a + 16) : Int) ≠ 1 := h5
    refine e_Ok.rets rfl rfl ?_
    have e6 : w 276 5 = w 276 5 := rfl
    have e7 : w 276 (36 * a + 16) = w 276 (36 * a + 16) := rfl
    exact ⟨rfl, (e_fr.refl w), hT, by omega, fun b g1 g2 => Or.inl ⟨rfl, rfl⟩⟩
  · replace h5 : (w 276 (36 * a + 16) : Int) = 1 := by have q : ¬ ((w 276 (36 * a + 16) : Int) ≠ 1) := h5; omega
    refine e_Ok.run (t' := (17, [(0, (1, 275)), (1, (0, a))], [(0, a), (1, 275)], w)) 2 rfl ?_
    refine e_Ok.callV rfl (by omega) rfl rfl rfl rfl (c_383 (by omega) hT (by omega) (by omega)) (fun r8 w9 h10 => ?_)
    obtain ⟨rfl, q11, q11T, q11n, q11m, q11a, q11b⟩ := h10
    have f12 : e_fr mBr w w9 := e_fr.trans (e_fr.refl w) (e_fr.mono q11 (fun c k q => su_55_9 q))
    show e_Ok 20 elay ecode eI (d + 1) 384 (20, [(0, (1, 275)), (1, (0, a))], [], w9) _
    refine e_Ok.run (t' := (21, [(0, (1, 275)), (1, (0, a))], [(1, 275)], w9)) 1 rfl ?_
    refine e_Ok.getr (z := 276) rfl (el_o rfl) rfl rfl ((q11 275 0 no_55_4).trans (e_Has.eq hT rfl)) (by omega) ?_
    refine e_Ok.run (t' := (25, [(0, (1, 275)), (1, (0, a))], [(0, a), (1, 276)], w9)) 1 rfl ?_
    refine e_Ok.callS rfl (by omega) rfl rfl (c_268 (by omega)) (fun r13 w14 h15 => ?_)
    obtain ⟨rfl, rfl⟩ := h15
    show e_Ok 20 elay ecode eI (d + 1) 384 (28, [(0, (1, 275)), (1, (0, a))], [(0, 36 * a + 16), (1, 276)], w9) _
    refine e_Ok.run (t' := (29, [(0, (1, 275)), (1, (0, a))], [(0, 0), (0, 36 * a + 16), (1, 276)], w9)) 1 rfl ?_
    refine e_Ok.add (z := 36 * a + 16) rfl (by omega) (by omega) ?_
    refine e_Ok.run (t' := (31, [(0, (1, 275)), (1, (0, a))], [(0, 2), (0, 36 * a + 16), (1, 276)], w9)) 1 rfl ?_
    refine e_Ok.ast rfl (el_o rfl) rfl rfl (by omega) ?_
    generalize hw16 : e_up w9 276 (36 * a + 16) 2 = w16
    have f17 : e_fr mBr w w16 := e_fr.up f12 hw16 (by unfold mBr; omega)
    have hT18 : e_Has mTy w16 := e_Has.upr q11T hw16 (nR_STATE (a := a) (by omega)) (by omega)
    refine e_Ok.rets rfl rfl ?_
    have e19 : w16 276 5 = w9 276 5 := (by rw [← hw16]; exact (e_up_ne _ _ (Or.inr (by omega))).trans rfl)
    have e20 : w16 276 (36 * a + 16) = 2 := (by rw [← hw16]; exact e_up_eq _ _ _ _)
    exact ⟨rfl, f17, hT18, by omega, fun b g1 g2 => Decidable.byCases (p := b = a) (fun e => Or.inr (by rw [e]; exact ⟨by omega, (by rw [← hw16]; exact e_up_eq _ _ _ _), Eq.trans (by rw [← hw16]; exact (e_up_ne _ _ (Or.inr (by omega))).trans rfl) (q11a (by omega))⟩)) (fun e => Or.inl ⟨(by rw [← hw16]; exact (e_up_ne _ _ (Or.inr (by omega))).trans ((q11 276 (36 * b + 16) (by first | exact no_55_5 (by omega) | (unfold mBM; omega))).trans rfl)), Eq.trans (by rw [← hw16]; exact (e_up_ne _ _ (Or.inr (by omega))).trans rfl) (q11b b g1 g2 (Or.inr e))⟩)⟩
theorem c_399 {d : Nat} {w : eW} (hT : e_Has mTy w) {a : Int} (ha : 0 ≤ a ∧ a ≤ 7) : e_Ok 20 elay ecode eI d 399 (0, [(0, (1, 275)), (1, (0, a))], [], w) (fun r w' => ∃ z : Int, r = [(0, z)] ∧ w = w' ∧ 0 ≤ z ∧ z ≤ 1) := by
  refine e_Ok.run (t' := (5, [(0, (1, 275)), (1, (0, a))], [(0, a), (0, 4), (0, 20836)], w)) 3 rfl ?_
  refine e_Ok.mul (z := 4 * a) rfl (by omega) (by omega) ?_
  refine e_Ok.add (z := 4 * a + 20836) rfl (by omega) (by omega) ?_
  refine e_Ok.run (t' := (9, [(2, (0, 4 * a + 20836)), (0, (1, 275)), (1, (0, a))], [(1, 275)], w)) 2 rfl ?_
  refine e_Ok.getr (z := 276) rfl (el_o rfl) rfl rfl (e_Has.eq hT rfl) (by omega) ?_
  refine e_Ok.run (t' := (13, [(2, (0, 4 * a + 20836)), (0, (1, 275)), (1, (0, a))], [(0, 4 * a + 20836), (1, 276)], w)) 1 rfl ?_
  have h1 := (e_Has.get hT (c := 276) (k := 4 * a + 20836) (lo := 0) (hi := 1) (nR_INPUT (i := a) (f := 0) (by omega) (by decide)) (by decide))
  refine e_Ok.ald (z := w 276 (4 * a + 20836)) rfl (el_o rfl) rfl (by omega) rfl (by omega) ?_
  refine e_Ok.run (t' := (15, [(2, (0, 4 * a + 20836)), (0, (1, 275)), (1, (0, a))], [(0, 1), (0, w 276 (4 * a + 20836))], w)) 1 rfl ?_
  refine e_Ok.if2 rfl (fun h2 => ?_) (fun h2 => ?_)
  · replace h2 : (w 276 (4 * a + 20836) : Int) ≠ 1 := h2
    refine e_Ok.run (t' := (46, [(2, (0, 4 * a + 20836)), (0, (1, 275)), (1, (0, a))], [(0, 0)], w)) 1 rfl ?_
    refine e_Ok.rets rfl rfl ?_
    exact ⟨_, rfl, rfl, by omega, by omega⟩
  · replace h2 : (w 276 (4 * a + 20836) : Int) = 1 := by have q : ¬ ((w 276 (4 * a + 20836) : Int) ≠ 1) := h2; omega
    refine e_Ok.run (t' := (19, [(2, (0, 4 * a + 20836)), (0, (1, 275)), (1, (0, a))], [(1, 275)], w)) 1 rfl ?_
    refine e_Ok.getr (z := 276) rfl (el_o rfl) rfl rfl (e_Has.eq hT rfl) (by omega) ?_
    refine e_Ok.run (t' := (24, [(2, (0, 4 * a + 20836)), (0, (1, 275)), (1, (0, a))], [(0, 1), (0, 4 * a + 20836), (1, 276)], w)) 2 rfl ?_
    refine e_Ok.add (z := 4 * a + 20837) rfl (by omega) (by omega) ?_
    have h3 := (e_Has.get hT (c := 276) (k := 4 * a + 20837) (lo := 0) (hi := 1) (nR_INPUT (i := a) (f := 1) (by omega) (by decide)) (by decide))
    refine e_Ok.ald (z := w 276 (4 * a + 20837)) rfl (el_o rfl) rfl (by omega) rfl (by omega) ?_
    refine e_Ok.run (t' := (27, [(2, (0, 4 * a + 20836)), (0, (1, 275)), (1, (0, a))], [(0, 1), (0, w 276 (4 * a + 20837))], w)) 1 rfl ?_
    refine e_Ok.if2 rfl (fun h4 => ?_) (fun h4 => ?_)
    · replace h4 : (w 276 (4 * a + 20837) : Int) ≠ 1 := h4
      refine e_Ok.run (t' := (46, [(2, (0, 4 * a + 20836)), (0, (1, 275)), (1, (0, a))], [(0, 0)], w)) 1 rfl ?_
      refine e_Ok.rets rfl rfl ?_
      exact ⟨_, rfl, rfl, by omega, by omega⟩
    · replace h4 : (w 276 (4 * a + 20837) : Int) = 1 := by have q : ¬ ((w 276 (4 * a + 20837) : Int) ≠ 1) := h4; omega
      refine e_Ok.run (t' := (31, [(2, (0, 4 * a + 20836)), (0, (1, 275)), (1, (0, a))], [(1, 275)], w)) 1 rfl ?_
      refine e_Ok.getr (z := 276) rfl (el_o rfl) rfl rfl (e_Has.eq hT rfl) (by omega) ?_
      refine e_Ok.run (t' := (36, [(2, (0, 4 * a + 20836)), (0, (1, 275)), (1, (0, a))], [(0, 3), (0, 4 * a + 20836), (1, 276)], w)) 2 rfl ?_
      refine e_Ok.add (z := 4 * a + 20839) rfl (by omega) (by omega) ?_
      have h5 := (e_Has.get hT (c := 276) (k := 4 * a + 20839) (lo := 0) (hi := 1) (nR_INPUT (i := a) (f := 3) (by omega) (by decide)) (by decide))
      refine e_Ok.ald (z := w 276 (4 * a + 20839)) rfl (el_o rfl) rfl (by omega) rfl (by omega) ?_
      have hJ8 : ∀ m7 : Int, 0 ≤ m7 ∧ m7 ≤ 1 → e_Ok 20 elay ecode eI d 399 (46, [(2, (0, 4 * a + 20836)), (0, (1, 275)), (1, (0, a))], [(0, m7)], w) (fun r w' => ∃ z : Int, r = [(0, z)] ∧ w = w' ∧ 0 ≤ z ∧ z ≤ 1) := by
        intro m7 m7r
        refine e_Ok.retb rfl (by omega) ?_
        exact ⟨_, rfl, rfl, by omega, by omega⟩
      refine e_Ok.if1 rfl (fun h6 => ?_) (fun h6 => ?_)
      · exact e_Ok.run 1 rfl (hJ8 0 (by omega))
      · exact e_Ok.run 2 rfl (hJ8 1 (by omega))
theorem c_400 {d : Nat} (hd : 21 ≤ d) {w : eW} (hT : e_Has mTy w) : e_Ok 20 elay ecode eI d 400 (0, [(0, (1, 275))], [], w) (fun r w' => ∃ z : Int, r = [(0, z)] ∧ w = w' ∧ -1 ≤ z ∧ z ≤ 7) := by
  obtain ⟨d, rfl⟩ : ∃ e, d = e + 1 := ⟨d - 1, by omega⟩
  refine e_Ok.run (t' := (2, [(1, (0, 0)), (0, (1, 275))], [], w)) 2 rfl ?_
  have hL1 : ∀ (nn : Nat) (y1 : Int), 0 ≤ y1 ∧ y1 ≤ 8 → 9 - y1 < nn → e_Ok 20 elay ecode eI (d + 1) 400 (2, [(0, (1, 275)), (1, (0, y1))], [], w) (fun r w' => ∃ z : Int, r = [(0, z)] ∧ w = w' ∧ -1 ≤ z ∧ z ≤ 7) := by
    intro nn
    induction nn with
    | zero => intro y1 hj hm; obtain j3 := hj; exfalso; omega
    | succ nn ih2 =>
      intro y1 hj hm
      obtain j3 := hj
      refine e_Ok.run (t' := (4, [(0, (1, 275)), (1, (0, y1))], [(1, 275), (0, y1)], w)) 2 rfl ?_
      have h4 := (e_Has.get hT (c := 275) (k := 49) (lo := 0) (hi := 8) rfl (by decide))
      refine e_Ok.getf (z := w 275 49) rfl (el_o rfl) rfl rfl rfl (by omega) ?_
      refine e_Ok.if2 rfl (fun h5 => ?_) (fun h5 => ?_)
      · replace h5 : (y1 : Int) ≥ w 275 49 := h5
        refine e_Ok.run (t' := (27, [(0, (1, 275)), (1, (0, y1))], [(0, (-1))], w)) 1 rfl ?_
        refine e_Ok.rets rfl rfl ?_
        exact ⟨_, rfl, rfl, by omega, by omega⟩
      · replace h5 : (y1 : Int) < w 275 49 := by have q : ¬ ((y1 : Int) ≥ w 275 49) := h5; omega
        refine e_Ok.run (t' := (12, [(0, (1, 275)), (1, (0, y1))], [(0, y1), (1, 275)], w)) 2 rfl ?_
        refine e_Ok.callV rfl (by omega) rfl rfl rfl rfl (c_399 hT (by omega)) (fun r6 w7 h8 => ?_)
        obtain ⟨z9, rfl, rfl, q10a, q10b⟩ := h8
        show e_Ok 20 elay ecode eI (d + 1) 400 (15, [(0, (1, 275)), (1, (0, y1))], [(0, z9)], w) _
        refine e_Ok.if1 rfl (fun h11 => ?_) (fun h11 => ?_)
        · replace h11 : (z9 : Int) ≠ 0 := h11
          refine e_Ok.inc (z := y1 + 1) rfl rfl (by omega) (by omega) ?_
          show e_Ok 20 elay ecode eI (d + 1) 400 (23, [(1, (0, y1 + 1)), (0, (1, 275))], [], w) _
          refine e_Ok.run (t' := (2, [(1, (0, y1 + 1)), (0, (1, 275))], [], w)) 1 rfl ?_
          refine e_Ok.sub eAlk (e_sub_of rfl ?_) (ih2 (y1 + 1) (by omega) (by omega))
          exact ⟨rfl, rfl, trivial⟩
        · replace h11 : (z9 : Int) = 0 := by have q : ¬ ((z9 : Int) ≠ 0) := h11; omega
          refine e_Ok.run (t' := (19, [(0, (1, 275)), (1, (0, y1))], [(0, y1)], w)) 1 rfl ?_
          refine e_Ok.rets rfl rfl ?_
          exact ⟨_, rfl, rfl, by omega, by omega⟩
  refine e_Ok.sub eAlk (e_sub_of rfl ?_) (hL1 (9 + 1 : Int).toNat 0 (by omega) (by omega))
  exact ⟨rfl, rfl, trivial⟩
theorem no_55_6 {k : Int} : ¬ mIn 275 k := by unfold mIn; omega
theorem no_55_7 {k : Int} : ¬ mIn 316 k := by unfold mIn; omega
theorem c_401 {d : Nat} {w : eW} (hT : e_Has mTy w) : e_Ok 20 elay ecode eI d 401 (0, [(0, (1, 275))], [], w) (fun r w' => r = [] ∧ e_fr mIn w w' ∧ e_Has mTy w') := by
  refine e_Ok.run (t' := (2, [(1, (0, 0)), (0, (1, 275))], [], w)) 2 rfl ?_
  have hL1 : ∀ (nn : Nat) (y1 : Int) (v1 : eW), e_fr mIn w v1 ∧ e_Has mTy v1 ∧ (0 ≤ y1 ∧ y1 ≤ 8) → 9 - y1 < nn → e_Ok 20 elay ecode eI d 401 (2, [(0, (1, 275)), (1, (0, y1))], [], v1) (fun r w' => r = [] ∧ e_fr mIn w w' ∧ e_Has mTy w') := by
    intro nn
    induction nn with
    | zero => intro y1 v1 hj hm; obtain ⟨j3, j4, j5⟩ := hj; exfalso; omega
    | succ nn ih2 =>
      intro y1 v1 hj hm
      obtain ⟨j3, j4, j5⟩ := hj
      refine e_Ok.run (t' := (4, [(0, (1, 275)), (1, (0, y1))], [(1, 275), (0, y1)], v1)) 2 rfl ?_
      have h6 := (e_Has.get hT (c := 275) (k := 49) (lo := 0) (hi := 8) rfl (by decide))
      refine e_Ok.getf (z := w 275 49) rfl (el_o rfl) rfl rfl ((j3 275 49 no_55_6).trans rfl) (by omega) ?_
      refine e_Ok.if2 rfl (fun h7 => ?_) (fun h7 => ?_)
      · replace h7 : (y1 : Int) ≥ w 275 49 := h7
        refine e_Ok.rets rfl rfl ?_
        exact ⟨rfl, j3, j4⟩
      · replace h7 : (y1 : Int) < w 275 49 := by have q : ¬ ((y1 : Int) ≥ w 275 49) := h7; omega
        refine e_Ok.run (t' := (15, [(0, (1, 275)), (1, (0, y1))], [(0, y1), (0, 4), (0, 20836)], v1)) 3 rfl ?_
        refine e_Ok.mul (z := 4 * y1) rfl (by omega) (by omega) ?_
        refine e_Ok.add (z := 4 * y1 + 20836) rfl (by omega) (by omega) ?_
        refine e_Ok.run (t' := (19, [(2, (0, 4 * y1 + 20836)), (0, (1, 275)), (1, (0, y1))], [(1, 275)], v1)) 2 rfl ?_
        refine e_Ok.getr (z := 276) rfl (el_o rfl) rfl rfl ((j3 275 0 no_55_6).trans (e_Has.eq hT rfl)) (by omega) ?_
        refine e_Ok.run (t' := (24, [(2, (0, 4 * y1 + 20836)), (0, (1, 275)), (1, (0, y1))], [(0, 2), (0, 4 * y1 + 20836), (1, 276)], v1)) 2 rfl ?_
        refine e_Ok.add (z := 4 * y1 + 20838) rfl (by omega) (by omega) ?_
        refine e_Ok.run (t' := (26, [(2, (0, 4 * y1 + 20836)), (0, (1, 275)), (1, (0, y1))], [(1, 275), (0, 4 * y1 + 20838), (1, 276)], v1)) 1 rfl ?_
        refine e_Ok.getr (z := 276) rfl (el_o rfl) rfl rfl ((j3 275 0 no_55_6).trans (e_Has.eq hT rfl)) (by omega) ?_
        refine e_Ok.run (t' := (30, [(2, (0, 4 * y1 + 20836)), (0, (1, 275)), (1, (0, y1))], [(0, 4 * y1 + 20836), (1, 276), (0, 4 * y1 + 20838), (1, 276)], v1)) 1 rfl ?_
        have h8 := (e_Has.get j4 (c := 276) (k := 4 * y1 + 20836) (lo := 0) (hi := 1) (nR_INPUT (i := y1) (f := 0) (by omega) (by decide)) (by decide))
        refine e_Ok.ald (z := v1 276 (4 * y1 + 20836)) rfl (el_o rfl) rfl (by omega) rfl (by omega) ?_
        refine e_Ok.run (t' := (32, [(2, (0, 4 * y1 + 20836)), (0, (1, 275)), (1, (0, y1))], [(1, 275), (0, v1 276 (4 * y1 + 20836)), (0, 4 * y1 + 20838), (1, 276)], v1)) 1 rfl ?_
        refine e_Ok.getr (z := 276) rfl (el_o rfl) rfl rfl ((j3 275 0 no_55_6).trans (e_Has.eq hT rfl)) (by omega) ?_
        refine e_Ok.run (t' := (37, [(2, (0, 4 * y1 + 20836)), (0, (1, 275)), (1, (0, y1))], [(0, 1), (0, 4 * y1 + 20836), (1, 276), (0, v1 276 (4 * y1 + 20836)), (0, 4 * y1 + 20838), (1, 276)], v1)) 2 rfl ?_
        refine e_Ok.add (z := 4 * y1 + 20837) rfl (by omega) (by omega) ?_
        have h9 := (e_Has.get j4 (c := 276) (k := 4 * y1 + 20837) (lo := 0) (hi := 1) (nR_INPUT (i := y1) (f := 1) (by omega) (by decide)) (by decide))
        refine e_Ok.ald (z := v1 276 (4 * y1 + 20837)) rfl (el_o rfl) rfl (by omega) rfl (by omega) ?_
        refine e_Ok.if2 rfl (fun h10 => ?_) (fun h10 => ?_)
        · replace h10 : (v1 276 (4 * y1 + 20836) : Int) = v1 276 (4 * y1 + 20837) := h10
          refine e_Ok.run (t' := (56, [(2, (0, 4 * y1 + 20836)), (0, (1, 275)), (1, (0, y1))], [(0, 0), (0, 4 * y1 + 20838), (1, 276)], v1)) 1 rfl ?_
          refine e_Ok.ast rfl (el_o rfl) rfl rfl (by omega) ?_
          generalize hw11 : e_up v1 276 (4 * y1 + 20838) 0 = w11
          have f12 : e_fr mIn w w11 := e_fr.up j3 hw11 (by unfold mIn; omega)
          have hT13 : e_Has mTy w11 := e_Has.upr j4 hw11 (nR_INPUT2 (i := y1) (by omega)) (by omega)
          refine e_Ok.run (t' := (58, [(2, (0, 4 * y1 + 20836)), (0, (1, 275)), (1, (0, y1))], [(1, 275)], w11)) 1 rfl ?_
          refine e_Ok.getr (z := 276) rfl (el_o rfl) rfl rfl (by rw [← hw11]; exact (e_up_ne _ _ (Or.inl (by omega))).trans ((j3 275 0 no_55_6).trans (e_Has.eq hT rfl))) (by omega) ?_
          refine e_Ok.run (t' := (63, [(2, (0, 4 * y1 + 20836)), (0, (1, 275)), (1, (0, y1))], [(0, 3), (0, 4 * y1 + 20836), (1, 276)], w11)) 2 rfl ?_
          refine e_Ok.add (z := 4 * y1 + 20839) rfl (by omega) (by omega) ?_
          refine e_Ok.run (t' := (65, [(2, (0, 4 * y1 + 20836)), (0, (1, 275)), (1, (0, y1))], [(1, 275), (0, 4 * y1 + 20839), (1, 276)], w11)) 1 rfl ?_
          refine e_Ok.getr (z := 276) rfl (el_o rfl) rfl rfl (by rw [← hw11]; exact (e_up_ne _ _ (Or.inl (by omega))).trans ((j3 275 0 no_55_6).trans (e_Has.eq hT rfl))) (by omega) ?_
          refine e_Ok.run (t' := (70, [(2, (0, 4 * y1 + 20836)), (0, (1, 275)), (1, (0, y1))], [(0, 2), (0, 4 * y1 + 20836), (1, 276), (0, 4 * y1 + 20839), (1, 276)], w11)) 2 rfl ?_
          refine e_Ok.add (z := 4 * y1 + 20838) rfl (by omega) (by omega) ?_
          refine e_Ok.ald (z := 0) rfl (el_o rfl) rfl (by omega) (by rw [← hw11]; exact e_up_eq _ _ _ _) (by omega) ?_
          refine e_Ok.run (t' := (73, [(2, (0, 4 * y1 + 20836)), (0, (1, 275)), (1, (0, y1))], [(1, 275), (0, 0), (0, 4 * y1 + 20839), (1, 276)], w11)) 1 rfl ?_
          refine e_Ok.getr (z := 316) rfl (el_o rfl) rfl rfl (by rw [← hw11]; exact (e_up_ne _ _ (Or.inl (by omega))).trans ((j3 275 50 no_55_6).trans (e_Has.eq hT rfl))) (by omega) ?_
          refine e_Ok.run (t' := (77, [(2, (0, 4 * y1 + 20836)), (0, (1, 275)), (1, (0, y1))], [(0, y1), (1, 316), (0, 0), (0, 4 * y1 + 20839), (1, 276)], w11)) 1 rfl ?_
          have h14 := (e_Has.get hT (c := 316) (k := y1) (lo := 0) (hi := 1000) rfl (by decide))
          refine e_Ok.ald (z := w 316 y1) rfl (el_o rfl) rfl (by omega) (by rw [← hw11]; exact (e_up_ne _ _ (Or.inl (by omega))).trans ((j3 316 y1 no_55_7).trans rfl)) (by omega) ?_
          refine e_Ok.if2 rfl (fun h15 => ?_) (fun h15 => ?_)
          · replace h15 : (0 : Int) ≤ w 316 y1 := h15
            refine e_Ok.run (t' := (86, [(2, (0, 4 * y1 + 20836)), (0, (1, 275)), (1, (0, y1))], [(1, 275), (0, 4 * y1 + 20839), (1, 276)], w11)) 1 rfl ?_
            refine e_Ok.getr (z := 276) rfl (el_o rfl) rfl rfl (by rw [← hw11]; exact (e_up_ne _ _ (Or.inl (by omega))).trans ((j3 275 0 no_55_6).trans (e_Has.eq hT rfl))) (by omega) ?_
            refine e_Ok.run (t' := (91, [(2, (0, 4 * y1 + 20836)), (0, (1, 275)), (1, (0, y1))], [(0, 3), (0, 4 * y1 + 20836), (1, 276), (0, 4 * y1 + 20839), (1, 276)], w11)) 2 rfl ?_
            refine e_Ok.add (z := 4 * y1 + 20839) rfl (by omega) (by omega) ?_
            have h16 := (e_Has.get j4 (c := 276) (k := 4 * y1 + 20839) (lo := 0) (hi := 1) (nR_INPUT (i := y1) (f := 3) (by omega) (by decide)) (by decide))
            refine e_Ok.ald (z := v1 276 (4 * y1 + 20839)) rfl (el_o rfl) rfl (by omega) (by rw [← hw11]; exact (e_up_ne _ _ (Or.inr (by omega))).trans rfl) (by omega) ?_
            refine e_Ok.ast rfl (el_o rfl) rfl rfl (by omega) ?_
            generalize hw17 : e_up w11 276 (4 * y1 + 20839) (v1 276 (4 * y1 + 20839)) = w17
            have f18 : e_fr mIn w w17 := e_fr.up f12 hw17 (by unfold mIn; omega)
            have hT19 : e_Has mTy w17 := e_Has.upr hT13 hw17 (nR_INPUT (i := y1) (f := 3) (by omega) (by decide)) (by omega)
            refine e_Ok.inc (z := y1 + 1) rfl rfl (by omega) (by omega) ?_
            show e_Ok 20 elay ecode eI d 401 (97, [(1, (0, y1 + 1)), (2, (0, 4 * y1 + 20836)), (0, (1, 275))], [], w17) _
            refine e_Ok.run (t' := (2, [(1, (0, y1 + 1)), (2, (0, 4 * y1 + 20836)), (0, (1, 275))], [], w17)) 1 rfl ?_
            refine e_Ok.sub eAlk (e_sub_of rfl ?_) (ih2 (y1 + 1) w17 ⟨f18, hT19, by omega⟩ (by omega))
            exact ⟨rfl, rfl, trivial⟩
          · replace h15 : (0 : Int) > w 316 y1 := by have q : ¬ ((0 : Int) ≤ w 316 y1) := h15; omega
            exfalso; omega
        · replace h10 : (v1 276 (4 * y1 + 20836) : Int) ≠ v1 276 (4 * y1 + 20837) := by have q : ¬ ((v1 276 (4 * y1 + 20836) : Int) = v1 276 (4 * y1 + 20837)) := h10; omega
          refine e_Ok.run (t' := (43, [(2, (0, 4 * y1 + 20836)), (0, (1, 275)), (1, (0, y1))], [(1, 275), (0, 4 * y1 + 20838), (1, 276)], v1)) 1 rfl ?_
          refine e_Ok.getr (z := 276) rfl (el_o rfl) rfl rfl ((j3 275 0 no_55_6).trans (e_Has.eq hT rfl)) (by omega) ?_
          refine e_Ok.run (t' := (48, [(2, (0, 4 * y1 + 20836)), (0, (1, 275)), (1, (0, y1))], [(0, 2), (0, 4 * y1 + 20836), (1, 276), (0, 4 * y1 + 20838), (1, 276)], v1)) 2 rfl ?_
          refine e_Ok.add (z := 4 * y1 + 20838) rfl (by omega) (by omega) ?_
          have h20 := (e_Has.get j4 (c := 276) (k := 4 * y1 + 20838) (lo := (-2147483648)) (hi := 2147483647) (nR_INPUT2 (i := y1) (by omega)) (by decide))
          refine e_Ok.ald (z := v1 276 (4 * y1 + 20838)) rfl (el_o rfl) rfl (by omega) rfl (by omega) ?_
          refine e_Ok.run (t' := (51, [(2, (0, 4 * y1 + 20836)), (0, (1, 275)), (1, (0, y1))], [(0, 1), (0, v1 276 (4 * y1 + 20838)), (0, 4 * y1 + 20838), (1, 276)], v1)) 1 rfl ?_
          refine e_Ok.any rfl (eF_add_any _ _) (fun z21 z21a z21b => ?_)
          refine e_Ok.run (t' := (56, [(2, (0, 4 * y1 + 20836)), (0, (1, 275)), (1, (0, y1))], [(0, z21), (0, 4 * y1 + 20838), (1, 276)], v1)) 1 rfl ?_
          refine e_Ok.ast rfl (el_o rfl) rfl rfl (by omega) ?_
          generalize hw22 : e_up v1 276 (4 * y1 + 20838) z21 = w22
          have f23 : e_fr mIn w w22 := e_fr.up j3 hw22 (by unfold mIn; omega)
          have hT24 : e_Has mTy w22 := e_Has.upr j4 hw22 (nR_INPUT2 (i := y1) (by omega)) (by omega)
          refine e_Ok.run (t' := (58, [(2, (0, 4 * y1 + 20836)), (0, (1, 275)), (1, (0, y1))], [(1, 275)], w22)) 1 rfl ?_
          refine e_Ok.getr (z := 276) rfl (el_o rfl) rfl rfl (by rw [← hw22]; exact (e_up_ne _ _ (Or.inl (by omega))).trans ((j3 275 0 no_55_6).trans (e_Has.eq hT rfl))) (by omega) ?_
          refine e_Ok.run (t' := (63, [(2, (0, 4 * y1 + 20836)), (0, (1, 275)), (1, (0, y1))], [(0, 3), (0, 4 * y1 + 20836), (1, 276)], w22)) 2 rfl ?_
          refine e_Ok.add (z := 4 * y1 + 20839) rfl (by omega) (by omega) ?_
          refine e_Ok.run (t' := (65, [(2, (0, 4 * y1 + 20836)), (0, (1, 275)), (1, (0, y1))], [(1, 275), (0, 4 * y1 + 20839), (1, 276)], w22)) 1 rfl ?_
          refine e_Ok.getr (z := 276) rfl (el_o rfl) rfl rfl (by rw [← hw22]; exact (e_up_ne _ _ (Or.inl (by omega))).trans ((j3 275 0 no_55_6).trans (e_Has.eq hT rfl))) (by omega) ?_
          refine e_Ok.run (t' := (70, [(2, (0, 4 * y1 + 20836)), (0, (1, 275)), (1, (0, y1))], [(0, 2), (0, 4 * y1 + 20836), (1, 276), (0, 4 * y1 + 20839), (1, 276)], w22)) 2 rfl ?_
          refine e_Ok.add (z := 4 * y1 + 20838) rfl (by omega) (by omega) ?_
          refine e_Ok.ald (z := z21) rfl (el_o rfl) rfl (by omega) (by rw [← hw22]; exact e_up_eq _ _ _ _) (by omega) ?_
          refine e_Ok.run (t' := (73, [(2, (0, 4 * y1 + 20836)), (0, (1, 275)), (1, (0, y1))], [(1, 275), (0, z21), (0, 4 * y1 + 20839), (1, 276)], w22)) 1 rfl ?_
          refine e_Ok.getr (z := 316) rfl (el_o rfl) rfl rfl (by rw [← hw22]; exact (e_up_ne _ _ (Or.inl (by omega))).trans ((j3 275 50 no_55_6).trans (e_Has.eq hT rfl))) (by omega) ?_
          refine e_Ok.run (t' := (77, [(2, (0, 4 * y1 + 20836)), (0, (1, 275)), (1, (0, y1))], [(0, y1), (1, 316), (0, z21), (0, 4 * y1 + 20839), (1, 276)], w22)) 1 rfl ?_
          have h25 := (e_Has.get hT (c := 316) (k := y1) (lo := 0) (hi := 1000) rfl (by decide))
          refine e_Ok.ald (z := w 316 y1) rfl (el_o rfl) rfl (by omega) (by rw [← hw22]; exact (e_up_ne _ _ (Or.inl (by omega))).trans ((j3 316 y1 no_55_7).trans rfl)) (by omega) ?_
          refine e_Ok.if2 rfl (fun h26 => ?_) (fun h26 => ?_)
          · replace h26 : (z21 : Int) ≤ w 316 y1 := h26
            refine e_Ok.run (t' := (86, [(2, (0, 4 * y1 + 20836)), (0, (1, 275)), (1, (0, y1))], [(1, 275), (0, 4 * y1 + 20839), (1, 276)], w22)) 1 rfl ?_
            refine e_Ok.getr (z := 276) rfl (el_o rfl) rfl rfl (by rw [← hw22]; exact (e_up_ne _ _ (Or.inl (by omega))).trans ((j3 275 0 no_55_6).trans (e_Has.eq hT rfl))) (by omega) ?_
            refine e_Ok.run (t' := (91, [(2, (0, 4 * y1 + 20836)), (0, (1, 275)), (1, (0, y1))], [(0, 3), (0, 4 * y1 + 20836), (1, 276), (0, 4 * y1 + 20839), (1, 276)], w22)) 2 rfl ?_
            refine e_Ok.add (z := 4 * y1 + 20839) rfl (by omega) (by omega) ?_
            have h27 := (e_Has.get j4 (c := 276) (k := 4 * y1 + 20839) (lo := 0) (hi := 1) (nR_INPUT (i := y1) (f := 3) (by omega) (by decide)) (by decide))
            refine e_Ok.ald (z := v1 276 (4 * y1 + 20839)) rfl (el_o rfl) rfl (by omega) (by rw [← hw22]; exact (e_up_ne _ _ (Or.inr (by omega))).trans rfl) (by omega) ?_
            refine e_Ok.ast rfl (el_o rfl) rfl rfl (by omega) ?_
            generalize hw28 : e_up w22 276 (4 * y1 + 20839) (v1 276 (4 * y1 + 20839)) = w28
            have f29 : e_fr mIn w w28 := e_fr.up f23 hw28 (by unfold mIn; omega)
            have hT30 : e_Has mTy w28 := e_Has.upr hT24 hw28 (nR_INPUT (i := y1) (f := 3) (by omega) (by decide)) (by omega)
            refine e_Ok.inc (z := y1 + 1) rfl rfl (by omega) (by omega) ?_
            show e_Ok 20 elay ecode eI d 401 (97, [(1, (0, y1 + 1)), (2, (0, 4 * y1 + 20836)), (0, (1, 275))], [], w28) _
            refine e_Ok.run (t' := (2, [(1, (0, y1 + 1)), (2, (0, 4 * y1 + 20836)), (0, (1, 275))], [], w28)) 1 rfl ?_
            refine e_Ok.sub eAlk (e_sub_of rfl ?_) (ih2 (y1 + 1) w28 ⟨f29, hT30, by omega⟩ (by omega))
            exact ⟨rfl, rfl, trivial⟩
          · replace h26 : (z21 : Int) > w 316 y1 := by have q : ¬ ((z21 : Int) ≤ w 316 y1) := h26; omega
            refine e_Ok.run (t' := (93, [(2, (0, 4 * y1 + 20836)), (0, (1, 275)), (1, (0, y1))], [(0, 1), (0, 4 * y1 + 20839), (1, 276)], w22)) 2 rfl ?_
            refine e_Ok.ast rfl (el_o rfl) rfl rfl (by omega) ?_
            generalize hw31 : e_up w22 276 (4 * y1 + 20839) 1 = w31
            have f32 : e_fr mIn w w31 := e_fr.up f23 hw31 (by unfold mIn; omega)
            have hT33 : e_Has mTy w31 := e_Has.upr hT24 hw31 (nR_INPUT (i := y1) (f := 3) (by omega) (by decide)) (by omega)
            refine e_Ok.inc (z := y1 + 1) rfl rfl (by omega) (by omega) ?_
            show e_Ok 20 elay ecode eI d 401 (97, [(1, (0, y1 + 1)), (2, (0, 4 * y1 + 20836)), (0, (1, 275))], [], w31) _
            refine e_Ok.run (t' := (2, [(1, (0, y1 + 1)), (2, (0, 4 * y1 + 20836)), (0, (1, 275))], [], w31)) 1 rfl ?_
            refine e_Ok.sub eAlk (e_sub_of rfl ?_) (ih2 (y1 + 1) w31 ⟨f32, hT33, by omega⟩ (by omega))
            exact ⟨rfl, rfl, trivial⟩
  refine e_Ok.sub eAlk (e_sub_of rfl ?_) (hL1 (9 + 1 : Int).toNat 0 w ⟨(e_fr.refl w), hT, by omega⟩ (by omega))
  exact ⟨rfl, rfl, trivial⟩
theorem c_394 {d : Nat} (hd : 21 ≤ d) {w : eW} (hT : e_Has mTy w) {p x y : Int} (hp : 0 ≤ p ∧ p ≤ 31) (hx : -2147483648 ≤ x ∧ x ≤ 2147483647) (hy : -2147483648 ≤ y ∧ y ≤ 2147483647) : e_Ok 20 elay ecode eI d 394 (0, [(0, (1, 275)), (1, (0, p)), (2, (0, x)), (3, (0, y))], [], w) (fun r w' => r = [] ∧ e_fr (mPa p) w w' ∧ e_Has mTy w' ∧ w' 276 (4 * p + 20576) = 8) := by
  obtain ⟨d, rfl⟩ : ∃ e, d = e + 1 := ⟨d - 1, by omega⟩
  refine e_Ok.run (t' := (1, [(0, (1, 275)), (1, (0, p)), (2, (0, x)), (3, (0, y))], [(1, 275)], w)) 1 rfl ?_
  refine e_Ok.getr (z := 276) rfl (el_o rfl) rfl rfl (e_Has.eq hT rfl) (by omega) ?_
  refine e_Ok.run (t' := (5, [(0, (1, 275)), (1, (0, p)), (2, (0, x)), (3, (0, y))], [(0, p), (1, 276)], w)) 1 rfl ?_
  refine e_Ok.callS rfl (by omega) rfl rfl (c_392 (by omega)) (fun r1 w2 h3 => ?_)
  obtain ⟨rfl, rfl⟩ := h3
  show e_Ok 20 elay ecode eI (d + 1) 394 (8, [(0, (1, 275)), (1, (0, p)), (2, (0, x)), (3, (0, y))], [(0, 4 * p + 20576), (1, 276)], w) _
  refine e_Ok.run (t' := (10, [(0, (1, 275)), (1, (0, p)), (2, (0, x)), (3, (0, y))], [(0, 8), (0, 4 * p + 20576), (1, 276)], w)) 1 rfl ?_
  refine e_Ok.ast rfl (el_o rfl) rfl rfl (by omega) ?_
  generalize hw4 : e_up w 276 (4 * p + 20576) 8 = w4
  have f5 : e_fr (mPa p) w w4 := e_fr.up (e_fr.refl w) hw4 (by unfold mPa; omega)
  have hT6 : e_Has mTy w4 := e_Has.upr hT hw4 (nR_WHERE (p := p) (by omega)) (by omega)
  refine e_Ok.run (t' := (12, [(0, (1, 275)), (1, (0, p)), (2, (0, x)), (3, (0, y))], [(1, 275)], w4)) 1 rfl ?_
  refine e_Ok.getr (z := 276) rfl (el_o rfl) rfl rfl (by rw [← hw4]; exact (e_up_ne _ _ (Or.inl (by omega))).trans (e_Has.eq hT rfl)) (by omega) ?_
  refine e_Ok.run (t' := (16, [(0, (1, 275)), (1, (0, p)), (2, (0, x)), (3, (0, y))], [(0, p), (1, 276)], w4)) 1 rfl ?_
  refine e_Ok.callS rfl (by omega) rfl rfl (c_392 (by omega)) (fun r7 w8 h9 => ?_)
  obtain ⟨rfl, rfl⟩ := h9
  show e_Ok 20 elay ecode eI (d + 1) 394 (19, [(0, (1, 275)), (1, (0, p)), (2, (0, x)), (3, (0, y))], [(0, 4 * p + 20576), (1, 276)], w4) _
  refine e_Ok.run (t' := (20, [(0, (1, 275)), (1, (0, p)), (2, (0, x)), (3, (0, y))], [(0, 1), (0, 4 * p + 20576), (1, 276)], w4)) 1 rfl ?_
  refine e_Ok.add (z := 4 * p + 20577) rfl (by omega) (by omega) ?_
  refine e_Ok.run (t' := (22, [(0, (1, 275)), (1, (0, p)), (2, (0, x)), (3, (0, y))], [(0, x), (0, 4 * p + 20577), (1, 276)], w4)) 1 rfl ?_
  refine e_Ok.ast rfl (el_o rfl) rfl rfl (by omega) ?_
  generalize hw10 : e_up w4 276 (4 * p + 20577) x = w10
  have f11 : e_fr (mPa p) w w10 := e_fr.up f5 hw10 (by unfold mPa; omega)
  have hT12 : e_Has mTy w10 := e_Has.upr hT6 hw10 (nR_PART1 (p := p) (by omega)) (by omega)
  refine e_Ok.run (t' := (24, [(0, (1, 275)), (1, (0, p)), (2, (0, x)), (3, (0, y))], [(1, 275)], w10)) 1 rfl ?_
  refine e_Ok.getr (z := 276) rfl (el_o rfl) rfl rfl (by rw [← hw10]; exact (e_up_ne _ _ (Or.inl (by omega))).trans (by rw [← hw4]; exact (e_up_ne _ _ (Or.inl (by omega))).trans (e_Has.eq hT rfl))) (by omega) ?_
  refine e_Ok.run (t' := (28, [(0, (1, 275)), (1, (0, p)), (2, (0, x)), (3, (0, y))], [(0, p), (1, 276)], w10)) 1 rfl ?_
  refine e_Ok.callS rfl (by omega) rfl rfl (c_392 (by omega)) (fun r13 w14 h15 => ?_)
  obtain ⟨rfl, rfl⟩ := h15
  show e_Ok 20 elay ecode eI (d + 1) 394 (31, [(0, (1, 275)), (1, (0, p)), (2, (0, x)), (3, (0, y))], [(0, 4 * p + 20576), (1, 276)], w10) _
  refine e_Ok.run (t' := (32, [(0, (1, 275)), (1, (0, p)), (2, (0, x)), (3, (0, y))], [(0, 2), (0, 4 * p + 20576), (1, 276)], w10)) 1 rfl ?_
  refine e_Ok.add (z := 4 * p + 20578) rfl (by omega) (by omega) ?_
  refine e_Ok.run (t' := (34, [(0, (1, 275)), (1, (0, p)), (2, (0, x)), (3, (0, y))], [(0, y), (0, 4 * p + 20578), (1, 276)], w10)) 1 rfl ?_
  refine e_Ok.ast rfl (el_o rfl) rfl rfl (by omega) ?_
  generalize hw16 : e_up w10 276 (4 * p + 20578) y = w16
  have f17 : e_fr (mPa p) w w16 := e_fr.up f11 hw16 (by unfold mPa; omega)
  have hT18 : e_Has mTy w16 := e_Has.upr hT12 hw16 (nR_PART2 (p := p) (by omega)) (by omega)
  refine e_Ok.run (t' := (36, [(0, (1, 275)), (1, (0, p)), (2, (0, x)), (3, (0, y))], [(1, 275)], w16)) 1 rfl ?_
  refine e_Ok.getr (z := 276) rfl (el_o rfl) rfl rfl (by rw [← hw16]; exact (e_up_ne _ _ (Or.inl (by omega))).trans (by rw [← hw10]; exact (e_up_ne _ _ (Or.inl (by omega))).trans (by rw [← hw4]; exact (e_up_ne _ _ (Or.inl (by omega))).trans (e_Has.eq hT rfl)))) (by omega) ?_
  refine e_Ok.run (t' := (40, [(0, (1, 275)), (1, (0, p)), (2, (0, x)), (3, (0, y))], [(0, p), (1, 276)], w16)) 1 rfl ?_
  refine e_Ok.callS rfl (by omega) rfl rfl (c_392 (by omega)) (fun r19 w20 h21 => ?_)
  obtain ⟨rfl, rfl⟩ := h21
  show e_Ok 20 elay ecode eI (d + 1) 394 (43, [(0, (1, 275)), (1, (0, p)), (2, (0, x)), (3, (0, y))], [(0, 4 * p + 20576), (1, 276)], w16) _
  refine e_Ok.run (t' := (44, [(0, (1, 275)), (1, (0, p)), (2, (0, x)), (3, (0, y))], [(0, 3), (0, 4 * p + 20576), (1, 276)], w16)) 1 rfl ?_
  refine e_Ok.add (z := 4 * p + 20579) rfl (by omega) (by omega) ?_
  refine e_Ok.run (t' := (46, [(0, (1, 275)), (1, (0, p)), (2, (0, x)), (3, (0, y))], [(0, 0), (0, 4 * p + 20579), (1, 276)], w16)) 1 rfl ?_
  refine e_Ok.ast rfl (el_o rfl) rfl rfl (by omega) ?_
  generalize hw22 : e_up w16 276 (4 * p + 20579) 0 = w22
  have f23 : e_fr (mPa p) w w22 := e_fr.up f17 hw22 (by unfold mPa; omega)
  have hT24 : e_Has mTy w22 := e_Has.upr hT18 hw22 (nR_PART3 (p := p) (by omega)) (by omega)
  refine e_Ok.rets rfl rfl ?_
  exact ⟨rfl, f23, hT24, (by rw [← hw22]; exact (e_up_ne _ _ (Or.inr (by omega))).trans (by rw [← hw16]; exact (e_up_ne _ _ (Or.inr (by omega))).trans (by rw [← hw10]; exact (e_up_ne _ _ (Or.inr (by omega))).trans (by rw [← hw4]; exact e_up_eq _ _ _ _))))⟩
theorem c_324 {d : Nat} (hd : 21 ≤ d) {w : eW} {a : Int} : e_Ok 20 elay ecode eI d 324 (0, [(0, (0, a))], [], w) (fun r w' => ∃ z : Int, r = [(0, z)] ∧ w = w' ∧ ((z = 1 ∧ ((97 ≤ a ∧ a ≤ 122) ∨ (65 ≤ a ∧ a ≤ 90))) ∨ (z = 0 ∧ ¬ ((97 ≤ a ∧ a ≤ 122) ∨ (65 ≤ a ∧ a ≤ 90))))) := by
  obtain ⟨d, rfl⟩ : ∃ e, d = e + 1 := ⟨d - 1, by omega⟩
  refine e_Ok.run (t' := (8, [(0, (0, a))], [(4, 122), (4, 97), (4, a)], w)) 4 rfl ?_
  refine e_Ok.callS rfl (by omega) rfl rfl (c_266) (fun r1 w2 h3 => ?_)
  obtain ⟨z4, rfl, rfl, q5⟩ := h3
  obtain ⟨rfl, q5⟩ | ⟨rfl, q5⟩ := q5
  · show e_Ok 20 elay ecode eI (d + 1) 324 (11, [(0, (0, a))], [(0, 1)], w) _
    refine e_Ok.if1 rfl (fun h6 => ?_) (fun h6 => ?_)
    · replace h6 : (1 : Int) ≠ 0 := h6
      refine e_Ok.run (t' := (33, [(0, (0, a))], [(0, 1)], w)) 2 rfl ?_
      refine e_Ok.rets rfl rfl ?_
      exact ⟨_, rfl, rfl, Or.inl ⟨rfl, by omega⟩⟩
    · replace h6 : (1 : Int) = 0 := by have q : ¬ ((1 : Int) ≠ 0) := h6; omega
      exfalso; omega
  · show e_Ok 20 elay ecode eI (d + 1) 324 (11, [(0, (0, a))], [(0, 0)], w) _
    refine e_Ok.if1 rfl (fun h7 => ?_) (fun h7 => ?_)
    · replace h7 : (0 : Int) ≠ 0 := h7
      exfalso; omega
    · replace h7 : (0 : Int) = 0 := by have q : ¬ ((0 : Int) ≠ 0) := h7; omega
      refine e_Ok.run (t' := (22, [(0, (0, a))], [(4, 90), (4, 65), (4, a)], w)) 4 rfl ?_
      refine e_Ok.callS rfl (by omega) rfl rfl (c_266) (fun r8 w9 h10 => ?_)
      obtain ⟨z11, rfl, rfl, q12⟩ := h10
      obtain ⟨rfl, q12⟩ | ⟨rfl, q12⟩ := q12
      · show e_Ok 20 elay ecode eI (d + 1) 324 (25, [(0, (0, a))], [(0, 1)], w) _
        refine e_Ok.if1 rfl (fun h13 => ?_) (fun h13 => ?_)
        · replace h13 : (1 : Int) = 0 := h13
          exfalso; omega
        · replace h13 : (1 : Int) ≠ 0 := by have q : ¬ ((1 : Int) = 0) := h13; omega
          refine e_Ok.run (t' := (33, [(0, (0, a))], [(0, 1)], w)) 2 rfl ?_
          refine e_Ok.rets rfl rfl ?_
          exact ⟨_, rfl, rfl, Or.inl ⟨rfl, by omega⟩⟩
      · show e_Ok 20 elay ecode eI (d + 1) 324 (25, [(0, (0, a))], [(0, 0)], w) _
        refine e_Ok.if1 rfl (fun h14 => ?_) (fun h14 => ?_)
        · replace h14 : (0 : Int) = 0 := h14
          refine e_Ok.run (t' := (33, [(0, (0, a))], [(0, 0)], w)) 1 rfl ?_
          refine e_Ok.rets rfl rfl ?_
          exact ⟨_, rfl, rfl, Or.inr ⟨rfl, by omega⟩⟩
        · replace h14 : (0 : Int) ≠ 0 := by have q : ¬ ((0 : Int) = 0) := h14; omega
          exfalso; omega
theorem c_325 {d : Nat} (hd : 21 ≤ d) {w : eW} {a : Int} : e_Ok 20 elay ecode eI d 325 (0, [(0, (0, a))], [], w) (fun r w' => ∃ z : Int, r = [(0, z)] ∧ w = w' ∧ ((z = 1 ∧ (48 ≤ a ∧ a ≤ 57)) ∨ (z = 0 ∧ ¬ (48 ≤ a ∧ a ≤ 57)))) := by
  obtain ⟨d, rfl⟩ : ∃ e, d = e + 1 := ⟨d - 1, by omega⟩
  refine e_Ok.run (t' := (8, [(0, (0, a))], [(4, 57), (4, 48), (4, a)], w)) 4 rfl ?_
  refine e_Ok.callS rfl (by omega) rfl rfl (c_266) (fun r1 w2 h3 => ?_)
  obtain ⟨z4, rfl, rfl, q5⟩ := h3
  obtain ⟨rfl, q5⟩ | ⟨rfl, q5⟩ := q5
  · show e_Ok 20 elay ecode eI (d + 1) 325 (11, [(0, (0, a))], [(0, 1)], w) _
    refine e_Ok.rets rfl rfl ?_
    exact ⟨_, rfl, rfl, Or.inl ⟨rfl, by omega⟩⟩
  · show e_Ok 20 elay ecode eI (d + 1) 325 (11, [(0, (0, a))], [(0, 0)], w) _
    refine e_Ok.rets rfl rfl ?_
    exact ⟨_, rfl, rfl, Or.inr ⟨rfl, by omega⟩⟩
theorem c_424 {d : Nat} (hd : 21 ≤ d) {w : eW} {a : Int} : e_Ok 20 elay ecode eI d 424 (0, [(0, (1, 275)), (1, (0, a))], [], w) (fun r w' => ∃ z : Int, r = [(0, z)] ∧ w = w' ∧ ((z = 1 ∧ (0 ≤ a ∧ a ≤ 63)) ∨ (z = 0 ∧ ¬ (0 ≤ a ∧ a ≤ 63)))) := by
  obtain ⟨d, rfl⟩ : ∃ e, d = e + 1 := ⟨d - 1, by omega⟩
  refine e_Ok.run (t' := (6, [(0, (1, 275)), (1, (0, a))], [(4, 63), (4, 0), (4, a)], w)) 4 rfl ?_
  refine e_Ok.callS rfl (by omega) rfl rfl (c_266) (fun r1 w2 h3 => ?_)
  obtain ⟨z4, rfl, rfl, q5⟩ := h3
  obtain ⟨rfl, q5⟩ | ⟨rfl, q5⟩ := q5
  · show e_Ok 20 elay ecode eI (d + 1) 424 (9, [(0, (1, 275)), (1, (0, a))], [(0, 1)], w) _
    refine e_Ok.rets rfl rfl ?_
    exact ⟨_, rfl, rfl, Or.inl ⟨rfl, by omega⟩⟩
  · show e_Ok 20 elay ecode eI (d + 1) 424 (9, [(0, (1, 275)), (1, (0, a))], [(0, 0)], w) _
    refine e_Ok.rets rfl rfl ?_
    exact ⟨_, rfl, rfl, Or.inr ⟨rfl, by omega⟩⟩
theorem c_387 {d : Nat} {w : eW} {s g : Int} (hs : -2000 ≤ s ∧ s ≤ 2000) (hg : 0 ≤ g ∧ g ≤ 2000) : e_Ok 20 elay ecode eI d 387 (0, [(0, (0, s)), (1, (0, g))], [], w) (fun r w' => ∃ z : Int, r = [(0, z)] ∧ w = w' ∧ ((g < s ∧ z = s - g) ∨ (s < -g ∧ z = s + g) ∨ (-g ≤ s ∧ s ≤ g ∧ z = 0))) := by
  refine e_Ok.run (t' := (2, [(0, (0, s)), (1, (0, g))], [(0, g), (0, s)], w)) 2 rfl ?_
  refine e_Ok.if2 rfl (fun h1 => ?_) (fun h1 => ?_)
  · replace h1 : (s : Int) ≤ g := h1
    refine e_Ok.run (t' := (13, [(0, (0, s)), (1, (0, g))], [(0, g), (0, s)], w)) 2 rfl ?_
    refine e_Ok.neg (z := -g) rfl (by omega) (by omega) ?_
    refine e_Ok.if2 rfl (fun h2 => ?_) (fun h2 => ?_)
    · replace h2 : (s : Int) ≥ -g := h2
      refine e_Ok.run (t' := (24, [(0, (0, s)), (1, (0, g))], [(0, 0)], w)) 1 rfl ?_
      refine e_Ok.rets rfl rfl ?_
      exact ⟨_, rfl, rfl, by omega⟩
    · replace h2 : (s : Int) < -g := by have q : ¬ ((s : Int) ≥ -g) := h2; omega
      refine e_Ok.run (t' := (19, [(0, (0, s)), (1, (0, g))], [(0, g), (0, s)], w)) 2 rfl ?_
      refine e_Ok.add (z := s + g) rfl (by omega) (by omega) ?_
      refine e_Ok.run (t' := (24, [(0, (0, s)), (1, (0, g))], [(0, s + g)], w)) 1 rfl ?_
      refine e_Ok.rets rfl rfl ?_
      exact ⟨_, rfl, rfl, by omega⟩
  · replace h1 : (s : Int) > g := by have q : ¬ ((s : Int) ≤ g) := h1; omega
    refine e_Ok.run (t' := (7, [(0, (0, s)), (1, (0, g))], [(0, g), (0, s)], w)) 2 rfl ?_
    refine e_Ok.sub' (z := s - g) rfl (by omega) (by omega) ?_
    refine e_Ok.run (t' := (24, [(0, (0, s)), (1, (0, g))], [(0, s - g)], w)) 1 rfl ?_
    refine e_Ok.rets rfl rfl ?_
    exact ⟨_, rfl, rfl, by omega⟩
end
