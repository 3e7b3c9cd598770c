-- part 60b
section
noncomputable section
/-! a new frame -/
section E60b
variable {w w' : eW} {a t g p n nt nw : Int} {dl sg pi en : Int → Int} {an br : Int → Int → Prop} {bs ow : Int → Int}
def bsUp (bs : Int → Int) (m z : Int) (j : Int) : Int := if j = m then z else bs j
theorem bsUp_eq (bs : Int → Int) (m z : Int) : bsUp bs m z m = z := if_pos rfl
theorem bsUp_ne (bs : Int → Int) {m j : Int} (z : Int) (h : j ≠ m) : bsUp bs m z j = bs j := if_neg h
theorem topOk.push {b q : Int} (hC : cOk w a n nt nw dl sg pi en an br) (h : topOk w a t g p n nt nw dl sg pi an br bs ow) (hg : g ≤ 18) (hb0 : b ≠ 1 → iFT w a n p ∧ dl (p + 1) = 0 ∧ sg (p + 1) = 0) (hb1 : b = 1 → dl p = 0 ∧ sg p = 0) (hq : 0 ≤ q ∧ q < w 338 a) (e : ∀ c k, 328 ≤ c → c ≤ 338 → w' c k = w c k) (e1 : ∀ i, 0 ≤ i → i < g → w' 276 (1260 * t + 2 * i + 436) = w 276 (1260 * t + 2 * i + 436) ∧ w' 276 (1260 * t + 2 * i + 439) = w 276 (1260 * t + 2 * i + 439)) (e0 : w' 276 (1260 * t + 2 * g + 436) = p) (ef : w' 276 (1260 * t + 2 * g + 439) = b) (et : w' 276 (1260 * t + 2 * g + 438) = w 337 (32 * a + q)) (e2 : w' 276 (1260 * t + 428) = g + 2) (e3 : w' 276 (1260 * t + 429) = w 276 (1260 * t + 429)) (e4 : ∀ k, 0 ≤ k → k < 1200 → w' 276 (1260 * t + k + 476) = w 276 (1260 * t + k + 476)) :
    topOk w' a t (g + 1) (w 337 (32 * a + q)) n nt nw dl sg pi an br (bsUp bs (g + 1) (bs g + pi (w 330 (10000 * a + p)))) ow ∧ dl (w 337 (32 * a + q)) = 0 ∧ sg (w 337 (32 * a + q)) = 0 := by
  obtain ⟨hp, h0, h1, h2, h3, h4, h5, h6, h7⟩ := h
  have hr := hC.2.2.2.2.2.2 q hq.1 hq.2
  unfold tgt at hr
  have hp0 := hC.2.2.2.1.1
  have hpr := hC.2.2.2.1.2.1 _ h4.1 h4.2
  have hb := h3.2.1 g (by omega) (Int.le_refl g)
  have hreg : w' 330 (10000 * a + w 337 (32 * a + q)) = -1 := by rw [e 330 _ (by decide) (by decide)]; exact hr.2.2.2.2
  have hlo := h3.fr e e1
  refine ⟨⟨⟨hr.1, hr.2.1⟩, by rw [show 1260 * t + 2 * (g + 1) + 436 = 1260 * t + 2 * g + 438 by omega]; exact et, by omega, by omega, ⟨?_, fun i q1 q2 => ?_, fun i j q1 q2 q3 => ?_, fun i q1 q2 => ?_⟩, by rw [hreg]; omega, ?_, ?_, fun j q1 q2 => ?_⟩, hr.2.2.1, hr.2.2.2.1⟩
  · rw [bsUp_ne _ _ (by omega)]; exact h3.1
  · by_cases ei : i = g + 1
    · rw [ei, bsUp_eq]; omega
    · rw [bsUp_ne _ _ ei]; exact h3.2.1 i q1 (by omega)
  · by_cases ej : j = g + 1
    · by_cases ei : i = g + 1
      · rw [ei, ej]; exact Int.le_refl _
      · have := h3.2.2.1 i g q1 (by omega) (Int.le_refl g)
        rw [ej, bsUp_eq, bsUp_ne _ _ ei]; omega
    · rw [bsUp_ne _ _ ej, bsUp_ne _ _ (by omega)]; exact h3.2.2.1 i j q1 q2 (by omega)
  · by_cases ei : i = g
    · subst ei
      rw [e0, ef, bsUp_eq, bsUp_ne _ _ (show i ≠ i + 1 by omega), e 330 _ (by decide) (by decide)]
      refine ⟨hp, rfl, h6, fun k => ?_, fun k => hb1 k⟩
      have := hb0 k
      unfold iFT at this ⊢
      simp only [e 330 _ (by decide) (by decide)]
      exact this
    · have := hlo.2.2.2 i q1 (by omega)
      rw [bsUp_ne _ _ (show i ≠ g + 1 by omega), bsUp_ne _ _ (show i + 1 ≠ g + 1 by omega)]
      exact this
  · rw [e3, hreg, bsUp_eq, hp0]; omega
  · rw [hreg]
    intro q' k1 k2 k3
    have := hC.2.2.2.1.2.2.2.1 q' k1
    omega
  · rw [hreg, bsUp_eq, hp0] at q2
    have h8 := h7 j q1 (by omega)
    have k1 := e4 (2 * j) (by omega) (by omega)
    have k2 := e4 (2 * j + 1) (by omega) (by omega)
    rw [show 1260 * t + (2 * j + 1) + 476 = 1260 * t + 2 * j + 477 by omega] at k2
    exact h8.fr e ⟨k1, k2⟩
end E60b
end
end
-- part 61
section
noncomputable section
theorem c_369 {d : Nat} (hd : 29 ≤ d) {w : eW} (hT : e_Has mTy w) {t a g : Int} (ht : 0 ≤ t ∧ t ≤ 15) (ha : 0 ≤ a ∧ a ≤ 3) (h96 : w 275 96 = t) (h97 : w 275 97 = 1260 * t + 416) (h98 : w 275 98 = a) {n nt nw : Int} {dl sg pi en : Int → Int} {an br : Int → Int → Prop} {bs ow : Int → Int} (hC : cOk w a n nt nw dl sg pi en an br) {p : Int} (hP : topOk w a t g p n nt nw dl sg pi an br bs ow) (hE : w 276 5 ≤ 2147483000) {y : Int} (hy : -2147483648 ≤ y ∧ y ≤ 2147483647) : e_Ok 20 elay ecode eI d 369 (0, [(0, (1, 275)), (1, (0, y))], [], w) (fun r' w' => r' = [] ∧ (e_fr (mLv t) w w' ∧ sRel w w') ∧ e_Has mTy w' ∧ (w 276 5 ≤ w' 276 5 ∧ w' 276 5 ≤ w 276 5 + 2) ∧ w' 275 102 = 0 ∧ ((w' 275 100 = 1 ∧ (w' 276 (1260 * t + 416) = 6 ∨ w' 276 (1260 * t + 416) = 7)) ∨ (w' 275 100 = w 275 100 ∧ w' 276 (1260 * t + 416) = w 276 (1260 * t + 416) ∧ w' 276 5 = w 276 5 ∧ ∃ (g' p' : Int) (bs' ow' : Int → Int), g' ≤ g ∧ (g' = g → p < p') ∧ topOk w' a t g' p' n nt nw dl sg pi an br bs' ow' ∧ dl p' = 0 ∧ sg p' = 0))) := by
  obtain ⟨d, rfl⟩ : ∃ e, d = e + 1 := ⟨d - 1, by omega⟩
  obtain ⟨hpn, hpc, hru⟩ := id hP
  obtain ⟨hg, hF, hlow, hrr, hPn, hch, hpe⟩ := id hru
  have hCn := hC.1
  have hins := hC.2.1 p hpn.1 hpn.2
  have hbg := hlow.2.1 g (by omega) (by omega)
  have hpen := hins.1.2.2.2.1
  have hpib := hC.2.2.2.1.2.1 _ hrr.1 hrr.2
  refine e_Ok.run (t' := (2, [(0, (1, 275)), (1, (0, y))], [(1, 275), (1, 275)], w)) 2 rfl ?_
  refine e_Ok.getr (z := 330) rfl (el_o rfl) rfl (ef_o rfl) (e_Has.eq hT (mt_o rfl)) ⟨by decide, by decide⟩ ?_
  refine e_Ok.ps2 (x := (1, 275)) (y := (0, 10000)) (q := 9) 2 rfl ?_
  refine e_Ok.getf (z := a) rfl (el_o rfl) rfl (ef_o rfl) h98 (by omega) ?_
  refine e_Ok.mul (z := 10000 * a) rfl rfl (by omega) ?_
  refine e_Ok.ps1 (x := (1, 275)) (q := 14) 1 rfl ?_
  refine e_Ok.getr (z := 276) rfl (el_o rfl) rfl (ef_o rfl) (e_Has.eq hT (mt_o rfl)) ⟨by decide, by decide⟩ ?_
  refine e_Ok.ps1 (x := (1, 275)) (q := 18) 1 rfl ?_
  refine e_Ok.callV rfl (e_dq hd rfl) rfl rfl rfl rfl (c_362 hT (by omega) h97 (f := g + 1) (z := 1260 * t + 2 * g + 436) hF (by omega) (by omega)) (fun r1 w2 h3 => ?_)
  obtain ⟨rfl, rfl⟩ := h3
  refine e_Ok.nrm (q := 21) (st' := [(0, 1260 * t + 2 * g + 436), (1, 276), (0, 10000 * a), (1, 330), (1, 275)]) rfl rfl ?_
  refine e_Ok.ald (z := p) rfl (el_o rfl) rfl (by omega) hpc (by omega) ?_
  refine e_Ok.add (z := 10000 * a + p) rfl rfl (by omega) ?_
  refine e_Ok.ald (z := w 330 (10000 * a + p)) rfl (el_o rfl) rfl (by omega) rfl (by omega) ?_
  refine e_Ok.ps2 (x := (0, y)) (y := (0, 1)) (q := 26) 2 rfl ?_
  refine e_Ok.callV rfl (e_dq hd rfl) rfl rfl rfl rfl (c_371 (e_dq hd rfl) hT (by omega) (by omega) h96 h97 h98 hC hru ⟨hpn.1, hins.1.2.2.2.1⟩ (by omega) (by omega) (by omega) (fun e => by omega)) (fun r4 w5 h6 => ?_)
  obtain ⟨rfl, ⟨q7, q7S⟩, q7T, q7n, q7d, q7c⟩ := h6
  refine e_Ok.nrm (q := 29) (st' := []) rfl rfl ?_
  refine e_Ok.rets rfl rfl ?_
  exact ⟨rfl, ⟨(show e_fr (mLv t) w w5 from e_fr.trans (e_fr.refl w) (e_fr.mono q7 (fun c k q => by exact q))), (sRel.trans sRel.refl q7S)⟩, q7T, by omega, q7d, q7c⟩
set_option maxHeartbeats 4000000 in
theorem c_367 {d : Nat} (hd : 31 ≤ d) {w : eW} (hT : e_Has mTy w) {t a g : Int} (ht : 0 ≤ t ∧ t ≤ 15) (ha : 0 ≤ a ∧ a ≤ 3) (h96 : w 275 96 = t) (h97 : w 275 97 = 1260 * t + 416) (h98 : w 275 98 = a) {n nt nw : Int} {dl sg pi en : Int → Int} {an br : Int → Int → Prop} {bs ow : Int → Int} (hC : cOk w a n nt nw dl sg pi en an br) {p : Int} (hP : topOk w a t g p n nt nw dl sg pi an br bs ow) (hE : w 276 5 ≤ 2147483000) {y b : Int} (hy : 0 ≤ y ∧ y < w 338 a) (hb : 0 ≤ b ∧ b ≤ 1) (hb0 : b ≠ 1 → iFT w a n p ∧ dl (p + 1) = 0 ∧ sg (p + 1) = 0) (hb1 : b = 1 → dl p = 0 ∧ sg p = 0) : e_Ok 20 elay ecode eI d 367 (0, [(0, (1, 275)), (1, (0, y)), (2, (0, b))], [], w) (fun r' w' => r' = [] ∧ (e_fr (mLv t) w w' ∧ sRel w w') ∧ e_Has mTy w' ∧ (w 276 5 ≤ w' 276 5 ∧ w' 276 5 ≤ w 276 5 + 2) ∧ ((w' 275 102 = 0 ∧ ((w' 275 100 = 1 ∧ (w' 276 (1260 * t + 416) = 6 ∨ w' 276 (1260 * t + 416) = 7)) ∨ (w' 275 100 = w 275 100 ∧ w' 276 (1260 * t + 416) = w 276 (1260 * t + 416) ∧ w' 276 5 = w 276 5 ∧ ∃ (g' p' : Int) (bs' ow' : Int → Int), g' ≤ g ∧ (g' = g → p < p') ∧ topOk w' a t g' p' n nt nw dl sg pi an br bs' ow' ∧ dl p' = 0 ∧ sg p' = 0))) ∨ (w' 275 102 = w 275 102 ∧ w' 275 100 = w 275 100 ∧ w' 276 (1260 * t + 416) = w 276 (1260 * t + 416) ∧ w' 276 5 = w 276 5 ∧ g ≤ 18 ∧ ∃ (p' : Int) (bs' ow' : Int → Int), topOk w' a t (g + 1) p' n nt nw dl sg pi an br bs' ow' ∧ dl p' = 0 ∧ sg p' = 0))) := by
  obtain ⟨d, rfl⟩ : ∃ e, d = e + 1 := ⟨d - 1, by omega⟩
  obtain ⟨hpn, hpc, hru⟩ := id hP
  obtain ⟨hg, hF, hlow, hrr, hPn, hch, hpe⟩ := id hru
  have hCn := hC.1
  have hins := hC.2.1 p hpn.1 hpn.2
  have hbg := hlow.2.1 g (by omega) (by omega)
  have hpen := hins.1.2.2.2.1
  have hpib := hC.2.2.2.1.2.1 _ hrr.1 hrr.2
  have hrn := e_Has.get hT (c := 338) (k := a) (lo := 0) (hi := 32) (mt_o rfl) (by decide)
  refine e_Ok.run (t' := (1, [(0, (1, 275)), (1, (0, y)), (2, (0, b))], [(1, 275)], w)) 1 rfl ?_
  refine e_Ok.getr (z := 276) rfl (el_o rfl) rfl (ef_o rfl) (e_Has.eq hT (mt_o rfl)) ⟨by decide, by decide⟩ ?_
  refine e_Ok.ps1 (x := (1, 275)) (q := 5) 1 rfl ?_
  refine e_Ok.getf (z := 1260 * t + 416) rfl (el_o rfl) rfl (ef_o rfl) h97 (by omega) ?_
  refine e_Ok.ps1 (x := (0, 12)) (q := 10) 1 rfl ?_
  refine e_Ok.add (z := 1260 * t + 428) rfl (e_adl (by decide)) (by omega) ?_
  refine e_Ok.ald (z := g + 1) rfl (el_o rfl) rfl (by omega) hF (by omega) ?_
  refine e_Ok.ps1 (x := (0, 20)) (q := 14) 1 rfl ?_
  refine e_Ok.if2 rfl (fun h1 => ?_) (fun h1 => ?_)
  · replace h1 : (g + 1 : Int) ≠ 20 := h1
    have hrt := hC.2.2.2.2.2.2 y hy.1 hy.2
    unfold tgt at hrt
    refine e_Ok.ps1 (x := (1, 275)) (q := 25) 1 rfl ?_
    refine e_Ok.getr (z := 276) rfl (el_o rfl) rfl (ef_o rfl) (e_Has.eq hT (mt_o rfl)) ⟨by decide, by decide⟩ ?_
    refine e_Ok.ps1 (x := (1, 275)) (q := 29) 1 rfl ?_
    refine e_Ok.getf (z := 1260 * t + 416) rfl (el_o rfl) rfl (ef_o rfl) h97 (by omega) ?_
    refine e_Ok.ps1 (x := (0, 12)) (q := 34) 1 rfl ?_
    refine e_Ok.add (z := 1260 * t + 428) rfl (e_adl (by decide)) (by omega) ?_
    refine e_Ok.ps2 (x := (0, 1260 * t + 428)) (y := (1, 276)) (q := 36) 1 rfl ?_
    refine e_Ok.ald (z := g + 1) rfl (el_o rfl) rfl (by omega) hF (by omega) ?_
    refine e_Ok.ps1 (x := (0, 1)) (q := 38) 1 rfl ?_
    refine e_Ok.add (z := g + 2) rfl (e_adl (by decide)) (by omega) ?_
    refine e_Ok.ast rfl (el_o rfl) rfl rfl (by omega) ?_
    generalize hw2 : e_up w 276 (1260 * t + 428) (g + 2) = w2
    have hT4 : e_Has mTy w2 := e_Has.upr hT hw2 (nR_FRAMES (t := t) (by omega)) (by omega)
    refine e_Ok.ps2 (x := (1, 275)) (y := (1, 275)) (q := 42) 2 rfl ?_
    refine e_Ok.getr (z := 337) rfl (el_o rfl) rfl (ef_o rfl) (e_uq hw2 (Or.inl (by decide)) (e_Has.eq hT (mt_o rfl))) ⟨by decide, by decide⟩ ?_
    refine e_Ok.ps2 (x := (1, 275)) (y := (0, 32)) (q := 48) 2 rfl ?_
    refine e_Ok.getf (z := a) rfl (el_o rfl) rfl (ef_o rfl) (e_uq hw2 (Or.inl (by decide)) h98) (by omega) ?_
    refine e_Ok.mul (z := 32 * a) rfl rfl (by omega) ?_
    refine e_Ok.ps1 (x := (0, y)) (q := 53) 1 rfl ?_
    refine e_Ok.add (z := 32 * a + y) rfl rfl (by omega) ?_
    refine e_Ok.ald (z := w 337 (32 * a + y)) rfl (el_o rfl) rfl (by omega) (e_uq hw2 (Or.inl (by decide)) rfl) (by omega) ?_
    refine e_Ok.callV rfl (e_dq hd rfl) rfl rfl rfl rfl (c_365 (e_dq hd rfl) hT4 (by omega) (e_uq hw2 (Or.inl (by first | decide | omega)) h97) (f := g + 2) (z := 1260 * t + 2 * g + 438) (e_ue hw2) (by omega) (by omega)) (fun r5 w6 h7 => ?_)
    obtain ⟨rfl, hw6⟩ := h7
    have hT9 : e_Has mTy w6 := e_Has.upr hT4 hw6 (nR_FRg t (g + 1) (by omega) (by omega) (by omega)) (by omega)
    refine e_Ok.nrm (q := 58) (st' := []) rfl rfl ?_
    refine e_Ok.ps1 (x := (1, 275)) (q := 59) 1 rfl ?_
    refine e_Ok.getr (z := 276) rfl (el_o rfl) rfl (ef_o rfl) (e_uq hw6 (Or.inl (by omega)) (e_uq hw2 (Or.inl (by decide)) (e_Has.eq hT (mt_o rfl)))) ⟨by decide, by decide⟩ ?_
    refine e_Ok.ps1 (x := (1, 275)) (q := 63) 1 rfl ?_
    refine e_Ok.callV rfl (e_dq hd rfl) rfl rfl rfl rfl (c_362 hT9 (by omega) (e_uq hw6 (Or.inl (by first | decide | omega)) (e_uq hw2 (Or.inl (by first | decide | omega)) h97)) (f := g + 2) (z := 1260 * t + 2 * g + 438) (e_uq hw6 (Or.inr (by omega)) (e_ue hw2)) (by omega) (by omega)) (fun r10 w11 h12 => ?_)
    obtain ⟨rfl, rfl⟩ := h12
    refine e_Ok.nrm (q := 66) (st' := [(0, 1260 * t + 2 * g + 438), (1, 276)]) rfl rfl ?_
    refine e_Ok.ps1 (x := (0, 1)) (q := 67) 1 rfl ?_
    refine e_Ok.add (z := 1260 * t + 2 * g + 439) rfl (e_adl (by decide)) (by omega) ?_
    refine e_Ok.ps1 (x := (0, b)) (q := 69) 1 rfl ?_
    refine e_Ok.ast rfl (el_o rfl) rfl rfl (by omega) ?_
    generalize hw13 : e_up w6 276 (1260 * t + 2 * g + 439) b = w13
    have hT15 : e_Has mTy w13 := e_Has.upr hT9 hw13 (nR_FRWg t (g + 1) (by omega) (by omega) (by omega)) (by omega)
    refine e_Ok.ps1 (x := (1, 275)) (q := 71) 1 rfl ?_
    refine e_Ok.getr (z := 276) rfl (el_o rfl) rfl (ef_o rfl) (e_uq hw13 (Or.inl (by decide)) (e_uq hw6 (Or.inl (by omega)) (e_uq hw2 (Or.inl (by decide)) (e_Has.eq hT (mt_o rfl))))) ⟨by decide, by decide⟩ ?_
    refine e_Ok.ps1 (x := (1, 275)) (q := 75) 1 rfl ?_
    refine e_Ok.getf (z := 1260 * t + 416) rfl (el_o rfl) rfl (ef_o rfl) (e_uq hw13 (Or.inl (by decide)) (e_uq hw6 (Or.inl (by omega)) (e_uq hw2 (Or.inl (by decide)) h97))) (by omega) ?_
    refine e_Ok.ps1 (x := (0, 14)) (q := 80) 1 rfl ?_
    refine e_Ok.add (z := 1260 * t + 430) rfl (e_adl (by decide)) (by omega) ?_
    refine e_Ok.ps2 (x := (0, 1260 * t + 430)) (y := (1, 276)) (q := 82) 1 rfl ?_
    have h16 := (e_Has.get hT (c := 276) (k := 1260 * t + 430) (lo := (-2147483648)) (hi := 2147483647) (nR_IN_WATCH (t := t) (by omega)) (by decide))
    refine e_Ok.ald (z := w 276 (1260 * t + 430)) rfl (el_o rfl) rfl (by omega) (e_uq hw13 (Or.inr (by omega)) (e_uq hw6 (Or.inr (by omega)) (e_uq hw2 (Or.inr (e_neo (by decide))) rfl))) (e_bq h16 (by decide) (by decide)) ?_
    refine e_Ok.ps1 (x := (0, b)) (q := 84) 1 rfl ?_
    refine e_Ok.any rfl (eF_add_any _ _) (fun z17 z17a z17b => ?_)
    refine e_Ok.ast rfl (el_o rfl) rfl rfl (by omega) ?_
    generalize hw18 : e_up w13 276 (1260 * t + 430) z17 = w18
    have hT20 : e_Has mTy w18 := e_Has.upr hT15 hw18 (nR_IN_WATCH (t := t) (by omega)) (by omega)
    refine e_Ok.rets rfl rfl ?_
    have e21 : w18 276 5 = w 276 5 := (e_uq hw18 (Or.inr (by omega)) (e_uq hw13 (Or.inr (by omega)) (e_uq hw6 (Or.inr (by omega)) (e_uq hw2 (Or.inr (by omega)) rfl))))
    have hpu := topOk.push (w' := w18) (b := b) (q := y) hC hP (by omega) hb0 hb1 hy (fun c k q1 q2 => (e_uq hw18 (Or.inl (by omega)) (e_uq hw13 (Or.inl (by omega)) (e_uq hw6 (Or.inl (by omega)) (e_uq hw2 (Or.inl (by omega)) rfl))))) (fun i q1 q2 => ⟨(e_uq hw18 (Or.inr (by omega)) (e_uq hw13 (Or.inr (by omega)) (e_uq hw6 (Or.inr (by omega)) (e_uq hw2 (Or.inr (by omega)) rfl)))), (e_uq hw18 (Or.inr (by omega)) (e_uq hw13 (Or.inr (by omega)) (e_uq hw6 (Or.inr (by omega)) (e_uq hw2 (Or.inr (by omega)) rfl))))⟩) (e_uq hw18 (Or.inr (by omega)) (e_uq hw13 (Or.inr (by omega)) (e_uq hw6 (Or.inr (by omega)) (e_uq hw2 (Or.inr (by omega)) hpc)))) (e_uq hw18 (Or.inr (by omega)) (e_ue hw13)) (e_uq hw18 (Or.inr (by omega)) (e_uq hw13 (Or.inr (by omega)) (e_ue hw6))) (e_uq hw18 (Or.inr (by omega)) (e_uq hw13 (Or.inr (by omega)) (e_uq hw6 (Or.inr (by omega)) (e_ue hw2)))) (e_uq hw18 (Or.inr (by omega)) (e_uq hw13 (Or.inr (by omega)) (e_uq hw6 (Or.inr (by omega)) (e_uq hw2 (Or.inr (by omega)) rfl)))) (fun k q1 q2 => (e_uq hw18 (Or.inr (by omega)) (e_uq hw13 (Or.inr (by omega)) (e_uq hw6 (Or.inr (by omega)) (e_uq hw2 (Or.inr (by omega)) rfl)))))
    exact ⟨rfl, ⟨(show e_fr (mLv t) w w18 from e_fr.up (show e_fr (mLv t) w w13 from e_fr.up (show e_fr (mLv t) w w6 from e_fr.up (show e_fr (mLv t) w w2 from e_fr.up (e_fr.refl w) hw2 (by first | exact Or.inr ⟨rfl, Or.inr (Or.inr (Or.inr (Or.inr (Or.inr (Or.inr (Or.inr (Or.inr (Or.inl ⟨(by omega), (by omega)⟩))))))))⟩ | (unfold mLv; omega))) hw6 (by first | exact Or.inr ⟨rfl, Or.inr (Or.inr (Or.inr (Or.inr (Or.inr (Or.inr (Or.inr (Or.inr (Or.inr ⟨(by omega), (by omega)⟩))))))))⟩ | (unfold mLv; omega))) hw13 (by first | exact Or.inr ⟨rfl, Or.inr (Or.inr (Or.inr (Or.inr (Or.inr (Or.inr (Or.inr (Or.inr (Or.inr ⟨(by omega), (by omega)⟩))))))))⟩ | (unfold mLv; omega))) hw18 (by first | exact Or.inr ⟨rfl, Or.inr (Or.inr (Or.inr (Or.inr (Or.inr (Or.inr (Or.inr (Or.inr (Or.inl ⟨(by omega), (by omega)⟩))))))))⟩ | (unfold mLv; omega))), (sRel.up (sRel.up (sRel.up (sRel.up sRel.refl hw2 (fun q b g1 g2 => by omega)) hw6 (fun q b g1 g2 => by omega)) hw13 (fun q b g1 g2 => by omega)) hw18 (fun q b g1 g2 => by omega))⟩, hT20, by omega, Or.inr ⟨(e_uq hw18 (Or.inl (by omega)) (e_uq hw13 (Or.inl (by omega)) (e_uq hw6 (Or.inl (by omega)) (e_uq hw2 (Or.inl (by omega)) rfl)))), (e_uq hw18 (Or.inl (by omega)) (e_uq hw13 (Or.inl (by omega)) (e_uq hw6 (Or.inl (by omega)) (e_uq hw2 (Or.inl (by omega)) rfl)))), (e_uq hw18 (Or.inr (by omega)) (e_uq hw13 (Or.inr (by omega)) (e_uq hw6 (Or.inr (by omega)) (e_uq hw2 (Or.inr (by omega)) rfl)))), by omega, by omega, _, _, _, hpu⟩⟩
  · replace h1 : (g + 1 : Int) = 20 := Classical.not_not.mp (show ¬ ((g + 1 : Int) ≠ 20) from h1)
    refine e_Ok.ps2 (x := (0, 8)) (y := (1, 275)) (q := 20) 2 rfl ?_
    refine e_Ok.callV rfl (e_dq hd rfl) rfl rfl rfl rfl (c_369 (e_dq hd rfl) hT (by omega) (by omega) h96 h97 h98 hC hP (by omega) (by omega)) (fun r22 w23 h24 => ?_)
    obtain ⟨rfl, ⟨q25, q25S⟩, q25T, q25n, q25d, q25c⟩ := h24
    refine e_Ok.nrm (q := 23) (st' := []) rfl rfl ?_
    refine e_Ok.rets rfl rfl ?_
    exact ⟨rfl, ⟨(show e_fr (mLv t) w w23 from e_fr.trans (e_fr.refl w) (e_fr.mono q25 (fun c k q => by exact q))), (sRel.trans sRel.refl q25S)⟩, q25T, by omega, Or.inl ⟨q25d, q25c⟩⟩
end
end
-- part 62
section
noncomputable section
def mTk (t c k : Int) : Prop := (c = 275 ∧ k = 100) ∨ (c = 276 ∧ ((20868 ≤ k ∧ k ≤ 20875) ∨ k = 6 ∨ k = 1260 * t + 416 ∨ k = 1260 * t + 421 ∨ k = 1260 * t + 422))
set_option maxHeartbeats 4000000 in
theorem c_377 {d : Nat} (hd : 29 ≤ d) {w : eW} (hT : e_Has mTy w) {t a g : Int} (ht : 0 ≤ t ∧ t ≤ 15) (ha : 0 ≤ a ∧ a ≤ 3) (h96 : w 275 96 = t) (h97 : w 275 97 = 1260 * t + 416) (h98 : w 275 98 = a) {n nt nw : Int} {dl sg pi en : Int → Int} {an br : Int → Int → Prop} {bs ow : Int → Int} (hC : cOk w a n nt nw dl sg pi en an br) {p : Int} (hP : topOk w a t g p n nt nw dl sg pi an br bs ow) (hE : w 276 5 ≤ 2147483000) {z : Int} (hz : 0 ≤ z ∧ z < nt) (hrz : w 330 (10000 * a + p) = 3 * z + 2) (h102 : w 275 102 = 0) : e_Ok 20 elay ecode eI d 377 (0, [(0, (1, 275)), (1, (0, 900 * a + z))], [], w) (fun r' w' => r' = [] ∧ (e_fr (mLv t) w w' ∧ sRel w w') ∧ e_Has mTy w' ∧ (w 276 5 ≤ w' 276 5 ∧ w' 276 5 ≤ w 276 5 + 2) ∧ w' 275 102 = 0 ∧ ((w' 275 100 = 1 ∧ (w' 276 (1260 * t + 416) = 6 ∨ w' 276 (1260 * t + 416) = 7)) ∨ (w' 275 100 = w 275 100 ∧ w' 276 (1260 * t + 416) = w 276 (1260 * t + 416) ∧ w' 276 5 = w 276 5 ∧ ∃ (g' p' : Int) (bs' ow' : Int → Int), g' ≤ g ∧ (g' = g → p < p') ∧ topOk w' a t g' p' n nt nw dl sg pi an br bs' ow' ∧ dl p' = 0 ∧ sg p' = 0))) := by
  obtain ⟨d, rfl⟩ : ∃ e, d = e + 1 := ⟨d - 1, by omega⟩
  obtain ⟨hpn, hpc, hru⟩ := id hP
  obtain ⟨hg, hF, hlow, hrr, hPn, hch, hpe⟩ := id hru
  have hCn := hC.1
  have hins := hC.2.1 p hpn.1 hpn.2
  have hbg := hlow.2.1 g (by omega) (by omega)
  have hpen := hins.1.2.2.2.1
  have hpib := hC.2.2.2.1.2.1 _ hrr.1 hrr.2
  obtain ⟨hti, hpi3, -, -, hend, han1, han2⟩ := id (hC.2.2.1 z hz.1 hz.2)
  have hall := (hC.2.2.1 z hz.1 hz.2).all (y := w 330 (10000 * a + p)) (k := 2) (by omega) (by omega)
  unfold tgt at hend
  have hpz := hC.2.2.2.1.2.1 (w 331 (900 * a + z)) (by omega) (by omega)
  have how := hch (w 330 (10000 * a + p)) (hC.2.2.2.1.2.2.1 _) (by omega) (by omega)
  have hpd := hpe (bs g + pi (w 330 (10000 * a + p)) - 1) (by omega) (by omega)
  unfold pendOk at hpd
  rw [how, show (w 330 (10000 * a + p)) / 3 = z by omega, show 1260 * t + 2 * (bs g + pi (w 330 (10000 * a + p)) - 1) + 476 = 1260 * t + 2 * bs g + 2 * pi (w 330 (10000 * a + p)) + 474 by omega, show 1260 * t + 2 * (bs g + pi (w 330 (10000 * a + p)) - 1) + 477 = 1260 * t + 2 * bs g + 2 * pi (w 330 (10000 * a + p)) + 475 by omega] at hpd
  refine e_Ok.run (t' := (1, [(0, (1, 275)), (1, (0, 900 * a + z))], [(1, 275)], w)) 1 rfl ?_
  refine e_Ok.getr (z := 276) rfl (el_o rfl) rfl (ef_o rfl) (e_Has.eq hT (mt_o rfl)) ⟨by decide, by decide⟩ ?_
  refine e_Ok.ps1 (x := (1, 275)) (q := 5) 1 rfl ?_
  refine e_Ok.getf (z := 1260 * t + 416) rfl (el_o rfl) rfl (ef_o rfl) h97 (by omega) ?_
  refine e_Ok.ps1 (x := (0, 13)) (q := 10) 1 rfl ?_
  refine e_Ok.add (z := 1260 * t + 429) rfl (e_adl (by decide)) (by omega) ?_
  refine e_Ok.ps2 (x := (0, 1260 * t + 429)) (y := (1, 276)) (q := 12) 1 rfl ?_
  refine e_Ok.ald (z := bs g + pi (w 330 (10000 * a + p))) rfl rfl rfl (by omega) hPn (by omega) ?_
  refine e_Ok.ps1 (x := (0, 1)) (q := 14) 1 rfl ?_
  refine e_Ok.sub' (z := bs g + pi (w 330 (10000 * a + p)) - 1) rfl rfl (by omega) ?_
  refine e_Ok.ast rfl (el_o rfl) rfl rfl (by omega) ?_
  generalize hw1 : e_up w 276 (1260 * t + 429) (bs g + pi (w 330 (10000 * a + p)) - 1) = w1
  have f2 : e_fr (mLv t) w w1 := e_fr.up (e_fr.refl w) hw1 (by first | exact Or.inr ⟨rfl, Or.inr (Or.inr (Or.inr (Or.inr (Or.inr (Or.inr (Or.inr (Or.inr (Or.inl ⟨(by omega), (by omega)⟩))))))))⟩ | (unfold mLv; omega))
  have hT3 : e_Has mTy w1 := e_Has.upr hT hw1 (nR_PENDS (t := t) (by omega)) (by omega)
  refine e_Ok.ps1 (x := (1, 275)) (q := 17) 1 rfl ?_
  refine e_Ok.getf (z := 1260 * t + 416) rfl (el_o rfl) rfl (ef_o rfl) (e_uq hw1 (Or.inl (by decide)) h97) (by omega) ?_
  refine e_Ok.ps1 (x := (0, 60)) (q := 22) 1 rfl ?_
  refine e_Ok.add (z := 1260 * t + 476) rfl (e_adl (by decide)) (by omega) ?_
  refine e_Ok.ps2 (x := (1, 275)) (y := (0, 2)) (q := 25) 2 rfl ?_
  refine e_Ok.getr (z := 276) rfl (el_o rfl) rfl (ef_o rfl) (e_uq hw1 (Or.inl (by decide)) (e_Has.eq hT (mt_o rfl))) ⟨by decide, by decide⟩ ?_
  refine e_Ok.ps1 (x := (1, 275)) (q := 29) 1 rfl ?_
  refine e_Ok.getf (z := 1260 * t + 416) rfl (el_o rfl) rfl (ef_o rfl) (e_uq hw1 (Or.inl (by decide)) h97) (by omega) ?_
  refine e_Ok.ps1 (x := (0, 13)) (q := 34) 1 rfl ?_
  refine e_Ok.add (z := 1260 * t + 429) rfl (e_adl (by decide)) (by omega) ?_
  refine e_Ok.ald (z := bs g + pi (w 330 (10000 * a + p)) - 1) rfl rfl rfl (by omega) (e_ue hw1) (by omega) ?_
  refine e_Ok.mul (z := 2 * bs g + 2 * pi (w 330 (10000 * a + p)) - 2) rfl (by omega) (by omega) ?_
  refine e_Ok.add (z := 1260 * t + 2 * bs g + 2 * pi (w 330 (10000 * a + p)) + 474) rfl (by omega) (by omega) ?_
  refine e_Ok.run (t' := (40, [(2, (0, 1260 * t + 2 * bs g + 2 * pi (w 330 (10000 * a + p)) + 474)), (0, (1, 275)), (1, (0, 900 * a + z))], [(1, 275)], w1)) 2 rfl ?_
  refine e_Ok.getr (z := 276) rfl (el_o rfl) rfl (ef_o rfl) (e_uq hw1 (Or.inl (by decide)) (e_Has.eq hT (mt_o rfl))) ⟨by decide, by decide⟩ ?_
  refine e_Ok.ps1 (x := (0, 1260 * t + 2 * bs g + 2 * pi (w 330 (10000 * a + p)) + 474)) (q := 44) 1 rfl ?_
  have h4 := (e_Has.get hT (c := 276) (k := 1260 * t + 2 * bs g + 2 * pi (w 330 (10000 * a + p)) + 474) (lo := (-2147483648)) (hi := 2147483647) (nR_PEg t (by omega) (by omega)) (by decide))
  refine e_Ok.ald (z := w 276 (1260 * t + 2 * bs g + 2 * pi (w 330 (10000 * a + p)) + 474)) rfl rfl rfl (by omega) (e_uq hw1 (Or.inr (by omega)) rfl) (e_bq h4 (by decide) (by decide)) ?_
  refine e_Ok.if1 rfl (fun h5 => ?_) (fun h5 => ?_)
  · replace h5 : (w 276 (1260 * t + 2 * bs g + 2 * pi (w 330 (10000 * a + p)) + 474) : Int) ≠ 0 := h5
    refine e_Ok.ps2 (x := (1, 275)) (y := (1, 275)) (q := 63) 2 rfl ?_
    refine e_Ok.getr (z := 331) rfl (el_o rfl) rfl (ef_o rfl) (e_uq hw1 (Or.inl (by decide)) (e_Has.eq hT (mt_o rfl))) ⟨by decide, by decide⟩ ?_
    refine e_Ok.ps1 (x := (0, 900 * a + z)) (q := 67) 1 rfl ?_
    refine e_Ok.ald (z := w 331 (900 * a + z)) rfl (el_o rfl) rfl (by omega) (e_uq hw1 (Or.inl (by decide)) rfl) (by omega) ?_
    refine e_Ok.ps1 (x := (1, 275)) (q := 69) 1 rfl ?_
    refine e_Ok.getr (z := 276) rfl (el_o rfl) rfl (ef_o rfl) (e_uq hw1 (Or.inl (by decide)) (e_Has.eq hT (mt_o rfl))) ⟨by decide, by decide⟩ ?_
    refine e_Ok.ps1 (x := (0, 1260 * t + 2 * bs g + 2 * pi (w 330 (10000 * a + p)) + 474)) (q := 73) 1 rfl ?_
    refine e_Ok.ald (z := w 276 (1260 * t + 2 * bs g + 2 * pi (w 330 (10000 * a + p)) + 474)) rfl rfl rfl (by omega) (e_uq hw1 (Or.inr (by omega)) rfl) (by omega) ?_
    refine e_Ok.ps1 (x := (1, 275)) (q := 75) 1 rfl ?_
    refine e_Ok.getr (z := 276) rfl (el_o rfl) rfl (ef_o rfl) (e_uq hw1 (Or.inl (by decide)) (e_Has.eq hT (mt_o rfl))) ⟨by decide, by decide⟩ ?_
    refine e_Ok.ps2 (x := (0, 1)) (y := (0, 1260 * t + 2 * bs g + 2 * pi (w 330 (10000 * a + p)) + 474)) (q := 80) 2 rfl ?_
    refine e_Ok.add (z := 1260 * t + 2 * bs g + 2 * pi (w 330 (10000 * a + p)) + 475) rfl (e_adl (by decide)) (by omega) ?_
    have h6 := (e_Has.get hT (c := 276) (k := 1260 * t + 2 * bs g + 2 * pi (w 330 (10000 * a + p)) + 475) (lo := (-2147483648)) (hi := 2147483647) (nR_PEg t (by omega) (by omega)) (by decide))
    refine e_Ok.ald (z := w 276 (1260 * t + 2 * bs g + 2 * pi (w 330 (10000 * a + p)) + 475)) rfl rfl rfl (by omega) (e_uq hw1 (Or.inr (by omega)) rfl) (e_bq h6 (by decide) (by decide)) ?_
    have e10 : w1 276 5 = w 276 5 := (e_uq hw1 (Or.inr (by omega)) rfl)
    have e336 : ∀ k, w1 336 k = w 336 k := fun k => (e_uq hw1 (Or.inl (by first | decide | omega)) rfl)
    refine e_Ok.callV rfl (e_dq hd rfl) rfl rfl rfl rfl (c_371 (e_dq hd rfl) hT3 (by omega) (by omega) (e_uq hw1 (Or.inl (by omega)) h96) (e_uq hw1 (Or.inl (by omega)) h97) (e_uq hw1 (Or.inl (by omega)) h98) (cOk.fr (fun c k q1 q2 => (e_uq hw1 (Or.inl (by omega)) rfl)) hC) (runOk.to (w' := w1) (r' := w 331 (900 * a + z)) hru (fun c k q1 q2 => (e_uq hw1 (Or.inl (by omega)) rfl)) (fun i q1 q2 => ⟨(e_uq hw1 (Or.inr (by omega)) rfl), (e_uq hw1 (Or.inr (by omega)) rfl)⟩) (e_uq hw1 (Or.inr (by omega)) rfl) (by have q : w1 276 (1260 * t + 429) = bs g + pi (w 330 (10000 * a + p)) - 1 := (e_ue hw1); omega) (fun k q1 q2 => (e_uq hw1 (Or.inr (by omega)) rfl)) (by omega) (by omega) (by omega) (fun q q1 q2 q3 => by have := han2 2 q (by omega) (by omega) q1; rwa [show 3 * z + 2 = w 330 (10000 * a + p) by omega] at this)) ⟨hpn.1, by omega⟩ (by omega) (by omega) (by omega) (fun e3 => by have q := hpd.2 (by omega); rw [e336]; exact ⟨q.1, q.2.1, q.2.2.1, by omega⟩)) (fun r7 w8 h9 => ?_)
    obtain ⟨rfl, ⟨q11, q11S⟩, q11T, q11n, q11d, q11c⟩ := h9
    refine e_Ok.nrm (q := 85) (st' := []) rfl rfl ?_
    refine e_Ok.rets rfl rfl ?_
    exact ⟨rfl, ⟨(show e_fr (mLv t) w w8 from e_fr.trans f2 (e_fr.mono q11 (fun c k q => by exact q))), (sRel.trans (sRel.up sRel.refl hw1 (fun q b g1 g2 => by omega)) q11S)⟩, q11T, by omega, q11d, q11c.imp id (fun h => ⟨h.1.trans (e_uq hw1 (Or.inl (by omega)) rfl), h.2.1.trans (e_uq hw1 (Or.inr (by omega)) rfl), h.2.2.1.trans (e_uq hw1 (Or.inr (by omega)) rfl), h.2.2.2⟩)⟩
  · replace h5 : (w 276 (1260 * t + 2 * bs g + 2 * pi (w 330 (10000 * a + p)) + 474) : Int) = 0 := Classical.not_not.mp (show ¬ ((w 276 (1260 * t + 2 * bs g + 2 * pi (w 330 (10000 * a + p)) + 474) : Int) ≠ 0) from h5)
    refine e_Ok.ps2 (x := (1, 275)) (y := (1, 275)) (q := 50) 2 rfl ?_
    refine e_Ok.getr (z := 334) rfl (el_o rfl) rfl (ef_o rfl) (e_uq hw1 (Or.inl (by decide)) (e_Has.eq hT (mt_o rfl))) ⟨by decide, by decide⟩ ?_
    refine e_Ok.ps1 (x := (0, 900 * a + z)) (q := 54) 1 rfl ?_
    refine e_Ok.ald (z := w 334 (900 * a + z)) rfl (el_o rfl) rfl (by omega) (e_uq hw1 (Or.inl (by decide)) rfl) (by omega) ?_
    refine e_Ok.callV rfl (e_dq hd rfl) rfl rfl rfl rfl (c_365 (e_dq hd rfl) hT3 (by omega) (e_uq hw1 (Or.inl (by first | decide | omega)) h97) (f := g + 1) (z := 1260 * t + 2 * g + 436) (e_uq hw1 (Or.inr (by omega)) hF) (by omega) (by omega)) (fun r13 w14 h15 => ?_)
    obtain ⟨rfl, hw14⟩ := h15
    have hT17 : e_Has mTy w14 := e_Has.upr hT3 hw14 (nR_FRg t (g) (by omega) (by omega) (by omega)) (by omega)
    refine e_Ok.nrm (q := 58) (st' := []) rfl rfl ?_
    refine e_Ok.ps0 (q := 85) 1 rfl ?_
    refine e_Ok.rets rfl rfl ?_
    have e18 : w14 276 5 = w 276 5 := (e_uq hw14 (Or.inr (by omega)) (e_uq hw1 (Or.inr (by omega)) rfl))
    have hrn := (runOk.to (w' := w14) (r' := w 331 (900 * a + z)) hru (fun c k q1 q2 => (e_uq hw14 (Or.inl (by omega)) (e_uq hw1 (Or.inl (by omega)) rfl))) (fun i q1 q2 => ⟨(e_uq hw14 (Or.inr (by omega)) (e_uq hw1 (Or.inr (by omega)) rfl)), (e_uq hw14 (Or.inr (by omega)) (e_uq hw1 (Or.inr (by omega)) rfl))⟩) (e_uq hw14 (Or.inr (by omega)) (e_uq hw1 (Or.inr (by omega)) rfl)) (by have q : w14 276 (1260 * t + 429) = bs g + pi (w 330 (10000 * a + p)) - 1 := (e_uq hw14 (Or.inr (by omega)) (e_ue hw1)); omega) (fun k q1 q2 => (e_uq hw14 (Or.inr (by omega)) (e_uq hw1 (Or.inr (by omega)) rfl))) (by omega) (by omega) (by omega) (fun q q1 q2 q3 => by have := han2 2 q (by omega) (by omega) q1; rwa [show 3 * z + 2 = w 330 (10000 * a + p) by omega] at this))
    exact ⟨rfl, ⟨(show e_fr (mLv t) w w14 from e_fr.up f2 hw14 (by first | exact Or.inr ⟨rfl, Or.inr (Or.inr (Or.inr (Or.inr (Or.inr (Or.inr (Or.inr (Or.inr (Or.inr ⟨(by omega), (by omega)⟩))))))))⟩ | (unfold mLv; omega))), (sRel.up (sRel.up sRel.refl hw1 (fun q b g1 g2 => by omega)) hw14 (fun q b g1 g2 => by omega))⟩, hT17, by omega, (Eq.trans (e_uq hw14 (Or.inl (by omega)) (e_uq hw1 (Or.inl (by omega)) rfl)) h102), Or.inr ⟨(e_uq hw14 (Or.inl (by omega)) (e_uq hw1 (Or.inl (by omega)) rfl)), (e_uq hw14 (Or.inr (by omega)) (e_uq hw1 (Or.inr (by omega)) rfl)), by omega, g, w 334 (900 * a + z), bs, ow, by omega, fun _ => by omega, runOk.at hrn (by omega) (e_ue hw14) (Eq.trans (show w14 330 (10000 * a + (w 334 (900 * a + z))) = w 330 (10000 * a + (w 334 (900 * a + z))) from (e_uq hw14 (Or.inl (by omega)) (e_uq hw1 (Or.inl (by omega)) rfl))) (by omega)), by omega, by omega⟩⟩
theorem c_379 {d : Nat} (hd : 22 ≤ d) {w : eW} (hT : e_Has mTy w) {t x : Int} (ht : 0 ≤ t ∧ t ≤ 15) (h96 : w 275 96 = t) (h97 : w 275 97 = 1260 * t + 416) (hx : -2147483648 ≤ x ∧ x ≤ 2147483647) : e_Ok 20 elay ecode eI d 379 (0, [(0, (1, 275)), (1, (0, x))], [], w) (fun r w' => ∃ z : Int, r = [(0, z)] ∧ e_fr (mTk t) w w' ∧ e_Has mTy w' ∧ ((z ≠ 0 ∧ w' 275 100 = w 275 100 ∧ w' 276 (1260 * t + 416) = w 276 (1260 * t + 416) ∧ 0 ≤ z ∧ z ≤ 9) ∨ (z = 0 ∧ w' 275 100 = w 275 100 ∧ w' 276 (1260 * t + 416) = w 276 (1260 * t + 416)) ∨ (z = 0 ∧ w' 275 100 = 1 ∧ w' 276 (1260 * t + 416) = 5))) := by
  obtain ⟨d, rfl⟩ : ∃ e, d = e + 1 := ⟨d - 1, by omega⟩
  refine e_Ok.ps3 (x := (4, 7)) (y := (4, 0)) (z := (4, x)) (q := 6) 4 rfl ?_
  refine e_Ok.callS rfl (e_dq hd rfl) rfl rfl (c_266) (fun r1 w2 h3 => ?_)
  obtain ⟨z4, rfl, rfl, q5⟩ := h3
  obtain ⟨rfl, q5⟩ | ⟨rfl, q5⟩ := q5
  · refine e_Ok.nrm (q := 9) (st' := [(0, 1)]) rfl rfl ?_
    refine e_Ok.if1 rfl (fun h6 => ?_) (fun h6 => ?_)
    · replace h6 : (1 : Int) ≠ 0 := h6
      refine e_Ok.ps1 (x := (1, 275)) (q := 15) 1 rfl ?_
      refine e_Ok.getr (z := 276) rfl (el_o rfl) rfl (ef_o rfl) (e_Has.eq hT (mt_o rfl)) ⟨by decide, by decide⟩ ?_
      refine e_Ok.ps2 (x := (0, x)) (y := (0, 20868)) (q := 22) 2 rfl ?_
      refine e_Ok.add (z := x + 20868) rfl (Int.add_comm _ _) (by omega) ?_
      have h7 := (e_Has.get hT (c := 276) (k := x + 20868) (lo := (-1)) (hi := 15) (nR_LOCK (l := x) (by omega)) (by decide))
      refine e_Ok.ald (z := w 276 (x + 20868)) rfl (el_o rfl) rfl (by omega) rfl (e_bq h7 (by decide) (by decide)) ?_
      refine e_Ok.ps1 (x := (1, 275)) (q := 25) 1 rfl ?_
      refine e_Ok.getf (z := t) rfl (el_o rfl) rfl (ef_o rfl) h96 (by omega) ?_
      refine e_Ok.if2 rfl (fun h8 => ?_) (fun h8 => ?_)
      · replace h8 : (w 276 (x + 20868) : Int) ≠ t := h8
        refine e_Ok.ps1 (x := (1, 275)) (q := 35) 1 rfl ?_
        refine e_Ok.getr (z := 276) rfl (el_o rfl) rfl (ef_o rfl) (e_Has.eq hT (mt_o rfl)) ⟨by decide, by decide⟩ ?_
        refine e_Ok.ps2 (x := (0, x)) (y := (0, 20868)) (q := 42) 2 rfl ?_
        refine e_Ok.add (z := x + 20868) rfl (Int.add_comm _ _) (by omega) ?_
        refine e_Ok.ald (z := w 276 (x + 20868)) rfl (el_o rfl) rfl (by omega) rfl (by omega) ?_
        refine e_Ok.if1 rfl (fun h9 => ?_) (fun h9 => ?_)
        · replace h9 : (w 276 (x + 20868) : Int) ≥ 0 := h9
          refine e_Ok.ps1 (x := (1, 275)) (q := 65) 1 rfl ?_
          refine e_Ok.getr (z := 276) rfl (el_o rfl) rfl (ef_o rfl) (e_Has.eq hT (mt_o rfl)) ⟨by decide, by decide⟩ ?_
          refine e_Ok.ps1 (x := (1, 275)) (q := 69) 1 rfl ?_
          refine e_Ok.getf (z := 1260 * t + 416) rfl (el_o rfl) rfl (ef_o rfl) h97 (by omega) ?_
          refine e_Ok.ps1 (x := (0, 5)) (q := 73) 1 rfl ?_
          refine e_Ok.ast rfl (el_o rfl) rfl rfl (by omega) ?_
          generalize hw10 : e_up w 276 (1260 * t + 416) 5 = w10
          have hT12 : e_Has mTy w10 := e_Has.upr hT hw10 (nR_TSTATE (t := t) (by omega)) (by omega)
          refine e_Ok.ps1 (x := (1, 275)) (q := 75) 1 rfl ?_
          refine e_Ok.getr (z := 276) rfl (el_o rfl) rfl (ef_o rfl) (e_uq hw10 (Or.inl (by decide)) (e_Has.eq hT (mt_o rfl))) ⟨by decide, by decide⟩ ?_
          refine e_Ok.ps1 (x := (1, 275)) (q := 79) 1 rfl ?_
          refine e_Ok.getf (z := 1260 * t + 416) rfl (el_o rfl) rfl (ef_o rfl) (e_uq hw10 (Or.inl (by decide)) h97) (by omega) ?_
          refine e_Ok.ps1 (x := (0, 5)) (q := 83) 1 rfl ?_
          refine e_Ok.add (z := 1260 * t + 421) rfl (e_adl (by decide)) (by omega) ?_
          refine e_Ok.ps1 (x := (0, x)) (q := 85) 1 rfl ?_
          refine e_Ok.ast rfl (el_o rfl) rfl rfl (by omega) ?_
          generalize hw13 : e_up w10 276 (1260 * t + 421) x = w13
          have hT15 : e_Has mTy w13 := e_Has.upr hT12 hw13 (nR_WANT (t := t) (by omega)) (by omega)
          refine e_Ok.ps1 (x := (1, 275)) (q := 87) 1 rfl ?_
          refine e_Ok.getr (z := 276) rfl (el_o rfl) rfl (ef_o rfl) (e_uq hw13 (Or.inl (by decide)) (e_uq hw10 (Or.inl (by decide)) (e_Has.eq hT (mt_o rfl)))) ⟨by decide, by decide⟩ ?_
          refine e_Ok.ps1 (x := (1, 275)) (q := 91) 1 rfl ?_
          refine e_Ok.getf (z := 1260 * t + 416) rfl (el_o rfl) rfl (ef_o rfl) (e_uq hw13 (Or.inl (by decide)) (e_uq hw10 (Or.inl (by decide)) h97)) (by omega) ?_
          refine e_Ok.ps1 (x := (0, 6)) (q := 96) 1 rfl ?_
          refine e_Ok.add (z := 1260 * t + 422) rfl (e_adl (by decide)) (by omega) ?_
          refine e_Ok.ps1 (x := (1, 275)) (q := 98) 1 rfl ?_
          refine e_Ok.getr (z := 276) rfl (el_o rfl) rfl (ef_o rfl) (e_uq hw13 (Or.inl (by decide)) (e_uq hw10 (Or.inl (by decide)) (e_Has.eq hT (mt_o rfl)))) ⟨by decide, by decide⟩ ?_
          refine e_Ok.ps1 (x := (0, 6)) (q := 103) 1 rfl ?_
          have h16 := (e_Has.get hT (c := 276) (k := 6) (lo := (-2147483648)) (hi := 2147483647) (mt_o rfl) (by decide))
          refine e_Ok.ald (z := w 276 6) rfl (el_o rfl) rfl (by omega) (e_uq hw13 (Or.inr (by omega)) (e_uq hw10 (Or.inr (by omega)) rfl)) (e_bq h16 (by decide) (by decide)) ?_
          refine e_Ok.ast rfl (el_o rfl) rfl rfl (by omega) ?_
          generalize hw17 : e_up w13 276 (1260 * t + 422) (w 276 6) = w17
          have hT19 : e_Has mTy w17 := e_Has.upr hT15 hw17 (nR_ORDER_IN (t := t) (by omega)) (by omega)
          refine e_Ok.ps1 (x := (1, 275)) (q := 106) 1 rfl ?_
          refine e_Ok.getr (z := 276) rfl (el_o rfl) rfl (ef_o rfl) (e_uq hw17 (Or.inl (by decide)) (e_uq hw13 (Or.inl (by decide)) (e_uq hw10 (Or.inl (by decide)) (e_Has.eq hT (mt_o rfl))))) ⟨by decide, by decide⟩ ?_
          refine e_Ok.ps3 (x := (0, 6)) (y := (1, 276)) (z := (0, 6)) (q := 112) 2 rfl ?_
          refine e_Ok.ald (z := w 276 6) rfl (el_o rfl) rfl (by omega) (e_uq hw17 (Or.inr (by omega)) (e_uq hw13 (Or.inr (by omega)) (e_uq hw10 (Or.inr (by omega)) rfl))) (by omega) ?_
          refine e_Ok.ps1 (x := (0, 1)) (q := 114) 1 rfl ?_
          refine e_Ok.any rfl (eF_add_any _ _) (fun z20 z20a z20b => ?_)
          refine e_Ok.ast rfl (el_o rfl) rfl rfl (by omega) ?_
          generalize hw21 : e_up w17 276 6 z20 = w21
          have hT23 : e_Has mTy w21 := e_Has.upr hT19 hw21 (mt_o rfl) (by omega)
          refine e_Ok.ps2 (x := (0, 1)) (y := (1, 275)) (q := 118) 2 rfl ?_
          refine e_Ok.putb rfl (el_o rfl) rfl (ef_o rfl) (by omega) ?_
          generalize hw24 : e_up w21 275 100 1 = w24
          have hT26 : e_Has mTy w24 := e_Has.ups hT23 hw24 (mt_o rfl)
          refine e_Ok.ps1 (x := (0, 0)) (q := 122) 1 rfl ?_
          refine e_Ok.rets rfl rfl ?_
          have eo : w24 275 100 = 1 := (e_ue hw24)
          have es : w24 276 (1260 * t + 416) = 5 := (e_uq hw24 (Or.inl (by decide)) (e_uq hw21 (Or.inr (by omega)) (e_uq hw17 (Or.inr (e_neo (by decide))) (e_uq hw13 (Or.inr (e_neo (by decide))) (e_ue hw10)))))
          exact ⟨_, rfl, (show e_fr (mTk t) w w24 from e_fr.up (show e_fr (mTk t) w w21 from e_fr.up (show e_fr (mTk t) w w17 from e_fr.up (show e_fr (mTk t) w w13 from e_fr.up (show e_fr (mTk t) w w10 from e_fr.up (e_fr.refl w) hw10 (by first | exact Or.inr ⟨rfl, Or.inr (Or.inr (Or.inl (by omega)))⟩ | (unfold mTk; omega))) hw13 (by first | exact Or.inr ⟨rfl, Or.inr (Or.inr (Or.inr (Or.inl (by omega))))⟩ | (unfold mTk; omega))) hw17 (by first | exact Or.inr ⟨rfl, Or.inr (Or.inr (Or.inr (Or.inr (by omega))))⟩ | (unfold mTk; omega))) hw21 (by first | exact Or.inr ⟨rfl, Or.inr (Or.inl rfl)⟩ | (unfold mTk; omega))) hw24 (by first | exact Or.inl ⟨rfl, rfl⟩ | (unfold mTk; omega))), hT26, by omega⟩
        · replace h9 : (w 276 (x + 20868) : Int) < 0 := Int.not_le.mp (show ¬ ((w 276 (x + 20868) : Int) ≥ 0) from h9)
          refine e_Ok.ps1 (x := (1, 275)) (q := 48) 1 rfl ?_
          refine e_Ok.getr (z := 276) rfl (el_o rfl) rfl (ef_o rfl) (e_Has.eq hT (mt_o rfl)) ⟨by decide, by decide⟩ ?_
          refine e_Ok.ps2 (x := (0, x)) (y := (0, 20868)) (q := 55) 2 rfl ?_
          refine e_Ok.add (z := x + 20868) rfl (Int.add_comm _ _) (by omega) ?_
          refine e_Ok.ps1 (x := (1, 275)) (q := 57) 1 rfl ?_
          refine e_Ok.getf (z := t) rfl (el_o rfl) rfl (ef_o rfl) h96 (by omega) ?_
          refine e_Ok.ast rfl (el_o rfl) rfl rfl (by omega) ?_
          generalize hw27 : e_up w 276 (x + 20868) t = w27
          have hT29 : e_Has mTy w27 := e_Has.upr hT hw27 (nR_LOCK (l := x) (by omega)) (by omega)
          refine e_Ok.ps1 (x := (0, 0)) (q := 122) 2 rfl ?_
          refine e_Ok.rets rfl rfl ?_
          have eo : w27 275 100 = w 275 100 := (e_uq hw27 (Or.inl (by decide)) rfl)
          have es : w27 276 (1260 * t + 416) = w 276 (1260 * t + 416) := (e_uq hw27 (Or.inr (by omega)) rfl)
          exact ⟨_, rfl, (show e_fr (mTk t) w w27 from e_fr.up (e_fr.refl w) hw27 (by unfold mTk; omega)), hT29, by omega⟩
      · replace h8 : (w 276 (x + 20868) : Int) = t := Classical.not_not.mp (show ¬ ((w 276 (x + 20868) : Int) ≠ t) from h8)
        refine e_Ok.ps1 (x := (0, 9)) (q := 33) 1 rfl ?_
        refine e_Ok.rets rfl rfl ?_
        have eo : w 275 100 = w 275 100 := rfl
        have es : w 276 (1260 * t + 416) = w 276 (1260 * t + 416) := rfl
        exact ⟨_, rfl, (e_fr.refl w), hT, by omega⟩
    · replace h6 : (1 : Int) = 0 := Classical.not_not.mp (show ¬ ((1 : Int) ≠ 0) from h6)
      exfalso; omega
  · refine e_Ok.nrm (q := 9) (st' := [(0, 0)]) rfl rfl ?_
    refine e_Ok.if1 rfl (fun h30 => ?_) (fun h30 => ?_)
    · replace h30 : (0 : Int) ≠ 0 := h30
      exfalso; omega
    · replace h30 : (0 : Int) = 0 := Classical.not_not.mp (show ¬ ((0 : Int) ≠ 0) from h30)
      refine e_Ok.ps1 (x := (0, 2)) (q := 13) 1 rfl ?_
      refine e_Ok.rets rfl rfl ?_
      have eo : w 275 100 = w 275 100 := rfl
      have es : w 276 (1260 * t + 416) = w 276 (1260 * t + 416) := rfl
      exact ⟨_, rfl, (e_fr.refl w), hT, by omega⟩
end
end
-- part 62b
section
noncomputable section
section E62b
variable {fd : Nat} {lay : List eY} {code : Nat → Nat → eE} {I : Nat → xM} {d M k a b p : Nat} {l : eL} {r : List eV} {w : eW} {Q : List eV → eW → Prop}
theorem e_Ok.sw {x : Int} {tg : Nat} {arms : List (Int × Int × Nat)} (hc : code M p = (0, ei_sw arms, a, b)) (ht : e_arm x arms = some tg) (h : e_Ok fd lay code I d M (tg, l, r, w) Q) : e_Ok fd lay code I d M (p, l, (0, x) :: r, w) Q := by
  refine e_Ok.step hc ?_ h
  unfold ei_sw
  simp only [ht]
end E62b
theorem e_kn.put {w w' : eW} {c a b b' k z : Int} (h : e_kn w c a b) (hw : e_up w c k z = w') (hz : -2147483648 ≤ z ∧ z ≤ 2147483647) (hb : b' ≤ b ∨ (k = b + 1 ∧ b' = k)) : e_kn w' c a b' := fun i h1 h2 => by
  subst hw
  by_cases e : i = k
  · rw [e, e_up_eq]; exact hz
  · rw [e_up_ne _ _ (Or.inr e)]; exact h i h1 (by omega)
theorem e_kn.le {w : eW} {c a b b' : Int} (h : e_kn w c a b) (hb : b' ≤ b) : e_kn w c a b' := fun i h1 h2 => h i h1 (by omega)
def mRk (t c k : Int) : Prop := mLv t c k ∨ c = 345 ∨ c = 326
end
end
-- part 63
section
noncomputable section
def Hd63 (p : Prop) : Prop := p
theorem Hd63.out {p : Prop} (h : Hd63 p) : p := h
theorem c_375 {d : Nat} {w : eW} {o x y : Int} (ho : 10 ≤ o ∧ o ≤ 20) (hz : (o = 13 ∨ o = 14) → y ≠ 0) : e_Ok 20 elay ecode eI d 375 (0, [(0, (0, o)), (1, (0, x)), (2, (0, y))], [], w) (fun r w' => ∃ z : Int, r = [(0, z)] ∧ w = w' ∧ -2147483648 ≤ z ∧ z ≤ 2147483647) := by
  refine e_Ok.ps1 (x := (0, o)) (q := 1) 1 rfl ?_
  have hs2 : ∀ x : Int, 10 ≤ x ∧ x ≤ 20 → (x = 10) ∨ (x = 11) ∨ (x = 12) ∨ (x = 13) ∨ (x = 14) ∨ (x = 15) ∨ (x = 16) ∨ (x = 17) ∨ (x = 18) ∨ (x = 19) ∨ (x = 20) := fun x h => by omega
  obtain h1 | h1 | h1 | h1 | h1 | h1 | h1 | h1 | h1 | h1 | h1 := hs2 (o) (by omega)
  · refine e_Ok.sw (tg := 56) rfl (by rw [h1]; rfl) ?_
    refine e_Ok.run (t' := (58, [(0, (0, o)), (1, (0, x)), (2, (0, y))], [(0, y), (0, x)], w)) 2 rfl ?_
    refine e_Ok.any rfl (eF_add_any _ _) (fun z3 z3a z3b => ?_)
    refine e_Ok.rets rfl rfl ?_
    exact ⟨_, rfl, rfl, by omega, by omega⟩
  · refine e_Ok.sw (tg := 60) rfl (by rw [h1]; rfl) ?_
    refine e_Ok.run (t' := (62, [(0, (0, o)), (1, (0, x)), (2, (0, y))], [(0, y), (0, x)], w)) 2 rfl ?_
    refine e_Ok.any rfl (eF_sub_any _ _) (fun z4 z4a z4b => ?_)
    refine e_Ok.rets rfl rfl ?_
    exact ⟨_, rfl, rfl, by omega, by omega⟩
  · refine e_Ok.sw (tg := 64) rfl (by rw [h1]; rfl) ?_
    refine e_Ok.run (t' := (66, [(0, (0, o)), (1, (0, x)), (2, (0, y))], [(0, y), (0, x)], w)) 2 rfl ?_
    refine e_Ok.any rfl (eF_mul_any _ _) (fun z5 z5a z5b => ?_)
    refine e_Ok.rets rfl rfl ?_
    exact ⟨_, rfl, rfl, by omega, by omega⟩
  · refine e_Ok.sw (tg := 68) rfl (by rw [h1]; rfl) ?_
    have hyz := hz (by omega)
    refine e_Ok.run (t' := (70, [(0, (0, o)), (1, (0, x)), (2, (0, y))], [(0, y), (0, x)], w)) 2 rfl ?_
    refine e_Ok.any rfl (eF_div_any (by omega)) (fun z6 z6a z6b => ?_)
    refine e_Ok.rets rfl rfl ?_
    exact ⟨_, rfl, rfl, by omega, by omega⟩
  · refine e_Ok.sw (tg := 72) rfl (by rw [h1]; rfl) ?_
    have hyz := hz (by omega)
    refine e_Ok.run (t' := (74, [(0, (0, o)), (1, (0, x)), (2, (0, y))], [(0, y), (0, x)], w)) 2 rfl ?_
    refine e_Ok.any rfl (eF_rem_any (by omega)) (fun z7 z7a z7b => ?_)
    refine e_Ok.rets rfl rfl ?_
    exact ⟨_, rfl, rfl, by omega, by omega⟩
  · refine e_Ok.sw (tg := 76) rfl (by rw [h1]; rfl) ?_
    refine e_Ok.run (t' := (78, [(0, (0, o)), (1, (0, x)), (2, (0, y))], [(0, y), (0, x)], w)) 2 rfl ?_
    have hJ10 : ∀ m9 : Int, 0 ≤ m9 ∧ m9 ≤ 1 → e_Ok 20 elay ecode eI d 375 (86, [(0, (0, o)), (1, (0, x)), (2, (0, y))], [(0, m9)], w) (fun r w' => ∃ z : Int, r = [(0, z)] ∧ w = w' ∧ -2147483648 ≤ z ∧ z ≤ 2147483647) := by
      intro m9 m9r
      refine e_Ok.rets rfl rfl ?_
      exact ⟨_, rfl, rfl, by omega, by omega⟩
    refine e_Ok.if2 rfl (fun h8 => ?_) (fun h8 => ?_)
    · exact e_Ok.run 1 rfl (hJ10 0 (by omega))
    · exact e_Ok.run 2 rfl (hJ10 1 (by omega))
  · refine e_Ok.sw (tg := 87) rfl (by rw [h1]; rfl) ?_
    refine e_Ok.run (t' := (89, [(0, (0, o)), (1, (0, x)), (2, (0, y))], [(0, y), (0, x)], w)) 2 rfl ?_
    have hJ13 : ∀ m12 : Int, 0 ≤ m12 ∧ m12 ≤ 1 → e_Ok 20 elay ecode eI d 375 (97, [(0, (0, o)), (1, (0, x)), (2, (0, y))], [(0, m12)], w) (fun r w' => ∃ z : Int, r = [(0, z)] ∧ w = w' ∧ -2147483648 ≤ z ∧ z ≤ 2147483647) := by
      intro m12 m12r
      refine e_Ok.rets rfl rfl ?_
      exact ⟨_, rfl, rfl, by omega, by omega⟩
    refine e_Ok.if2 rfl (fun h11 => ?_) (fun h11 => ?_)
    · exact e_Ok.run 1 rfl (hJ13 0 (by omega))
    · exact e_Ok.run 2 rfl (hJ13 1 (by omega))
  · refine e_Ok.sw (tg := 98) rfl (by rw [h1]; rfl) ?_
    refine e_Ok.run (t' := (100, [(0, (0, o)), (1, (0, x)), (2, (0, y))], [(0, y), (0, x)], w)) 2 rfl ?_
    have hJ16 : ∀ m15 : Int, 0 ≤ m15 ∧ m15 ≤ 1 → e_Ok 20 elay ecode eI d 375 (108, [(0, (0, o)), (1, (0, x)), (2, (0, y))], [(0, m15)], w) (fun r w' => ∃ z : Int, r = [(0, z)] ∧ w = w' ∧ -2147483648 ≤ z ∧ z ≤ 2147483647) := by
      intro m15 m15r
      refine e_Ok.rets rfl rfl ?_
      exact ⟨_, rfl, rfl, by omega, by omega⟩
    refine e_Ok.if2 rfl (fun h14 => ?_) (fun h14 => ?_)
    · exact e_Ok.run 1 rfl (hJ16 0 (by omega))
    · exact e_Ok.run 2 rfl (hJ16 1 (by omega))
  · refine e_Ok.sw (tg := 109) rfl (by rw [h1]; rfl) ?_
    refine e_Ok.run (t' := (111, [(0, (0, o)), (1, (0, x)), (2, (0, y))], [(0, y), (0, x)], w)) 2 rfl ?_
    have hJ19 : ∀ m18 : Int, 0 ≤ m18 ∧ m18 ≤ 1 → e_Ok 20 elay ecode eI d 375 (119, [(0, (0, o)), (1, (0, x)), (2, (0, y))], [(0, m18)], w) (fun r w' => ∃ z : Int, r = [(0, z)] ∧ w = w' ∧ -2147483648 ≤ z ∧ z ≤ 2147483647) := by
      intro m18 m18r
      refine e_Ok.rets rfl rfl ?_
      exact ⟨_, rfl, rfl, by omega, by omega⟩
    refine e_Ok.if2 rfl (fun h17 => ?_) (fun h17 => ?_)
    · exact e_Ok.run 1 rfl (hJ19 0 (by omega))
    · exact e_Ok.run 2 rfl (hJ19 1 (by omega))
  · refine e_Ok.sw (tg := 120) rfl (by rw [h1]; rfl) ?_
    refine e_Ok.run (t' := (122, [(0, (0, o)), (1, (0, x)), (2, (0, y))], [(0, y), (0, x)], w)) 2 rfl ?_
    have hJ22 : ∀ m21 : Int, 0 ≤ m21 ∧ m21 ≤ 1 → e_Ok 20 elay ecode eI d 375 (130, [(0, (0, o)), (1, (0, x)), (2, (0, y))], [(0, m21)], w) (fun r w' => ∃ z : Int, r = [(0, z)] ∧ w = w' ∧ -2147483648 ≤ z ∧ z ≤ 2147483647) := by
      intro m21 m21r
      refine e_Ok.rets rfl rfl ?_
      exact ⟨_, rfl, rfl, by omega, by omega⟩
    refine e_Ok.if2 rfl (fun h20 => ?_) (fun h20 => ?_)
    · exact e_Ok.run 1 rfl (hJ22 0 (by omega))
    · exact e_Ok.run 2 rfl (hJ22 1 (by omega))
  · refine e_Ok.sw (tg := 131) rfl (by rw [h1]; rfl) ?_
    refine e_Ok.run (t' := (133, [(0, (0, o)), (1, (0, x)), (2, (0, y))], [(0, y), (0, x)], w)) 2 rfl ?_
    have hJ25 : ∀ m24 : Int, 0 ≤ m24 ∧ m24 ≤ 1 → e_Ok 20 elay ecode eI d 375 (141, [(0, (0, o)), (1, (0, x)), (2, (0, y))], [(0, m24)], w) (fun r w' => ∃ z : Int, r = [(0, z)] ∧ w = w' ∧ -2147483648 ≤ z ∧ z ≤ 2147483647) := by
      intro m24 m24r
      refine e_Ok.rets rfl rfl ?_
      exact ⟨_, rfl, rfl, by omega, by omega⟩
    refine e_Ok.if2 rfl (fun h23 => ?_) (fun h23 => ?_)
    · exact e_Ok.run 1 rfl (hJ25 0 (by omega))
    · exact e_Ok.run 2 rfl (hJ25 1 (by omega))
theorem no_63_0 {k : Int} : ¬ mQ 275 k := by unfold mQ; omega
theorem no_63_1 {k : Int} : ¬ mQ 276 k := by unfold mQ; omega
theorem no_63_2 {k : Int} : ¬ mQ 330 k := by unfold mQ; omega
theorem su_63_3 {t : Int} {c k : Int} (q : mQ c k) : mRk t c k := by
  unfold mQ at q
  rcases q with q
  · exact Or.inr (Or.inr (by omega))
theorem su_63_4 {t : Int} {c k : Int} (q : mLv t c k) : mRk t c k := Or.inl q
set_option maxHeartbeats 4000000 in
theorem c_374_a {d : Nat} (hd : 33 ≤ d) {w : eW} (hT : e_Has mTy w) (hA : mAc w) {t a g : Int} (ht : 0 ≤ t ∧ t ≤ 15) (ha : 0 ≤ a ∧ a ≤ 3) (h96 : w 275 96 = t) (h97 : w 275 97 = 1260 * t + 416) (h98 : w 275 98 = a) {n nt nw : Int} {dl sg pi en : Int → Int} {an br : Int → Int → Prop} {bs ow : Int → Int} (hC : cOk w a n nt nw dl sg pi en an br) {p : Int} (hP : topOk w a t g p n nt nw dl sg pi an br bs ow) (hE : w 276 5 ≤ 2147483000) (h102 : w 275 102 = dl p) (hst : e_kn w 345 0 (dl p - 1)) (hop : w 328 (10000 * a + p) < 30) (hsel : 1 ≤ w 328 (10000 * a + p) ∧ w 328 (10000 * a + p) ≤ 6) : e_Ok 20 elay ecode eI d 374 (0, [(0, (1, 275)), (1, (0, w 328 (10000 * a + p))), (2, (0, w 329 (10000 * a + p))), (3, (0, p))], [], w) (fun r' w' => r' = [] ∧ (e_fr (mRk t) w w' ∧ sRel w w') ∧ e_Has mTy w' ∧ (w 276 5 ≤ w' 276 5 ∧ w' 276 5 ≤ w 276 5 + 2) ∧ ((w' 275 102 = 0 ∧ ((w' 275 100 = 1 ∧ (w' 276 (1260 * t + 416) = 6 ∨ w' 276 (1260 * t + 416) = 7)) ∨ (w' 275 100 = w 275 100 ∧ w' 276 (1260 * t + 416) = w 276 (1260 * t + 416) ∧ w' 276 5 = w 276 5 ∧ ∃ (g' p' : Int) (bs' ow' : Int → Int), g' ≤ g ∧ (g' = g → p < p') ∧ topOk w' a t g' p' n nt nw dl sg pi an br bs' ow' ∧ dl p' = 0 ∧ sg p' = 0))) ∨ (w' 275 100 = w 275 100 ∧ w' 276 (1260 * t + 416) = w 276 (1260 * t + 416) ∧ w' 276 5 = w 276 5 ∧ ∃ p', topOk w' a t g p' n nt nw dl sg pi an br bs ow ∧ w' 275 102 = dl p' ∧ e_kn w' 345 0 (dl p' - 1) ∧ sg p' = 1 ∧ p < p'))) := by
  obtain ⟨d, rfl⟩ : ∃ e, d = e + 1 := ⟨d - 1, by omega⟩
  obtain ⟨hpn, hpc, hru⟩ := id hP
  obtain ⟨hg, hF, hlow, hrr, hPn, hch, hpe⟩ := id hru
  have hCn := hC.1
  have hins := hC.2.1 p hpn.1 hpn.2
  have hbg := hlow.2.1 g (by omega) (by omega)
  have hpen := hins.1.2.2.2.1
  have hpib := hC.2.2.2.1.2.1 _ hrr.1 hrr.2
  obtain ⟨hi0, hi1, hi2, hi3, hi4, hi5, hi6, -⟩ := id hins
  replace hi1 := (show Hd63 _ from hi1)
  replace hi2 := (show Hd63 _ from hi2)
  replace hi3 := (show Hd63 _ from hi3)
  replace hi4 := (show Hd63 _ from hi4)
  replace hi5 := (show Hd63 _ from hi5)
  replace hi6 := (show Hd63 _ from hi6)
  replace hins := (show Hd63 _ from hins)
  have hop24 : 1 ≤ w 328 (10000 * a + p) ∧ w 328 (10000 * a + p) ≤ 24 := ⟨hi0.1.1, hi0.1.2.2.resolve_right (Int.not_le.mpr hop)⟩
  have har := e_Has.get hT (c := 329) (k := 10000 * a + p) (lo := -2147483648) (hi := 2147483647) (mt_o rfl) (by decide)
  refine e_Ok.run (t' := (2, [(0, (1, 275)), (1, (0, w 328 (10000 * a + p))), (2, (0, w 329 (10000 * a + p))), (3, (0, p))], [(0, 1), (0, p)], w)) 2 rfl ?_
  refine e_Ok.add (z := p + 1) rfl rfl (by omega) ?_
  refine e_Ok.run (t' := (6, [(4, (0, p + 1)), (0, (1, 275)), (1, (0, w 328 (10000 * a + p))), (2, (0, w 329 (10000 * a + p))), (3, (0, p))], [(0, w 328 (10000 * a + p))], w)) 2 rfl ?_
  have hs2 : ∀ x : Int, 1 ≤ x ∧ x ≤ 24 → (x = 1) ∨ (x = 2) ∨ (x = 3) ∨ (x = 4) ∨ (x = 5) ∨ (x = 6) ∨ (x = 7) ∨ (x = 8) ∨ (x = 9) ∨ (x = 10 ∨ x = 11 ∨ x = 12 ∨ x = 13 ∨ x = 14 ∨ x = 15 ∨ x = 16 ∨ x = 17 ∨ x = 18 ∨ x = 19 ∨ x = 20) ∨ (x = 21) ∨ (x = 22) ∨ (x = 23) ∨ (x = 24) := fun x h => by omega
  obtain h1 | h1 | h1 | h1 | h1 | h1 | h1 | h1 | h1 | h1 | h1 | h1 | h1 | h1 := hs2 (w 328 (10000 * a + p)) (hop24)
  · refine e_Ok.sw (tg := 116) rfl (by rw [h1]; rfl) ?_
    have k1 := hi1.out (by omega)
    unfold iFT at k1
    have k2 := hi2.out (by omega)
    refine e_Ok.run (t' := (118, [(4, (0, p + 1)), (0, (1, 275)), (1, (0, w 328 (10000 * a + p))), (2, (0, w 329 (10000 * a + p))), (3, (0, p))], [(0, w 329 (10000 * a + p)), (1, 275)], w)) 2 rfl ?_
    refine e_Ok.callV rfl (e_dq hd rfl) rfl rfl rfl rfl (c_363 hT (e := dl p) (e1 := dl p + 1) h102 (by omega) (by omega)) (fun r3 w4 h5 => ?_)
    obtain ⟨rfl, hw4⟩ := h5
    generalize hw6 : e_up w 345 (dl p) (w 329 (10000 * a + p)) = w6 at hw4
    have hT8 : e_Has mTy w6 := e_Has.ups hT hw6 (mt_o rfl)
    have hT10 : e_Has mTy w4 := e_Has.ups hT8 hw4 (mt_o rfl)
    refine e_Ok.nrm (q := 121) (st' := []) rfl rfl ?_
    refine e_Ok.ps2 (x := (0, p + 1)) (y := (1, 275)) (q := 460) 3 rfl ?_
    refine e_Ok.callV rfl (e_dq hd rfl) rfl rfl rfl rfl (c_365 (e_dq hd rfl) hT10 (by omega) (e_uq hw4 (Or.inr (by omega)) (e_uq hw6 (Or.inl (by first | decide | omega)) h97)) (f := g + 1) (z := 1260 * t + 2 * g + 436) (e_uq hw4 (Or.inl (by first | decide | omega)) (e_uq hw6 (Or.inl (by first | decide | omega)) hF)) (by omega) (by omega)) (fun r11 w12 h13 => ?_)
    obtain ⟨rfl, hw12⟩ := h13
    have hT15 : e_Has mTy w12 := e_Has.upr hT10 hw12 (nR_FRg t (g) (by omega) (by omega) (by omega)) (by omega)
    refine e_Ok.nrm (q := 463) (st' := []) rfl rfl ?_
    refine e_Ok.rets rfl rfl ?_
    have e16 : w12 276 5 = w 276 5 := (e_uq hw12 (Or.inr (by omega)) (e_uq hw4 (Or.inl (by omega)) (e_uq hw6 (Or.inl (by omega)) rfl)))
    have hrn := runOk.fr (w' := w12) (fun c k q1 q2 => (e_uq hw12 (Or.inl (by omega)) (e_uq hw4 (Or.inl (by omega)) (e_uq hw6 (Or.inl (by omega)) rfl)))) (fun i q1 q2 => ⟨(e_uq hw12 (Or.inr (by omega)) (e_uq hw4 (Or.inl (by omega)) (e_uq hw6 (Or.inl (by omega)) rfl))), (e_uq hw12 (Or.inr (by omega)) (e_uq hw4 (Or.inl (by omega)) (e_uq hw6 (Or.inl (by omega)) rfl)))⟩) (e_uq hw12 (Or.inr (by omega)) (e_uq hw4 (Or.inl (by omega)) (e_uq hw6 (Or.inl (by omega)) rfl))) (e_uq hw12 (Or.inr (by omega)) (e_uq hw4 (Or.inl (by omega)) (e_uq hw6 (Or.inl (by omega)) rfl))) (fun k q1 q2 => (e_uq hw12 (Or.inr (by omega)) (e_uq hw4 (Or.inl (by omega)) (e_uq hw6 (Or.inl (by omega)) rfl)))) (by omega) hru
    have erg : w12 330 (10000 * a + (p + 1)) = w 330 (10000 * a + p) := by rw [show 10000 * a + (p + 1) = 10000 * a + p + 1 by omega]; exact Eq.trans (e_uq hw12 (Or.inl (by first | decide | omega)) (e_uq hw4 (Or.inl (by first | decide | omega)) (e_uq hw6 (Or.inl (by first | decide | omega)) rfl))) k1.2.2.2
    have ede : w12 275 102 = dl p + 1 := (e_uq hw12 (Or.inl (by omega)) (e_ue hw4))
    exact ⟨rfl, ⟨(show e_fr (mRk t) w w12 from e_fr.up (show e_fr (mRk t) w w4 from e_fr.up (show e_fr (mRk t) w w6 from e_fr.up (e_fr.refl w) hw6 (by first | exact Or.inr (Or.inl rfl) | (unfold mRk mLv; omega))) hw4 (by first | exact Or.inl (Or.inl ⟨rfl, Or.inr rfl⟩) | (unfold mRk mLv; omega))) hw12 (by first | exact Or.inl (Or.inr ⟨rfl, Or.inr (Or.inr (Or.inr (Or.inr (Or.inr (Or.inr (Or.inr (Or.inr (Or.inr ⟨(by omega), (by omega)⟩))))))))⟩) | (unfold mRk mLv; omega))), (sRel.up (sRel.up (sRel.up sRel.refl hw6 (fun q b g1 g2 => by omega)) hw4 (fun q b g1 g2 => by omega)) hw12 (fun q b g1 g2 => by omega))⟩, hT15, by omega, Or.inr ⟨(e_uq hw12 (Or.inl (by omega)) (e_uq hw4 (Or.inr (by omega)) (e_uq hw6 (Or.inl (by omega)) rfl))), (e_uq hw12 (Or.inr (by omega)) (e_uq hw4 (Or.inl (by omega)) (e_uq hw6 (Or.inl (by omega)) rfl))), by omega, p + 1, runOk.at hrn (by omega) (e_ue hw12) erg, by omega, e_kn.le (e_kn.oth (e_kn.oth (e_kn.put (b' := dl p) hst hw6 (by omega) (by omega)) hw4 (by decide)) hw12 (by decide)) (by omega), by omega, by omega⟩⟩
  · refine e_Ok.sw (tg := 124) rfl (by rw [h1]; rfl) ?_
    have k1 := hi1.out (by omega)
    unfold iFT at k1
    have k2 := hi2.out (by omega)
    have k3 := hi3.out (by omega)
    refine e_Ok.run (t' := (126, [(4, (0, p + 1)), (0, (1, 275)), (1, (0, w 328 (10000 * a + p))), (2, (0, w 329 (10000 * a + p))), (3, (0, p))], [(1, 275), (1, 275)], w)) 2 rfl ?_
    refine e_Ok.getr (z := 276) rfl (el_o rfl) rfl (ef_o rfl) (e_Has.eq hT (mt_o rfl)) ⟨by decide, by decide⟩ ?_
    refine e_Ok.ps3 (x := (1, 275)) (y := (0, 32)) (z := (0, 20932)) (q := 135) 3 rfl ?_
    refine e_Ok.getf (z := a) rfl (el_o rfl) rfl (ef_o rfl) h98 (by omega) ?_
    refine e_Ok.mul (z := 32 * a) rfl rfl (by omega) ?_
    refine e_Ok.add (z := 32 * a + 20932) rfl (Int.add_comm _ _) (by omega) ?_
    refine e_Ok.ps1 (x := (0, w 329 (10000 * a + p))) (q := 141) 1 rfl ?_
    refine e_Ok.add (z := 32 * a + w 329 (10000 * a + p) + 20932) rfl (by omega) (by omega) ?_
    have h17 := (e_Has.get hT (c := 276) (k := 32 * a + w 329 (10000 * a + p) + 20932) (lo := (-2147483648)) (hi := 2147483647) (nR_mid (by omega)) (by decide))
    refine e_Ok.ald (z := w 276 (32 * a + w 329 (10000 * a + p) + 20932)) rfl rfl rfl (by omega) rfl (e_bq h17 (by decide) (by decide)) ?_
    refine e_Ok.callV rfl (e_dq hd rfl) rfl rfl rfl rfl (c_363 hT (e := dl p) (e1 := dl p + 1) h102 (by omega) (by omega)) (fun r18 w19 h20 => ?_)
    obtain ⟨rfl, hw19⟩ := h20
    generalize hw21 : e_up w 345 (dl p) (w 276 (32 * a + w 329 (10000 * a + p) + 20932)) = w21 at hw19
    have hT23 : e_Has mTy w21 := e_Has.ups hT hw21 (mt_o rfl)
    have hT25 : e_Has mTy w19 := e_Has.ups hT23 hw19 (mt_o rfl)
    refine e_Ok.nrm (q := 146) (st' := []) rfl rfl ?_
    refine e_Ok.ps2 (x := (0, p + 1)) (y := (1, 275)) (q := 460) 3 rfl ?_
    refine e_Ok.callV rfl (e_dq hd rfl) rfl rfl rfl rfl (c_365 (e_dq hd rfl) hT25 (by omega) (e_uq hw19 (Or.inr (by omega)) (e_uq hw21 (Or.inl (by first | decide | omega)) h97)) (f := g + 1) (z := 1260 * t + 2 * g + 436) (e_uq hw19 (Or.inl (by first | decide | omega)) (e_uq hw21 (Or.inl (by first | decide | omega)) hF)) (by omega) (by omega)) (fun r26 w27 h28 => ?_)
    obtain ⟨rfl, hw27⟩ := h28
    have hT30 : e_Has mTy w27 := e_Has.upr hT25 hw27 (nR_FRg t (g) (by omega) (by omega) (by omega)) (by omega)
    refine e_Ok.nrm (q := 463) (st' := []) rfl rfl ?_
    refine e_Ok.rets rfl rfl ?_
    have e31 : w27 276 5 = w 276 5 := (e_uq hw27 (Or.inr (by omega)) (e_uq hw19 (Or.inl (by omega)) (e_uq hw21 (Or.inl (by omega)) rfl)))
    have hrn := runOk.fr (w' := w27) (fun c k q1 q2 => (e_uq hw27 (Or.inl (by omega)) (e_uq hw19 (Or.inl (by omega)) (e_uq hw21 (Or.inl (by omega)) rfl)))) (fun i q1 q2 => ⟨(e_uq hw27 (Or.inr (by omega)) (e_uq hw19 (Or.inl (by omega)) (e_uq hw21 (Or.inl (by omega)) rfl))), (e_uq hw27 (Or.inr (by omega)) (e_uq hw19 (Or.inl (by omega)) (e_uq hw21 (Or.inl (by omega)) rfl)))⟩) (e_uq hw27 (Or.inr (by omega)) (e_uq hw19 (Or.inl (by omega)) (e_uq hw21 (Or.inl (by omega)) rfl))) (e_uq hw27 (Or.inr (by omega)) (e_uq hw19 (Or.inl (by omega)) (e_uq hw21 (Or.inl (by omega)) rfl))) (fun k q1 q2 => (e_uq hw27 (Or.inr (by omega)) (e_uq hw19 (Or.inl (by omega)) (e_uq hw21 (Or.inl (by omega)) rfl)))) (by omega) hru
    have erg : w27 330 (10000 * a + (p + 1)) = w 330 (10000 * a + p) := by rw [show 10000 * a + (p + 1) = 10000 * a + p + 1 by omega]; exact Eq.trans (e_uq hw27 (Or.inl (by first | decide | omega)) (e_uq hw19 (Or.inl (by first | decide | omega)) (e_uq hw21 (Or.inl (by first | decide | omega)) rfl))) k1.2.2.2
    have ede : w27 275 102 = dl p + 1 := (e_uq hw27 (Or.inl (by omega)) (e_ue hw19))
    exact ⟨rfl, ⟨(show e_fr (mRk t) w w27 from e_fr.up (show e_fr (mRk t) w w19 from e_fr.up (show e_fr (mRk t) w w21 from e_fr.up (e_fr.refl w) hw21 (by first | exact Or.inr (Or.inl rfl) | (unfold mRk mLv; omega))) hw19 (by first | exact Or.inl (Or.inl ⟨rfl, Or.inr rfl⟩) | (unfold mRk mLv; omega))) hw27 (by first | exact Or.inl (Or.inr ⟨rfl, Or.inr (Or.inr (Or.inr (Or.inr (Or.inr (Or.inr (Or.inr (Or.inr (Or.inr ⟨(by omega), (by omega)⟩))))))))⟩) | (unfold mRk mLv; omega))), (sRel.up (sRel.up (sRel.up sRel.refl hw21 (fun q b g1 g2 => by omega)) hw19 (fun q b g1 g2 => by omega)) hw27 (fun q b g1 g2 => by omega))⟩, hT30, by omega, Or.inr ⟨(e_uq hw27 (Or.inl (by omega)) (e_uq hw19 (Or.inr (by omega)) (e_uq hw21 (Or.inl (by omega)) rfl))), (e_uq hw27 (Or.inr (by omega)) (e_uq hw19 (Or.inl (by omega)) (e_uq hw21 (Or.inl (by omega)) rfl))), by omega, p + 1, runOk.at hrn (by omega) (e_ue hw27) erg, by omega, e_kn.le (e_kn.oth (e_kn.oth (e_kn.put (b' := dl p) hst hw21 (by omega) (by omega)) hw19 (by decide)) hw27 (by decide)) (by omega), by omega, by omega⟩⟩
  · refine e_Ok.sw (tg := 149) rfl (by rw [h1]; rfl) ?_
    have k1 := hi1.out (by omega)
    unfold iFT at k1
    have k4 := hi4.out (by omega)
    refine e_Ok.run (t' := (150, [(4, (0, p + 1)), (0, (1, 275)), (1, (0, w 328 (10000 * a + p))), (2, (0, w 329 (10000 * a + p))), (3, (0, p))], [(1, 275)], w)) 1 rfl ?_
    refine e_Ok.callV rfl (e_dq hd rfl) rfl rfl rfl rfl (c_364 hT (e := dl p) (u := dl p - 1) h102 (by omega) (by omega) (by have q : w 345 (dl p - 1) = w 345 (dl p - 1) := rfl; have q2 := (hst (dl p - 1) (by omega) (by omega)); omega)) (fun r32 w33 h34 => ?_)
    obtain ⟨rfl, hw33⟩ := h34
    generalize hz35 : w 345 (dl p - 1) = z35
    have z35r : z35 = w 345 (dl p - 1) := Eq.trans hz35.symm rfl
    have f36 : e_fr (mRk t) w w33 := e_fr.up (e_fr.refl w) hw33 (by unfold mRk mLv; omega)
    have hT37 : e_Has mTy w33 := e_Has.ups hT hw33 (mt_o rfl)
    refine e_Ok.nrm (q := 153) (st' := [(0, z35)]) rfl rfl ?_
    refine e_Ok.run (t' := (162, [(5, (0, z35)), (4, (0, p + 1)), (0, (1, 275)), (1, (0, w 328 (10000 * a + p))), (2, (0, w 329 (10000 * a + p))), (3, (0, p))], [(4, 63), (4, 0), (4, z35)], w33)) 5 rfl ?_
    refine e_Ok.callS rfl (e_dq hd rfl) rfl rfl (c_266) (fun r38 w39 h40 => ?_)
    obtain ⟨z41, rfl, rfl, q42⟩ := h40
    obtain ⟨rfl, q42⟩ | ⟨rfl, q42⟩ := q42
    · refine e_Ok.nrm (q := 165) (st' := [(0, 1)]) rfl rfl ?_
      refine e_Ok.if1 rfl (fun h43 => ?_) (fun h43 => ?_)
      · replace h43 : (1 : Int) ≠ 0 := h43
        refine e_Ok.ps3 (x := (0, z35)) (y := (1, 275)) (z := (1, 275)) (q := 178) 3 rfl ?_
        refine e_Ok.callV rfl (e_dq hd rfl) rfl rfl rfl rfl (c_320 hT37 (mAc.fr' (fun k q => by revert q; unfold mRk mLv; omega) f36 hA) (by omega)) (fun r44 w45 h46 => ?_)
        obtain ⟨z47, rfl, q48, q48a, q48b⟩ := h46
        have f49 : e_fr (mRk t) w w45 := e_fr.trans f36 (e_fr.mono q48 (fun c k q => by first | exact su_63_3 q | (unfold mQ at q; unfold mRk mLv; omega)))
        refine e_Ok.nrm (q := 181) (st' := [(0, z47), (1, 275)]) rfl rfl ?_
        refine e_Ok.callV rfl (e_dq hd rfl) rfl rfl rfl rfl (c_363 (mT_Q q48 hT37) (e := dl p - 1) (e1 := dl p) ((q48 275 102 no_63_0).trans (e_ue hw33)) (by omega) (by omega)) (fun r50 w51 h52 => ?_)
        obtain ⟨rfl, hw51⟩ := h52
        generalize hw53 : e_up w45 345 (dl p - 1) z47 = w53 at hw51
        have hT55 : e_Has mTy w53 := e_Has.ups (mT_Q q48 hT37) hw53 rfl
        have hT57 : e_Has mTy w51 := e_Has.ups hT55 hw51 (mt_o rfl)
        refine e_Ok.nrm (q := 184) (st' := []) rfl rfl ?_
        refine e_Ok.ps2 (x := (0, p + 1)) (y := (1, 275)) (q := 460) 3 rfl ?_
        refine e_Ok.callV rfl (e_dq hd rfl) rfl rfl rfl rfl (c_365 (e_dq hd rfl) hT57 (by omega) (e_uq hw51 (Or.inr (by omega)) (e_uq hw53 (Or.inl (by first | decide | omega)) ((q48 275 97 no_63_0).trans (e_uq hw33 (Or.inr (by omega)) h97)))) (f := g + 1) (z := 1260 * t + 2 * g + 436) (e_uq hw51 (Or.inl (by first | decide | omega)) (e_uq hw53 (Or.inl (by first | decide | omega)) ((q48 276 (1260 * t + 428) no_63_1).trans (e_uq hw33 (Or.inl (by first | decide | omega)) hF)))) (by omega) (by omega)) (fun r58 w59 h60 => ?_)
        obtain ⟨rfl, hw59⟩ := h60
        have hT62 : e_Has mTy w59 := e_Has.upr hT57 hw59 (nR_FRg t (g) (by omega) (by omega) (by omega)) (by omega)
        refine e_Ok.nrm (q := 463) (st' := []) rfl rfl ?_
        refine e_Ok.rets rfl rfl ?_
        have e63 : w59 276 5 = w 276 5 := (e_uq hw59 (Or.inr (by omega)) (e_uq hw51 (Or.inl (by omega)) (e_uq hw53 (Or.inl (by omega)) ((q48 276 5 no_63_1).trans (e_uq hw33 (Or.inl (by omega)) rfl)))))
        have hrn := runOk.fr (w' := w59) (fun c k q1 q2 => (e_uq hw59 (Or.inl (by omega)) (e_uq hw51 (Or.inl (by omega)) (e_uq hw53 (Or.inl (by omega)) ((f49 c k (by unfold mRk mLv; omega)).trans rfl))))) (fun i q1 q2 => ⟨(e_uq hw59 (Or.inr (by omega)) (e_uq hw51 (Or.inl (by omega)) (e_uq hw53 (Or.inl (by omega)) ((q48 276 (1260 * t + 2 * i + 436) no_63_1).trans (e_uq hw33 (Or.inl (by omega)) rfl))))), (e_uq hw59 (Or.inr (by omega)) (e_uq hw51 (Or.inl (by omega)) (e_uq hw53 (Or.inl (by omega)) ((q48 276 (1260 * t + 2 * i + 439) no_63_1).trans (e_uq hw33 (Or.inl (by omega)) rfl)))))⟩) (e_uq hw59 (Or.inr (by omega)) (e_uq hw51 (Or.inl (by omega)) (e_uq hw53 (Or.inl (by omega)) ((q48 276 (1260 * t + 428) no_63_1).trans (e_uq hw33 (Or.inl (by omega)) rfl))))) (e_uq hw59 (Or.inr (by omega)) (e_uq hw51 (Or.inl (by omega)) (e_uq hw53 (Or.inl (by omega)) ((q48 276 (1260 * t + 429) no_63_1).trans (e_uq hw33 (Or.inl (by omega)) rfl))))) (fun k q1 q2 => (e_uq hw59 (Or.inr (by omega)) (e_uq hw51 (Or.inl (by omega)) (e_uq hw53 (Or.inl (by omega)) ((q48 276 (1260 * t + k + 476) no_63_1).trans (e_uq hw33 (Or.inl (by omega)) rfl)))))) (by omega) hru
        have erg : w59 330 (10000 * a + (p + 1)) = w 330 (10000 * a + p) := by rw [show 10000 * a + (p + 1) = 10000 * a + p + 1 by omega]; exact Eq.trans (e_uq hw59 (Or.inl (by first | decide | omega)) (e_uq hw51 (Or.inl (by first | decide | omega)) (e_uq hw53 (Or.inl (by first | decide | omega)) ((q48 330 (10000 * a + p + 1) no_63_2).trans (e_uq hw33 (Or.inl (by first | decide | omega)) rfl))))) k1.2.2.2
        have ede : w59 275 102 = dl p := (e_uq hw59 (Or.inl (by omega)) (e_ue hw51))
        exact ⟨rfl, ⟨(show e_fr (mRk t) w w59 from e_fr.up (show e_fr (mRk t) w w51 from e_fr.up (show e_fr (mRk t) w w53 from e_fr.up f49 hw53 (by first | exact Or.inr (Or.inl rfl) | (unfold mRk mLv; omega))) hw51 (by first | exact Or.inl (Or.inl ⟨rfl, Or.inr rfl⟩) | (unfold mRk mLv; omega))) hw59 (by first | exact Or.inl (Or.inr ⟨rfl, Or.inr (Or.inr (Or.inr (Or.inr (Or.inr (Or.inr (Or.inr (Or.inr (Or.inr ⟨(by omega), (by omega)⟩))))))))⟩) | (unfold mRk mLv; omega))), (sRel.up (sRel.up (sRel.up (sRel.fr (sRel.up sRel.refl hw33 (fun q b g1 g2 => by omega)) q48 (fun b g1 g2 => by unfold mQ; omega)) hw53 (fun q b g1 g2 => by omega)) hw51 (fun q b g1 g2 => by omega)) hw59 (fun q b g1 g2 => by omega))⟩, hT62, by omega, Or.inr ⟨(e_uq hw59 (Or.inl (by omega)) (e_uq hw51 (Or.inr (by omega)) (e_uq hw53 (Or.inl (by omega)) ((q48 275 100 no_63_0).trans (e_uq hw33 (Or.inr (by omega)) rfl))))), (e_uq hw59 (Or.inr (by omega)) (e_uq hw51 (Or.inl (by omega)) (e_uq hw53 (Or.inl (by omega)) ((q48 276 (1260 * t + 416) no_63_1).trans (e_uq hw33 (Or.inl (by omega)) rfl))))), by omega, p + 1, runOk.at hrn (by omega) (e_ue hw59) erg, by omega, e_kn.le (e_kn.oth (e_kn.oth (e_kn.put (b' := dl p - 1) (e_kn.fr q48 (fun k q => by unfold mQ at q; omega) (e_kn.oth hst hw33 (by decide))) hw53 (by omega) (by omega)) hw51 (by decide)) hw59 (by decide)) (by omega), by omega, by omega⟩⟩
      · replace h43 : (1 : Int) = 0 := Classical.not_not.mp (show ¬ ((1 : Int) ≠ 0) from h43)
        exfalso; omega
    · refine e_Ok.nrm (q := 165) (st' := [(0, 0)]) rfl rfl ?_
      refine e_Ok.if1 rfl (fun h64 => ?_) (fun h64 => ?_)
      · replace h64 : (0 : Int) ≠ 0 := h64
        exfalso; omega
      · replace h64 : (0 : Int) = 0 := Classical.not_not.mp (show ¬ ((0 : Int) ≠ 0) from h64)
        refine e_Ok.ps2 (x := (0, 2)) (y := (1, 275)) (q := 170) 2 rfl ?_
        have e68 : w33 276 5 = w 276 5 := (e_uq hw33 (Or.inl (by omega)) rfl)
        refine e_Ok.callV rfl (e_dq hd rfl) rfl rfl rfl rfl (c_369 (e_dq hd rfl) hT37 (by omega) (by omega) (e_uq hw33 (Or.inr (by omega)) h96) (e_uq hw33 (Or.inr (by omega)) h97) (e_uq hw33 (Or.inr (by omega)) h98) (cOk.fr (fun c k q1 q2 => (e_uq hw33 (Or.inl (by omega)) rfl)) hC) (runOk.at (runOk.fr (w' := w33) (fun c k q1 q2 => (e_uq hw33 (Or.inl (by omega)) rfl)) (fun i q1 q2 => ⟨(e_uq hw33 (Or.inl (by omega)) rfl), (e_uq hw33 (Or.inl (by omega)) rfl)⟩) (e_uq hw33 (Or.inl (by omega)) rfl) (e_uq hw33 (Or.inl (by omega)) rfl) (fun k q1 q2 => (e_uq hw33 (Or.inl (by omega)) rfl)) (by omega) hru) (by omega) (e_uq hw33 (Or.inl (by omega)) hpc) (e_uq hw33 (Or.inl (by omega)) rfl)) (by omega) (by omega)) (fun r65 w66 h67 => ?_)
        obtain ⟨rfl, ⟨q69, q69S⟩, q69T, q69n, q69d, q69c⟩ := h67
        refine e_Ok.nrm (q := 173) (st' := []) rfl rfl ?_
        refine e_Ok.rets rfl rfl ?_
        exact ⟨rfl, ⟨(show e_fr (mRk t) w w66 from e_fr.trans f36 (e_fr.mono q69 (fun c k q => by first | exact su_63_4 q | (unfold mLv at q; unfold mRk mLv; omega)))), (sRel.trans (sRel.up sRel.refl hw33 (fun q b g1 g2 => by omega)) q69S)⟩, q69T, by omega, Or.inl ⟨q69d, q69c.imp id (fun h => ⟨h.1.trans (e_uq hw33 (Or.inr (by omega)) rfl), h.2.1.trans (e_uq hw33 (Or.inl (by omega)) rfl), h.2.2.1.trans (e_uq hw33 (Or.inl (by omega)) rfl), h.2.2.2⟩)⟩⟩
  · refine e_Ok.sw (tg := 187) rfl (by rw [h1]; rfl) ?_
    have k1 := hi1.out (by omega)
    unfold iFT at k1
    have k4 := hi4.out (by omega)
    refine e_Ok.run (t' := (188, [(4, (0, p + 1)), (0, (1, 275)), (1, (0, w 328 (10000 * a + p))), (2, (0, w 329 (10000 * a + p))), (3, (0, p))], [(1, 275)], w)) 1 rfl ?_
    refine e_Ok.callV rfl (e_dq hd rfl) rfl rfl rfl rfl (c_364 hT (e := dl p) (u := dl p - 1) h102 (by omega) (by omega) (by have q : w 345 (dl p - 1) = w 345 (dl p - 1) := rfl; have q2 := (hst (dl p - 1) (by omega) (by omega)); omega)) (fun r71 w72 h73 => ?_)
    obtain ⟨rfl, hw72⟩ := h73
    generalize hz74 : w 345 (dl p - 1) = z74
    have z74r : z74 = w 345 (dl p - 1) := Eq.trans hz74.symm rfl
    have f75 : e_fr (mRk t) w w72 := e_fr.up (e_fr.refl w) hw72 (by unfold mRk mLv; omega)
    have hT76 : e_Has mTy w72 := e_Has.ups hT hw72 (mt_o rfl)
    refine e_Ok.nrm (q := 191) (st' := [(0, z74)]) rfl rfl ?_
    refine e_Ok.run (t' := (195, [(6, (0, z74)), (4, (0, p + 1)), (0, (1, 275)), (1, (0, w 328 (10000 * a + p))), (2, (0, w 329 (10000 * a + p))), (3, (0, p))], [(1, 275), (1, 275)], w72)) 3 rfl ?_
    refine e_Ok.getf (z := a) rfl (el_o rfl) rfl (ef_o rfl) (e_uq hw72 (Or.inr (by omega)) h98) (by omega) ?_
    refine e_Ok.ps1 (x := (0, z74)) (q := 200) 1 rfl ?_
    refine e_Ok.callV rfl (e_dq hd rfl) rfl rfl rfl rfl (c_271 (e_dq hd rfl) hT76) (fun r77 w78 h79 => ?_)
    obtain ⟨z80, rfl, rfl, q81⟩ := h79
    have h82 := e_Has.get hT76 (c := 275) (k := 10) (lo := 0) (hi := 4) (mt_o rfl) (by decide)
    have h83 := e_Has.get hT76 (c := 286) (k := a) (lo := 0) (hi := 6) (mt_o rfl) (by decide)
    obtain ⟨rfl, q81⟩ | ⟨rfl, q81⟩ := q81
    · refine e_Ok.nrm (q := 203) (st' := [(0, 1)]) rfl rfl ?_
      refine e_Ok.if1 rfl (fun h84 => ?_) (fun h84 => ?_)
      · replace h84 : (1 : Int) ≠ 0 := h84
        refine e_Ok.ps2 (x := (1, 275)) (y := (1, 275)) (q := 214) 2 rfl ?_
        refine e_Ok.getr (z := 276) rfl (el_o rfl) rfl (ef_o rfl) (e_uq hw72 (Or.inr (by omega)) (e_Has.eq hT (mt_o rfl))) ⟨by decide, by decide⟩ ?_
        refine e_Ok.ps1 (x := (1, 275)) (q := 218) 1 rfl ?_
        refine e_Ok.getf (z := a) rfl (el_o rfl) rfl (ef_o rfl) (e_uq hw72 (Or.inr (by omega)) h98) (by omega) ?_
        refine e_Ok.callS rfl (e_dq hd rfl) rfl rfl (c_268 (by omega)) (fun r85 w86 h87 => ?_)
        obtain ⟨rfl, rfl⟩ := h87
        refine e_Ok.nrm (q := 224) (st' := [(0, 36 * a + 16), (1, 276), (1, 275)]) rfl rfl ?_
        refine e_Ok.ps1 (x := (0, 16)) (q := 226) 1 rfl ?_
        refine e_Ok.add (z := 36 * a + 32) rfl (e_adl (by decide)) (by omega) ?_
        refine e_Ok.ps1 (x := (0, z74)) (q := 229) 1 rfl ?_
        refine e_Ok.add (z := 36 * a + z74 + 32) rfl (by omega) (by omega) ?_
        have h88 := (e_Has.get hT (c := 276) (k := 36 * a + z74 + 32) (lo := (-100000)) (hi := 100000) (nR_VALUE (a := a) (j := z74) (by omega) (by omega)) (by decide))
        refine e_Ok.ald (z := w 276 (36 * a + z74 + 32)) rfl (el_o rfl) rfl (by omega) (e_uq hw72 (Or.inl (by omega)) rfl) (e_bq h88 (by decide) (by decide)) ?_
        refine e_Ok.callV rfl (e_dq hd rfl) rfl rfl rfl rfl (c_363 hT76 (e := dl p - 1) (e1 := dl p) (e_ue hw72) (by omega) (by omega)) (fun r89 w90 h91 => ?_)
        obtain ⟨rfl, hw90⟩ := h91
        generalize hw92 : e_up w72 345 (dl p - 1) (w 276 (36 * a + z74 + 32)) = w92 at hw90
        have hT94 : e_Has mTy w92 := e_Has.ups hT76 hw92 (mt_o rfl)
        have hT96 : e_Has mTy w90 := e_Has.ups hT94 hw90 (mt_o rfl)
        refine e_Ok.nrm (q := 234) (st' := []) rfl rfl ?_
        refine e_Ok.ps2 (x := (0, p + 1)) (y := (1, 275)) (q := 460) 3 rfl ?_
        refine e_Ok.callV rfl (e_dq hd rfl) rfl rfl rfl rfl (c_365 (e_dq hd rfl) hT96 (by omega) (e_uq hw90 (Or.inr (by omega)) (e_uq hw92 (Or.inl (by first | decide | omega)) (e_uq hw72 (Or.inr (by omega)) h97))) (f := g + 1) (z := 1260 * t + 2 * g + 436) (e_uq hw90 (Or.inl (by first | decide | omega)) (e_uq hw92 (Or.inl (by first | decide | omega)) (e_uq hw72 (Or.inl (by first | decide | omega)) hF))) (by omega) (by omega)) (fun r97 w98 h99 => ?_)
        obtain ⟨rfl, hw98⟩ := h99
        have hT101 : e_Has mTy w98 := e_Has.upr hT96 hw98 (nR_FRg t (g) (by omega) (by omega) (by omega)) (by omega)
        refine e_Ok.nrm (q := 463) (st' := []) rfl rfl ?_
        refine e_Ok.rets rfl rfl ?_
        have e102 : w98 276 5 = w 276 5 := (e_uq hw98 (Or.inr (by omega)) (e_uq hw90 (Or.inl (by omega)) (e_uq hw92 (Or.inl (by omega)) (e_uq hw72 (Or.inl (by omega)) rfl))))
        have hrn := runOk.fr (w' := w98) (fun c k q1 q2 => (e_uq hw98 (Or.inl (by omega)) (e_uq hw90 (Or.inl (by omega)) (e_uq hw92 (Or.inl (by omega)) (e_uq hw72 (Or.inl (by omega)) rfl))))) (fun i q1 q2 => ⟨(e_uq hw98 (Or.inr (by omega)) (e_uq hw90 (Or.inl (by omega)) (e_uq hw92 (Or.inl (by omega)) (e_uq hw72 (Or.inl (by omega)) rfl)))), (e_uq hw98 (Or.inr (by omega)) (e_uq hw90 (Or.inl (by omega)) (e_uq hw92 (Or.inl (by omega)) (e_uq hw72 (Or.inl (by omega)) rfl))))⟩) (e_uq hw98 (Or.inr (by omega)) (e_uq hw90 (Or.inl (by omega)) (e_uq hw92 (Or.inl (by omega)) (e_uq hw72 (Or.inl (by omega)) rfl)))) (e_uq hw98 (Or.inr (by omega)) (e_uq hw90 (Or.inl (by omega)) (e_uq hw92 (Or.inl (by omega)) (e_uq hw72 (Or.inl (by omega)) rfl)))) (fun k q1 q2 => (e_uq hw98 (Or.inr (by omega)) (e_uq hw90 (Or.inl (by omega)) (e_uq hw92 (Or.inl (by omega)) (e_uq hw72 (Or.inl (by omega)) rfl))))) (by omega) hru
        have erg : w98 330 (10000 * a + (p + 1)) = w 330 (10000 * a + p) := by rw [show 10000 * a + (p + 1) = 10000 * a + p + 1 by omega]; exact Eq.trans (e_uq hw98 (Or.inl (by first | decide | omega)) (e_uq hw90 (Or.inl (by first | decide | omega)) (e_uq hw92 (Or.inl (by first | decide | omega)) (e_uq hw72 (Or.inl (by first | decide | omega)) rfl)))) k1.2.2.2
        have ede : w98 275 102 = dl p := (e_uq hw98 (Or.inl (by omega)) (e_ue hw90))
        exact ⟨rfl, ⟨(show e_fr (mRk t) w w98 from e_fr.up (show e_fr (mRk t) w w90 from e_fr.up (show e_fr (mRk t) w w92 from e_fr.up f75 hw92 (by first | exact Or.inr (Or.inl rfl) | (unfold mRk mLv; omega))) hw90 (by first | exact Or.inl (Or.inl ⟨rfl, Or.inr rfl⟩) | (unfold mRk mLv; omega))) hw98 (by first | exact Or.inl (Or.inr ⟨rfl, Or.inr (Or.inr (Or.inr (Or.inr (Or.inr (Or.inr (Or.inr (Or.inr (Or.inr ⟨(by omega), (by omega)⟩))))))))⟩) | (unfold mRk mLv; omega))), (sRel.up (sRel.up (sRel.up (sRel.up sRel.refl hw72 (fun q b g1 g2 => by omega)) hw92 (fun q b g1 g2 => by omega)) hw90 (fun q b g1 g2 => by omega)) hw98 (fun q b g1 g2 => by omega))⟩, hT101, by omega, Or.inr ⟨(e_uq hw98 (Or.inl (by omega)) (e_uq hw90 (Or.inr (by omega)) (e_uq hw92 (Or.inl (by omega)) (e_uq hw72 (Or.inr (by omega)) rfl)))), (e_uq hw98 (Or.inr (by omega)) (e_uq hw90 (Or.inl (by omega)) (e_uq hw92 (Or.inl (by omega)) (e_uq hw72 (Or.inl (by omega)) rfl)))), by omega, p + 1, runOk.at hrn (by omega) (e_ue hw98) erg, by omega, e_kn.le (e_kn.oth (e_kn.oth (e_kn.put (b' := dl p - 1) (e_kn.oth hst hw72 (by decide)) hw92 (by omega) (by omega)) hw90 (by decide)) hw98 (by decide)) (by omega), by omega, by omega⟩⟩
      · replace h84 : (1 : Int) = 0 := Classical.not_not.mp (show ¬ ((1 : Int) ≠ 0) from h84)
        exfalso; omega
    · refine e_Ok.nrm (q := 203) (st' := [(0, 0)]) rfl rfl ?_
      refine e_Ok.if1 rfl (fun h103 => ?_) (fun h103 => ?_)
      · replace h103 : (0 : Int) ≠ 0 := h103
        exfalso; omega
      · replace h103 : (0 : Int) = 0 := Classical.not_not.mp (show ¬ ((0 : Int) ≠ 0) from h103)
        refine e_Ok.ps2 (x := (0, 2)) (y := (1, 275)) (q := 208) 2 rfl ?_
        have e107 : w72 276 5 = w 276 5 := (e_uq hw72 (Or.inl (by omega)) rfl)
        refine e_Ok.callV rfl (e_dq hd rfl) rfl rfl rfl rfl (c_369 (e_dq hd rfl) hT76 (by omega) (by omega) (e_uq hw72 (Or.inr (by omega)) h96) (e_uq hw72 (Or.inr (by omega)) h97) (e_uq hw72 (Or.inr (by omega)) h98) (cOk.fr (fun c k q1 q2 => (e_uq hw72 (Or.inl (by omega)) rfl)) hC) (runOk.at (runOk.fr (w' := w72) (fun c k q1 q2 => (e_uq hw72 (Or.inl (by omega)) rfl)) (fun i q1 q2 => ⟨(e_uq hw72 (Or.inl (by omega)) rfl), (e_uq hw72 (Or.inl (by omega)) rfl)⟩) (e_uq hw72 (Or.inl (by omega)) rfl) (e_uq hw72 (Or.inl (by omega)) rfl) (fun k q1 q2 => (e_uq hw72 (Or.inl (by omega)) rfl)) (by omega) hru) (by omega) (e_uq hw72 (Or.inl (by omega)) hpc) (e_uq hw72 (Or.inl (by omega)) rfl)) (by omega) (by omega)) (fun r104 w105 h106 => ?_)
        obtain ⟨rfl, ⟨q108, q108S⟩, q108T, q108n, q108d, q108c⟩ := h106
        refine e_Ok.nrm (q := 211) (st' := []) rfl rfl ?_
        refine e_Ok.rets rfl rfl ?_
        exact ⟨rfl, ⟨(show e_fr (mRk t) w w105 from e_fr.trans f75 (e_fr.mono q108 (fun c k q => by first | exact su_63_4 q | (unfold mLv at q; unfold mRk mLv; omega)))), (sRel.trans (sRel.up sRel.refl hw72 (fun q b g1 g2 => by omega)) q108S)⟩, q108T, by omega, Or.inl ⟨q108d, q108c.imp id (fun h => ⟨h.1.trans (e_uq hw72 (Or.inr (by omega)) rfl), h.2.1.trans (e_uq hw72 (Or.inl (by omega)) rfl), h.2.2.1.trans (e_uq hw72 (Or.inl (by omega)) rfl), h.2.2.2⟩)⟩⟩
  · refine e_Ok.sw (tg := 237) rfl (by rw [h1]; rfl) ?_
    have k1 := hi1.out (by omega)
    unfold iFT at k1
    have k2 := hi2.out (by omega)
    refine e_Ok.run (t' := (239, [(4, (0, p + 1)), (0, (1, 275)), (1, (0, w 328 (10000 * a + p))), (2, (0, w 329 (10000 * a + p))), (3, (0, p))], [(1, 275), (1, 275)], w)) 2 rfl ?_
    refine e_Ok.getr (z := 276) rfl (el_o rfl) rfl (ef_o rfl) (e_Has.eq hT (mt_o rfl)) ⟨by decide, by decide⟩ ?_
    refine e_Ok.ps1 (x := (0, 0)) (q := 243) 1 rfl ?_
    have h110 := (e_Has.get hT (c := 276) (k := 0) (lo := 0) (hi := 6000) (mt_o rfl) (by decide))
    refine e_Ok.ald (z := w 276 0) rfl (el_o rfl) rfl (by omega) rfl (e_bq h110 (by decide) (by decide)) ?_
    refine e_Ok.callV rfl (e_dq hd rfl) rfl rfl rfl rfl (c_363 hT (e := dl p) (e1 := dl p + 1) h102 (by omega) (by omega)) (fun r111 w112 h113 => ?_)
    obtain ⟨rfl, hw112⟩ := h113
    generalize hw114 : e_up w 345 (dl p) (w 276 0) = w114 at hw112
    have hT116 : e_Has mTy w114 := e_Has.ups hT hw114 (mt_o rfl)
    have hT118 : e_Has mTy w112 := e_Has.ups hT116 hw112 (mt_o rfl)
    refine e_Ok.nrm (q := 247) (st' := []) rfl rfl ?_
    refine e_Ok.ps2 (x := (0, p + 1)) (y := (1, 275)) (q := 460) 3 rfl ?_
    refine e_Ok.callV rfl (e_dq hd rfl) rfl rfl rfl rfl (c_365 (e_dq hd rfl) hT118 (by omega) (e_uq hw112 (Or.inr (by omega)) (e_uq hw114 (Or.inl (by first | decide | omega)) h97)) (f := g + 1) (z := 1260 * t + 2 * g + 436) (e_uq hw112 (Or.inl (by first | decide | omega)) (e_uq hw114 (Or.inl (by first | decide | omega)) hF)) (by omega) (by omega)) (fun r119 w120 h121 => ?_)
    obtain ⟨rfl, hw120⟩ := h121
    have hT123 : e_Has mTy w120 := e_Has.upr hT118 hw120 (nR_FRg t (g) (by omega) (by omega) (by omega)) (by omega)
    refine e_Ok.nrm (q := 463) (st' := []) rfl rfl ?_
    refine e_Ok.rets rfl rfl ?_
    have e124 : w120 276 5 = w 276 5 := (e_uq hw120 (Or.inr (by omega)) (e_uq hw112 (Or.inl (by omega)) (e_uq hw114 (Or.inl (by omega)) rfl)))
    have hrn := runOk.fr (w' := w120) (fun c k q1 q2 => (e_uq hw120 (Or.inl (by omega)) (e_uq hw112 (Or.inl (by omega)) (e_uq hw114 (Or.inl (by omega)) rfl)))) (fun i q1 q2 => ⟨(e_uq hw120 (Or.inr (by omega)) (e_uq hw112 (Or.inl (by omega)) (e_uq hw114 (Or.inl (by omega)) rfl))), (e_uq hw120 (Or.inr (by omega)) (e_uq hw112 (Or.inl (by omega)) (e_uq hw114 (Or.inl (by omega)) rfl)))⟩) (e_uq hw120 (Or.inr (by omega)) (e_uq hw112 (Or.inl (by omega)) (e_uq hw114 (Or.inl (by omega)) rfl))) (e_uq hw120 (Or.inr (by omega)) (e_uq hw112 (Or.inl (by omega)) (e_uq hw114 (Or.inl (by omega)) rfl))) (fun k q1 q2 => (e_uq hw120 (Or.inr (by omega)) (e_uq hw112 (Or.inl (by omega)) (e_uq hw114 (Or.inl (by omega)) rfl)))) (by omega) hru
    have erg : w120 330 (10000 * a + (p + 1)) = w 330 (10000 * a + p) := by rw [show 10000 * a + (p + 1) = 10000 * a + p + 1 by omega]; exact Eq.trans (e_uq hw120 (Or.inl (by first | decide | omega)) (e_uq hw112 (Or.inl (by first | decide | omega)) (e_uq hw114 (Or.inl (by first | decide | omega)) rfl))) k1.2.2.2
    have ede : w120 275 102 = dl p + 1 := (e_uq hw120 (Or.inl (by omega)) (e_ue hw112))
    exact ⟨rfl, ⟨(show e_fr (mRk t) w w120 from e_fr.up (show e_fr (mRk t) w w112 from e_fr.up (show e_fr (mRk t) w w114 from e_fr.up (e_fr.refl w) hw114 (by first | exact Or.inr (Or.inl rfl) | (unfold mRk mLv; omega))) hw112 (by first | exact Or.inl (Or.inl ⟨rfl, Or.inr rfl⟩) | (unfold mRk mLv; omega))) hw120 (by first | exact Or.inl (Or.inr ⟨rfl, Or.inr (Or.inr (Or.inr (Or.inr (Or.inr (Or.inr (Or.inr (Or.inr (Or.inr ⟨(by omega), (by omega)⟩))))))))⟩) | (unfold mRk mLv; omega))), (sRel.up (sRel.up (sRel.up sRel.refl hw114 (fun q b g1 g2 => by omega)) hw112 (fun q b g1 g2 => by omega)) hw120 (fun q b g1 g2 => by omega))⟩, hT123, by omega, Or.inr ⟨(e_uq hw120 (Or.inl (by omega)) (e_uq hw112 (Or.inr (by omega)) (e_uq hw114 (Or.inl (by omega)) rfl))), (e_uq hw120 (Or.inr (by omega)) (e_uq hw112 (Or.inl (by omega)) (e_uq hw114 (Or.inl (by omega)) rfl))), by omega, p + 1, runOk.at hrn (by omega) (e_ue hw120) erg, by omega, e_kn.le (e_kn.oth (e_kn.oth (e_kn.put (b' := dl p) hst hw114 (by omega) (by omega)) hw112 (by decide)) hw120 (by decide)) (by omega), by omega, by omega⟩⟩
  · refine e_Ok.sw (tg := 250) rfl (by rw [h1]; rfl) ?_
    have k1 := hi1.out (by omega)
    unfold iFT at k1
    have k2 := hi2.out (by omega)
    refine e_Ok.run (t' := (252, [(4, (0, p + 1)), (0, (1, 275)), (1, (0, w 328 (10000 * a + p))), (2, (0, w 329 (10000 * a + p))), (3, (0, p))], [(1, 275), (1, 275)], w)) 2 rfl ?_
    refine e_Ok.getr (z := 276) rfl (el_o rfl) rfl (ef_o rfl) (e_Has.eq hT (mt_o rfl)) ⟨by decide, by decide⟩ ?_
    refine e_Ok.ps1 (x := (1, 275)) (q := 256) 1 rfl ?_
    refine e_Ok.getf (z := 1260 * t + 416) rfl (el_o rfl) rfl (ef_o rfl) h97 (by omega) ?_
    refine e_Ok.ps1 (x := (0, 3)) (q := 260) 1 rfl ?_
    refine e_Ok.add (z := 1260 * t + 419) rfl (e_adl (by decide)) (by omega) ?_
    have h125 := (e_Has.get hT (c := 276) (k := 1260 * t + 419) (lo := (-2147483648)) (hi := 2147483647) (nR_CAUGHT (t := t) (by omega)) (by decide))
    refine e_Ok.ald (z := w 276 (1260 * t + 419)) rfl (el_o rfl) rfl (by omega) rfl (e_bq h125 (by decide) (by decide)) ?_
    refine e_Ok.callV rfl (e_dq hd rfl) rfl rfl rfl rfl (c_363 hT (e := dl p) (e1 := dl p + 1) h102 (by omega) (by omega)) (fun r126 w127 h128 => ?_)
    obtain ⟨rfl, hw127⟩ := h128
    generalize hw129 : e_up w 345 (dl p) (w 276 (1260 * t + 419)) = w129 at hw127
    have hT131 : e_Has mTy w129 := e_Has.ups hT hw129 (mt_o rfl)
    have hT133 : e_Has mTy w127 := e_Has.ups hT131 hw127 (mt_o rfl)
    refine e_Ok.nrm (q := 265) (st' := []) rfl rfl ?_
    refine e_Ok.ps2 (x := (0, p + 1)) (y := (1, 275)) (q := 460) 3 rfl ?_
    refine e_Ok.callV rfl (e_dq hd rfl) rfl rfl rfl rfl (c_365 (e_dq hd rfl) hT133 (by omega) (e_uq hw127 (Or.inr (by omega)) (e_uq hw129 (Or.inl (by first | decide | omega)) h97)) (f := g + 1) (z := 1260 * t + 2 * g + 436) (e_uq hw127 (Or.inl (by first | decide | omega)) (e_uq hw129 (Or.inl (by first | decide | omega)) hF)) (by omega) (by omega)) (fun r134 w135 h136 => ?_)
    obtain ⟨rfl, hw135⟩ := h136
    have hT138 : e_Has mTy w135 := e_Has.upr hT133 hw135 (nR_FRg t (g) (by omega) (by omega) (by omega)) (by omega)
    refine e_Ok.nrm (q := 463) (st' := []) rfl rfl ?_
    refine e_Ok.rets rfl rfl ?_
    have e139 : w135 276 5 = w 276 5 := (e_uq hw135 (Or.inr (by omega)) (e_uq hw127 (Or.inl (by omega)) (e_uq hw129 (Or.inl (by omega)) rfl)))
    have hrn := runOk.fr (w' := w135) (fun c k q1 q2 => (e_uq hw135 (Or.inl (by omega)) (e_uq hw127 (Or.inl (by omega)) (e_uq hw129 (Or.inl (by omega)) rfl)))) (fun i q1 q2 => ⟨(e_uq hw135 (Or.inr (by omega)) (e_uq hw127 (Or.inl (by omega)) (e_uq hw129 (Or.inl (by omega)) rfl))), (e_uq hw135 (Or.inr (by omega)) (e_uq hw127 (Or.inl (by omega)) (e_uq hw129 (Or.inl (by omega)) rfl)))⟩) (e_uq hw135 (Or.inr (by omega)) (e_uq hw127 (Or.inl (by omega)) (e_uq hw129 (Or.inl (by omega)) rfl))) (e_uq hw135 (Or.inr (by omega)) (e_uq hw127 (Or.inl (by omega)) (e_uq hw129 (Or.inl (by omega)) rfl))) (fun k q1 q2 => (e_uq hw135 (Or.inr (by omega)) (e_uq hw127 (Or.inl (by omega)) (e_uq hw129 (Or.inl (by omega)) rfl)))) (by omega) hru
    have erg : w135 330 (10000 * a + (p + 1)) = w 330 (10000 * a + p) := by rw [show 10000 * a + (p + 1) = 10000 * a + p + 1 by omega]; exact Eq.trans (e_uq hw135 (Or.inl (by first | decide | omega)) (e_uq hw127 (Or.inl (by first | decide | omega)) (e_uq hw129 (Or.inl (by first | decide | omega)) rfl))) k1.2.2.2
    have ede : w135 275 102 = dl p + 1 := (e_uq hw135 (Or.inl (by omega)) (e_ue hw127))
    exact ⟨rfl, ⟨(show e_fr (mRk t) w w135 from e_fr.up (show e_fr (mRk t) w w127 from e_fr.up (show e_fr (mRk t) w w129 from e_fr.up (e_fr.refl w) hw129 (by first | exact Or.inr (Or.inl rfl) | (unfold mRk mLv; omega))) hw127 (by first | exact Or.inl (Or.inl ⟨rfl, Or.inr rfl⟩) | (unfold mRk mLv; omega))) hw135 (by first | exact Or.inl (Or.inr ⟨rfl, Or.inr (Or.inr (Or.inr (Or.inr (Or.inr (Or.inr (Or.inr (Or.inr (Or.inr ⟨(by omega), (by omega)⟩))))))))⟩) | (unfold mRk mLv; omega))), (sRel.up (sRel.up (sRel.up sRel.refl hw129 (fun q b g1 g2 => by omega)) hw127 (fun q b g1 g2 => by omega)) hw135 (fun q b g1 g2 => by omega))⟩, hT138, by omega, Or.inr ⟨(e_uq hw135 (Or.inl (by omega)) (e_uq hw127 (Or.inr (by omega)) (e_uq hw129 (Or.inl (by omega)) rfl))), (e_uq hw135 (Or.inr (by omega)) (e_uq hw127 (Or.inl (by omega)) (e_uq hw129 (Or.inl (by omega)) rfl))), by omega, p + 1, runOk.at hrn (by omega) (e_ue hw135) erg, by omega, e_kn.le (e_kn.oth (e_kn.oth (e_kn.put (b' := dl p) hst hw129 (by omega) (by omega)) hw127 (by decide)) hw135 (by decide)) (by omega), by omega, by omega⟩⟩
  · exfalso; omega
  · exfalso; omega
  · exfalso; omega
  · exfalso; omega
  · exfalso; omega
  · exfalso; omega
  · exfalso; omega
  · exfalso; omega
end
end
-- part 63w
section
noncomputable section
set_option maxHeartbeats 4000000 in
theorem c_374_d {d : Nat} (hd : 33 ≤ d) {w : eW} (hT : e_Has mTy w) (hA : mAc w) {t a g : Int} (ht : 0 ≤ t ∧ t ≤ 15) (ha : 0 ≤ a ∧ a ≤ 3) (h96 : w 275 96 = t) (h97 : w 275 97 = 1260 * t + 416) (h98 : w 275 98 = a) {n nt nw : Int} {dl sg pi en : Int → Int} {an br : Int → Int → Prop} {bs ow : Int → Int} (hC : cOk w a n nt nw dl sg pi en an br) {p : Int} (hP : topOk w a t g p n nt nw dl sg pi an br bs ow) (hE : w 276 5 ≤ 2147483000) (h102 : w 275 102 = dl p) (hst : e_kn w 345 0 (dl p - 1)) (hop : w 328 (10000 * a + p) < 30) (hsel : 7 ≤ w 328 (10000 * a + p) ∧ w 328 (10000 * a + p) ≤ 9) : e_Ok 20 elay ecode eI d 374 (0, [(0, (1, 275)), (1, (0, w 328 (10000 * a + p))), (2, (0, w 329 (10000 * a + p))), (3, (0, p))], [], w) (fun r' w' => r' = [] ∧ (e_fr (mRk t) w w' ∧ sRel w w') ∧ e_Has mTy w' ∧ (w 276 5 ≤ w' 276 5 ∧ w' 276 5 ≤ w 276 5 + 2) ∧ ((w' 275 102 = 0 ∧ ((w' 275 100 = 1 ∧ (w' 276 (1260 * t + 416) = 6 ∨ w' 276 (1260 * t + 416) = 7)) ∨ (w' 275 100 = w 275 100 ∧ w' 276 (1260 * t + 416) = w 276 (1260 * t + 416) ∧ w' 276 5 = w 276 5 ∧ ∃ (g' p' : Int) (bs' ow' : Int → Int), g' ≤ g ∧ (g' = g → p < p') ∧ topOk w' a t g' p' n nt nw dl sg pi an br bs' ow' ∧ dl p' = 0 ∧ sg p' = 0))) ∨ (w' 275 100 = w 275 100 ∧ w' 276 (1260 * t + 416) = w 276 (1260 * t + 416) ∧ w' 276 5 = w 276 5 ∧ ∃ p', topOk w' a t g p' n nt nw dl sg pi an br bs ow ∧ w' 275 102 = dl p' ∧ e_kn w' 345 0 (dl p' - 1) ∧ sg p' = 1 ∧ p < p'))) := by
  obtain ⟨d, rfl⟩ : ∃ e, d = e + 1 := ⟨d - 1, by omega⟩
  obtain ⟨hpn, hpc, hru⟩ := id hP
  obtain ⟨hg, hF, hlow, hrr, hPn, hch, hpe⟩ := id hru
  have hCn := hC.1
  have hins := hC.2.1 p hpn.1 hpn.2
  have hbg := hlow.2.1 g (by omega) (by omega)
  have hpen := hins.1.2.2.2.1
  have hpib := hC.2.2.2.1.2.1 _ hrr.1 hrr.2
  obtain ⟨hi0, hi1, hi2, hi3, hi4, hi5, hi6, -⟩ := id hins
  replace hi1 := (show Hd63 _ from hi1)
  replace hi2 := (show Hd63 _ from hi2)
  replace hi3 := (show Hd63 _ from hi3)
  replace hi4 := (show Hd63 _ from hi4)
  replace hi5 := (show Hd63 _ from hi5)
  replace hi6 := (show Hd63 _ from hi6)
  replace hins := (show Hd63 _ from hins)
  have hop24 : 1 ≤ w 328 (10000 * a + p) ∧ w 328 (10000 * a + p) ≤ 24 := ⟨hi0.1.1, hi0.1.2.2.resolve_right (Int.not_le.mpr hop)⟩
  have har := e_Has.get hT (c := 329) (k := 10000 * a + p) (lo := -2147483648) (hi := 2147483647) (mt_o rfl) (by decide)
  refine e_Ok.run (t' := (2, [(0, (1, 275)), (1, (0, w 328 (10000 * a + p))), (2, (0, w 329 (10000 * a + p))), (3, (0, p))], [(0, 1), (0, p)], w)) 2 rfl ?_
  refine e_Ok.add (z := p + 1) rfl rfl (by omega) ?_
  refine e_Ok.run (t' := (6, [(4, (0, p + 1)), (0, (1, 275)), (1, (0, w 328 (10000 * a + p))), (2, (0, w 329 (10000 * a + p))), (3, (0, p))], [(0, w 328 (10000 * a + p))], w)) 2 rfl ?_
  have hs2 : ∀ x : Int, 1 ≤ x ∧ x ≤ 24 → (x = 1) ∨ (x = 2) ∨ (x = 3) ∨ (x = 4) ∨ (x = 5) ∨ (x = 6) ∨ (x = 7) ∨ (x = 8) ∨ (x = 9) ∨ (x = 10 ∨ x = 11 ∨ x = 12 ∨ x = 13 ∨ x = 14 ∨ x = 15 ∨ x = 16 ∨ x = 17 ∨ x = 18 ∨ x = 19 ∨ x = 20) ∨ (x = 21) ∨ (x = 22) ∨ (x = 23) ∨ (x = 24) := fun x h => by omega
  obtain h1 | h1 | h1 | h1 | h1 | h1 | h1 | h1 | h1 | h1 | h1 | h1 | h1 | h1 := hs2 (w 328 (10000 * a + p)) (hop24)
  · exfalso; omega
  · exfalso; omega
  · exfalso; omega
  · exfalso; omega
  · exfalso; omega
  · exfalso; omega
  · refine e_Ok.sw (tg := 268) rfl (by rw [h1]; rfl) ?_
    have k1 := hi1.out (by omega)
    unfold iFT at k1
    have k2 := hi2.out (by omega)
    refine e_Ok.run (t' := (270, [(4, (0, p + 1)), (0, (1, 275)), (1, (0, w 328 (10000 * a + p))), (2, (0, w 329 (10000 * a + p))), (3, (0, p))], [(1, 275), (1, 275)], w)) 2 rfl ?_
    refine e_Ok.getr (z := 276) rfl (el_o rfl) rfl (ef_o rfl) (e_Has.eq hT (mt_o rfl)) ⟨by decide, by decide⟩ ?_
    refine e_Ok.ps1 (x := (0, 1)) (q := 274) 1 rfl ?_
    have h140 := (e_Has.get hT (c := 276) (k := 1) (lo := 0) (hi := 1) (mt_o rfl) (by decide))
    refine e_Ok.ald (z := w 276 1) rfl (el_o rfl) rfl (by omega) rfl (e_bq h140 (by decide) (by decide)) ?_
    refine e_Ok.callV rfl (e_dq hd rfl) rfl rfl rfl rfl (c_363 hT (e := dl p) (e1 := dl p + 1) h102 (by omega) (by omega)) (fun r141 w142 h143 => ?_)
    obtain ⟨rfl, hw142⟩ := h143
    generalize hw144 : e_up w 345 (dl p) (w 276 1) = w144 at hw142
    have hT146 : e_Has mTy w144 := e_Has.ups hT hw144 (mt_o rfl)
    have hT148 : e_Has mTy w142 := e_Has.ups hT146 hw142 (mt_o rfl)
    refine e_Ok.nrm (q := 278) (st' := []) rfl rfl ?_
    refine e_Ok.ps2 (x := (0, p + 1)) (y := (1, 275)) (q := 460) 3 rfl ?_
    refine e_Ok.callV rfl (e_dq hd rfl) rfl rfl rfl rfl (c_365 (e_dq hd rfl) hT148 (by omega) (e_uq hw142 (Or.inr (by omega)) (e_uq hw144 (Or.inl (by first | decide | omega)) h97)) (f := g + 1) (z := 1260 * t + 2 * g + 436) (e_uq hw142 (Or.inl (by first | decide | omega)) (e_uq hw144 (Or.inl (by first | decide | omega)) hF)) (by omega) (by omega)) (fun r149 w150 h151 => ?_)
    obtain ⟨rfl, hw150⟩ := h151
    have hT153 : e_Has mTy w150 := e_Has.upr hT148 hw150 (nR_FRg t (g) (by omega) (by omega) (by omega)) (by omega)
    refine e_Ok.nrm (q := 463) (st' := []) rfl rfl ?_
    refine e_Ok.rets rfl rfl ?_
    have e154 : w150 276 5 = w 276 5 := (e_uq hw150 (Or.inr (by omega)) (e_uq hw142 (Or.inl (by omega)) (e_uq hw144 (Or.inl (by omega)) rfl)))
    have hrn := runOk.fr (w' := w150) (fun c k q1 q2 => (e_uq hw150 (Or.inl (by omega)) (e_uq hw142 (Or.inl (by omega)) (e_uq hw144 (Or.inl (by omega)) rfl)))) (fun i q1 q2 => ⟨(e_uq hw150 (Or.inr (by omega)) (e_uq hw142 (Or.inl (by omega)) (e_uq hw144 (Or.inl (by omega)) rfl))), (e_uq hw150 (Or.inr (by omega)) (e_uq hw142 (Or.inl (by omega)) (e_uq hw144 (Or.inl (by omega)) rfl)))⟩) (e_uq hw150 (Or.inr (by omega)) (e_uq hw142 (Or.inl (by omega)) (e_uq hw144 (Or.inl (by omega)) rfl))) (e_uq hw150 (Or.inr (by omega)) (e_uq hw142 (Or.inl (by omega)) (e_uq hw144 (Or.inl (by omega)) rfl))) (fun k q1 q2 => (e_uq hw150 (Or.inr (by omega)) (e_uq hw142 (Or.inl (by omega)) (e_uq hw144 (Or.inl (by omega)) rfl)))) (by omega) hru
    have erg : w150 330 (10000 * a + (p + 1)) = w 330 (10000 * a + p) := by rw [show 10000 * a + (p + 1) = 10000 * a + p + 1 by omega]; exact Eq.trans (e_uq hw150 (Or.inl (by first | decide | omega)) (e_uq hw142 (Or.inl (by first | decide | omega)) (e_uq hw144 (Or.inl (by first | decide | omega)) rfl))) k1.2.2.2
    have ede : w150 275 102 = dl p + 1 := (e_uq hw150 (Or.inl (by omega)) (e_ue hw142))
    exact ⟨rfl, ⟨(show e_fr (mRk t) w w150 from e_fr.up (show e_fr (mRk t) w w142 from e_fr.up (show e_fr (mRk t) w w144 from e_fr.up (e_fr.refl w) hw144 (by first | exact Or.inr (Or.inl rfl) | (unfold mRk mLv; omega))) hw142 (by first | exact Or.inl (Or.inl ⟨rfl, Or.inr rfl⟩) | (unfold mRk mLv; omega))) hw150 (by first | exact Or.inl (Or.inr ⟨rfl, Or.inr (Or.inr (Or.inr (Or.inr (Or.inr (Or.inr (Or.inr (Or.inr (Or.inr ⟨(by omega), (by omega)⟩))))))))⟩) | (unfold mRk mLv; omega))), (sRel.up (sRel.up (sRel.up sRel.refl hw144 (fun q b g1 g2 => by omega)) hw142 (fun q b g1 g2 => by omega)) hw150 (fun q b g1 g2 => by omega))⟩, hT153, by omega, Or.inr ⟨(e_uq hw150 (Or.inl (by omega)) (e_uq hw142 (Or.inr (by omega)) (e_uq hw144 (Or.inl (by omega)) rfl))), (e_uq hw150 (Or.inr (by omega)) (e_uq hw142 (Or.inl (by omega)) (e_uq hw144 (Or.inl (by omega)) rfl))), by omega, p + 1, runOk.at hrn (by omega) (e_ue hw150) erg, by omega, e_kn.le (e_kn.oth (e_kn.oth (e_kn.put (b' := dl p) hst hw144 (by omega) (by omega)) hw142 (by decide)) hw150 (by decide)) (by omega), by omega, by omega⟩⟩
  · refine e_Ok.sw (tg := 281) rfl (by rw [h1]; rfl) ?_
    have k1 := hi1.out (by omega)
    unfold iFT at k1
    have k2 := hi2.out (by omega)
    refine e_Ok.run (t' := (283, [(4, (0, p + 1)), (0, (1, 275)), (1, (0, w 328 (10000 * a + p))), (2, (0, w 329 (10000 * a + p))), (3, (0, p))], [(1, 275), (1, 275)], w)) 2 rfl ?_
    refine e_Ok.getr (z := 276) rfl (el_o rfl) rfl (ef_o rfl) (e_Has.eq hT (mt_o rfl)) ⟨by decide, by decide⟩ ?_
    refine e_Ok.ps1 (x := (1, 275)) (q := 287) 1 rfl ?_
    refine e_Ok.getf (z := a) rfl (el_o rfl) rfl (ef_o rfl) h98 (by omega) ?_
    refine e_Ok.callS rfl (e_dq hd rfl) rfl rfl (c_268 (by omega)) (fun r155 w156 h157 => ?_)
    obtain ⟨rfl, rfl⟩ := h157
    refine e_Ok.nrm (q := 293) (st' := [(0, 36 * a + 16), (1, 276), (1, 275)]) rfl rfl ?_
    refine e_Ok.ps1 (x := (0, 1)) (q := 294) 1 rfl ?_
    refine e_Ok.add (z := 36 * a + 17) rfl (e_adl (by decide)) (by omega) ?_
    have h158 := (e_Has.get hT (c := 276) (k := 36 * a + 17) (lo := (-1)) (hi := 31) (nR_HOLDS (a := a) (by omega)) (by decide))
    refine e_Ok.ald (z := w 276 (36 * a + 17)) rfl (el_o rfl) rfl (by omega) rfl (e_bq h158 (by decide) (by decide)) ?_
    refine e_Ok.if1 rfl (fun h159 => ?_) (fun h159 => ?_)
    · replace h159 : (w 276 (36 * a + 17) : Int) < 0 := h159
      refine e_Ok.ps1 (x := (0, 0)) (q := 304) 1 rfl ?_
      refine e_Ok.callV rfl (e_dq hd rfl) rfl rfl rfl rfl (c_363 hT (e := dl p) (e1 := dl p + 1) h102 (by omega) (by omega)) (fun r160 w161 h162 => ?_)
      obtain ⟨rfl, hw161⟩ := h162
      generalize hw163 : e_up w 345 (dl p) 0 = w163 at hw161
      have hT165 : e_Has mTy w163 := e_Has.ups hT hw163 (mt_o rfl)
      have hT167 : e_Has mTy w161 := e_Has.ups hT165 hw161 (mt_o rfl)
      refine e_Ok.nrm (q := 307) (st' := []) rfl rfl ?_
      refine e_Ok.ps2 (x := (0, p + 1)) (y := (1, 275)) (q := 460) 3 rfl ?_
      refine e_Ok.callV rfl (e_dq hd rfl) rfl rfl rfl rfl (c_365 (e_dq hd rfl) hT167 (by omega) (e_uq hw161 (Or.inr (by omega)) (e_uq hw163 (Or.inl (by first | decide | omega)) h97)) (f := g + 1) (z := 1260 * t + 2 * g + 436) (e_uq hw161 (Or.inl (by first | decide | omega)) (e_uq hw163 (Or.inl (by first | decide | omega)) hF)) (by omega) (by omega)) (fun r168 w169 h170 => ?_)
      obtain ⟨rfl, hw169⟩ := h170
      have hT172 : e_Has mTy w169 := e_Has.upr hT167 hw169 (nR_FRg t (g) (by omega) (by omega) (by omega)) (by omega)
      refine e_Ok.nrm (q := 463) (st' := []) rfl rfl ?_
      refine e_Ok.rets rfl rfl ?_
      have e173 : w169 276 5 = w 276 5 := (e_uq hw169 (Or.inr (by omega)) (e_uq hw161 (Or.inl (by omega)) (e_uq hw163 (Or.inl (by omega)) rfl)))
      have hrn := runOk.fr (w' := w169) (fun c k q1 q2 => (e_uq hw169 (Or.inl (by omega)) (e_uq hw161 (Or.inl (by omega)) (e_uq hw163 (Or.inl (by omega)) rfl)))) (fun i q1 q2 => ⟨(e_uq hw169 (Or.inr (by omega)) (e_uq hw161 (Or.inl (by omega)) (e_uq hw163 (Or.inl (by omega)) rfl))), (e_uq hw169 (Or.inr (by omega)) (e_uq hw161 (Or.inl (by omega)) (e_uq hw163 (Or.inl (by omega)) rfl)))⟩) (e_uq hw169 (Or.inr (by omega)) (e_uq hw161 (Or.inl (by omega)) (e_uq hw163 (Or.inl (by omega)) rfl))) (e_uq hw169 (Or.inr (by omega)) (e_uq hw161 (Or.inl (by omega)) (e_uq hw163 (Or.inl (by omega)) rfl))) (fun k q1 q2 => (e_uq hw169 (Or.inr (by omega)) (e_uq hw161 (Or.inl (by omega)) (e_uq hw163 (Or.inl (by omega)) rfl)))) (by omega) hru
      have erg : w169 330 (10000 * a + (p + 1)) = w 330 (10000 * a + p) := by rw [show 10000 * a + (p + 1) = 10000 * a + p + 1 by omega]; exact Eq.trans (e_uq hw169 (Or.inl (by first | decide | omega)) (e_uq hw161 (Or.inl (by first | decide | omega)) (e_uq hw163 (Or.inl (by first | decide | omega)) rfl))) k1.2.2.2
      have ede : w169 275 102 = dl p + 1 := (e_uq hw169 (Or.inl (by omega)) (e_ue hw161))
      exact ⟨rfl, ⟨(show e_fr (mRk t) w w169 from e_fr.up (show e_fr (mRk t) w w161 from e_fr.up (show e_fr (mRk t) w w163 from e_fr.up (e_fr.refl w) hw163 (by first | exact Or.inr (Or.inl rfl) | (unfold mRk mLv; omega))) hw161 (by first | exact Or.inl (Or.inl ⟨rfl, Or.inr rfl⟩) | (unfold mRk mLv; omega))) hw169 (by first | exact Or.inl (Or.inr ⟨rfl, Or.inr (Or.inr (Or.inr (Or.inr (Or.inr (Or.inr (Or.inr (Or.inr (Or.inr ⟨(by omega), (by omega)⟩))))))))⟩) | (unfold mRk mLv; omega))), (sRel.up (sRel.up (sRel.up sRel.refl hw163 (fun q b g1 g2 => by omega)) hw161 (fun q b g1 g2 => by omega)) hw169 (fun q b g1 g2 => by omega))⟩, hT172, by omega, Or.inr ⟨(e_uq hw169 (Or.inl (by omega)) (e_uq hw161 (Or.inr (by omega)) (e_uq hw163 (Or.inl (by omega)) rfl))), (e_uq hw169 (Or.inr (by omega)) (e_uq hw161 (Or.inl (by omega)) (e_uq hw163 (Or.inl (by omega)) rfl))), by omega, p + 1, runOk.at hrn (by omega) (e_ue hw169) erg, by omega, e_kn.le (e_kn.oth (e_kn.oth (e_kn.put (b' := dl p) hst hw163 (by omega) (by omega)) hw161 (by decide)) hw169 (by decide)) (by omega), by omega, by omega⟩⟩
    · replace h159 : (w 276 (36 * a + 17) : Int) ≥ 0 := Int.not_lt.mp (show ¬ ((w 276 (36 * a + 17) : Int) < 0) from h159)
      refine e_Ok.ps1 (x := (0, 1)) (q := 304) 2 rfl ?_
      refine e_Ok.callV rfl (e_dq hd rfl) rfl rfl rfl rfl (c_363 hT (e := dl p) (e1 := dl p + 1) h102 (by omega) (by omega)) (fun r174 w175 h176 => ?_)
      obtain ⟨rfl, hw175⟩ := h176
      generalize hw177 : e_up w 345 (dl p) 1 = w177 at hw175
      have hT179 : e_Has mTy w177 := e_Has.ups hT hw177 (mt_o rfl)
      have hT181 : e_Has mTy w175 := e_Has.ups hT179 hw175 (mt_o rfl)
      refine e_Ok.nrm (q := 307) (st' := []) rfl rfl ?_
      refine e_Ok.ps2 (x := (0, p + 1)) (y := (1, 275)) (q := 460) 3 rfl ?_
      refine e_Ok.callV rfl (e_dq hd rfl) rfl rfl rfl rfl (c_365 (e_dq hd rfl) hT181 (by omega) (e_uq hw175 (Or.inr (by omega)) (e_uq hw177 (Or.inl (by first | decide | omega)) h97)) (f := g + 1) (z := 1260 * t + 2 * g + 436) (e_uq hw175 (Or.inl (by first | decide | omega)) (e_uq hw177 (Or.inl (by first | decide | omega)) hF)) (by omega) (by omega)) (fun r182 w183 h184 => ?_)
      obtain ⟨rfl, hw183⟩ := h184
      have hT186 : e_Has mTy w183 := e_Has.upr hT181 hw183 (nR_FRg t (g) (by omega) (by omega) (by omega)) (by omega)
      refine e_Ok.nrm (q := 463) (st' := []) rfl rfl ?_
      refine e_Ok.rets rfl rfl ?_
      have e187 : w183 276 5 = w 276 5 := (e_uq hw183 (Or.inr (by omega)) (e_uq hw175 (Or.inl (by omega)) (e_uq hw177 (Or.inl (by omega)) rfl)))
      have hrn := runOk.fr (w' := w183) (fun c k q1 q2 => (e_uq hw183 (Or.inl (by omega)) (e_uq hw175 (Or.inl (by omega)) (e_uq hw177 (Or.inl (by omega)) rfl)))) (fun i q1 q2 => ⟨(e_uq hw183 (Or.inr (by omega)) (e_uq hw175 (Or.inl (by omega)) (e_uq hw177 (Or.inl (by omega)) rfl))), (e_uq hw183 (Or.inr (by omega)) (e_uq hw175 (Or.inl (by omega)) (e_uq hw177 (Or.inl (by omega)) rfl)))⟩) (e_uq hw183 (Or.inr (by omega)) (e_uq hw175 (Or.inl (by omega)) (e_uq hw177 (Or.inl (by omega)) rfl))) (e_uq hw183 (Or.inr (by omega)) (e_uq hw175 (Or.inl (by omega)) (e_uq hw177 (Or.inl (by omega)) rfl))) (fun k q1 q2 => (e_uq hw183 (Or.inr (by omega)) (e_uq hw175 (Or.inl (by omega)) (e_uq hw177 (Or.inl (by omega)) rfl)))) (by omega) hru
      have erg : w183 330 (10000 * a + (p + 1)) = w 330 (10000 * a + p) := by rw [show 10000 * a + (p + 1) = 10000 * a + p + 1 by omega]; exact Eq.trans (e_uq hw183 (Or.inl (by first | decide | omega)) (e_uq hw175 (Or.inl (by first | decide | omega)) (e_uq hw177 (Or.inl (by first | decide | omega)) rfl))) k1.2.2.2
      have ede : w183 275 102 = dl p + 1 := (e_uq hw183 (Or.inl (by omega)) (e_ue hw175))
      exact ⟨rfl, ⟨(show e_fr (mRk t) w w183 from e_fr.up (show e_fr (mRk t) w w175 from e_fr.up (show e_fr (mRk t) w w177 from e_fr.up (e_fr.refl w) hw177 (by first | exact Or.inr (Or.inl rfl) | (unfold mRk mLv; omega))) hw175 (by first | exact Or.inl (Or.inl ⟨rfl, Or.inr rfl⟩) | (unfold mRk mLv; omega))) hw183 (by first | exact Or.inl (Or.inr ⟨rfl, Or.inr (Or.inr (Or.inr (Or.inr (Or.inr (Or.inr (Or.inr (Or.inr (Or.inr ⟨(by omega), (by omega)⟩))))))))⟩) | (unfold mRk mLv; omega))), (sRel.up (sRel.up (sRel.up sRel.refl hw177 (fun q b g1 g2 => by omega)) hw175 (fun q b g1 g2 => by omega)) hw183 (fun q b g1 g2 => by omega))⟩, hT186, by omega, Or.inr ⟨(e_uq hw183 (Or.inl (by omega)) (e_uq hw175 (Or.inr (by omega)) (e_uq hw177 (Or.inl (by omega)) rfl))), (e_uq hw183 (Or.inr (by omega)) (e_uq hw175 (Or.inl (by omega)) (e_uq hw177 (Or.inl (by omega)) rfl))), by omega, p + 1, runOk.at hrn (by omega) (e_ue hw183) erg, by omega, e_kn.le (e_kn.oth (e_kn.oth (e_kn.put (b' := dl p) hst hw177 (by omega) (by omega)) hw175 (by decide)) hw183 (by decide)) (by omega), by omega, by omega⟩⟩
  · refine e_Ok.sw (tg := 310) rfl (by rw [h1]; rfl) ?_
    have k1 := hi1.out (by omega)
    unfold iFT at k1
    have k4 := hi4.out (by omega)
    refine e_Ok.run (t' := (312, [(4, (0, p + 1)), (0, (1, 275)), (1, (0, w 328 (10000 * a + p))), (2, (0, w 329 (10000 * a + p))), (3, (0, p))], [(1, 275), (1, 275)], w)) 2 rfl ?_
    refine e_Ok.callV rfl (e_dq hd rfl) rfl rfl rfl rfl (c_364 hT (e := dl p) (u := dl p - 1) h102 (by omega) (by omega) (by have q : w 345 (dl p - 1) = w 345 (dl p - 1) := rfl; have q2 := (hst (dl p - 1) (by omega) (by omega)); omega)) (fun r188 w189 h190 => ?_)
    obtain ⟨rfl, hw189⟩ := h190
    generalize hz191 : w 345 (dl p - 1) = z191
    have z191r : z191 = w 345 (dl p - 1) := Eq.trans hz191.symm rfl
    have hT193 : e_Has mTy w189 := e_Has.ups hT hw189 (mt_o rfl)
    refine e_Ok.nrm (q := 315) (st' := [(0, z191), (1, 275)]) rfl rfl ?_
    refine e_Ok.anyU rfl (fun z194 z194a z194b => ?_)
    refine e_Ok.callV rfl (e_dq hd rfl) rfl rfl rfl rfl (c_363 hT193 (e := dl p - 1) (e1 := dl p) (e_ue hw189) (by omega) (by omega)) (fun r195 w196 h197 => ?_)
    obtain ⟨rfl, hw196⟩ := h197
    generalize hw198 : e_up w189 345 (dl p - 1) z194 = w198 at hw196
    have hT200 : e_Has mTy w198 := e_Has.ups hT193 hw198 (mt_o rfl)
    have hT202 : e_Has mTy w196 := e_Has.ups hT200 hw196 (mt_o rfl)
    refine e_Ok.nrm (q := 319) (st' := []) rfl rfl ?_
    refine e_Ok.ps2 (x := (0, p + 1)) (y := (1, 275)) (q := 460) 3 rfl ?_
    refine e_Ok.callV rfl (e_dq hd rfl) rfl rfl rfl rfl (c_365 (e_dq hd rfl) hT202 (by omega) (e_uq hw196 (Or.inr (by omega)) (e_uq hw198 (Or.inl (by first | decide | omega)) (e_uq hw189 (Or.inr (by omega)) h97))) (f := g + 1) (z := 1260 * t + 2 * g + 436) (e_uq hw196 (Or.inl (by first | decide | omega)) (e_uq hw198 (Or.inl (by first | decide | omega)) (e_uq hw189 (Or.inl (by first | decide | omega)) hF))) (by omega) (by omega)) (fun r203 w204 h205 => ?_)
    obtain ⟨rfl, hw204⟩ := h205
    have hT207 : e_Has mTy w204 := e_Has.upr hT202 hw204 (nR_FRg t (g) (by omega) (by omega) (by omega)) (by omega)
    refine e_Ok.nrm (q := 463) (st' := []) rfl rfl ?_
    refine e_Ok.rets rfl rfl ?_
    have e208 : w204 276 5 = w 276 5 := (e_uq hw204 (Or.inr (by omega)) (e_uq hw196 (Or.inl (by omega)) (e_uq hw198 (Or.inl (by omega)) (e_uq hw189 (Or.inl (by omega)) rfl))))
    have hrn := runOk.fr (w' := w204) (fun c k q1 q2 => (e_uq hw204 (Or.inl (by omega)) (e_uq hw196 (Or.inl (by omega)) (e_uq hw198 (Or.inl (by omega)) (e_uq hw189 (Or.inl (by omega)) rfl))))) (fun i q1 q2 => ⟨(e_uq hw204 (Or.inr (by omega)) (e_uq hw196 (Or.inl (by omega)) (e_uq hw198 (Or.inl (by omega)) (e_uq hw189 (Or.inl (by omega)) rfl)))), (e_uq hw204 (Or.inr (by omega)) (e_uq hw196 (Or.inl (by omega)) (e_uq hw198 (Or.inl (by omega)) (e_uq hw189 (Or.inl (by omega)) rfl))))⟩) (e_uq hw204 (Or.inr (by omega)) (e_uq hw196 (Or.inl (by omega)) (e_uq hw198 (Or.inl (by omega)) (e_uq hw189 (Or.inl (by omega)) rfl)))) (e_uq hw204 (Or.inr (by omega)) (e_uq hw196 (Or.inl (by omega)) (e_uq hw198 (Or.inl (by omega)) (e_uq hw189 (Or.inl (by omega)) rfl)))) (fun k q1 q2 => (e_uq hw204 (Or.inr (by omega)) (e_uq hw196 (Or.inl (by omega)) (e_uq hw198 (Or.inl (by omega)) (e_uq hw189 (Or.inl (by omega)) rfl))))) (by omega) hru
    have erg : w204 330 (10000 * a + (p + 1)) = w 330 (10000 * a + p) := by rw [show 10000 * a + (p + 1) = 10000 * a + p + 1 by omega]; exact Eq.trans (e_uq hw204 (Or.inl (by first | decide | omega)) (e_uq hw196 (Or.inl (by first | decide | omega)) (e_uq hw198 (Or.inl (by first | decide | omega)) (e_uq hw189 (Or.inl (by first | decide | omega)) rfl)))) k1.2.2.2
    have ede : w204 275 102 = dl p := (e_uq hw204 (Or.inl (by omega)) (e_ue hw196))
    exact ⟨rfl, ⟨(show e_fr (mRk t) w w204 from e_fr.up (show e_fr (mRk t) w w196 from e_fr.up (show e_fr (mRk t) w w198 from e_fr.up (show e_fr (mRk t) w w189 from e_fr.up (e_fr.refl w) hw189 (by unfold mRk mLv; omega)) hw198 (by first | exact Or.inr (Or.inl rfl) | (unfold mRk mLv; omega))) hw196 (by first | exact Or.inl (Or.inl ⟨rfl, Or.inr rfl⟩) | (unfold mRk mLv; omega))) hw204 (by first | exact Or.inl (Or.inr ⟨rfl, Or.inr (Or.inr (Or.inr (Or.inr (Or.inr (Or.inr (Or.inr (Or.inr (Or.inr ⟨(by omega), (by omega)⟩))))))))⟩) | (unfold mRk mLv; omega))), (sRel.up (sRel.up (sRel.up (sRel.up sRel.refl hw189 (fun q b g1 g2 => by omega)) hw198 (fun q b g1 g2 => by omega)) hw196 (fun q b g1 g2 => by omega)) hw204 (fun q b g1 g2 => by omega))⟩, hT207, by omega, Or.inr ⟨(e_uq hw204 (Or.inl (by omega)) (e_uq hw196 (Or.inr (by omega)) (e_uq hw198 (Or.inl (by omega)) (e_uq hw189 (Or.inr (by omega)) rfl)))), (e_uq hw204 (Or.inr (by omega)) (e_uq hw196 (Or.inl (by omega)) (e_uq hw198 (Or.inl (by omega)) (e_uq hw189 (Or.inl (by omega)) rfl)))), by omega, p + 1, runOk.at hrn (by omega) (e_ue hw204) erg, by omega, e_kn.le (e_kn.oth (e_kn.oth (e_kn.put (b' := dl p - 1) (e_kn.oth hst hw189 (by decide)) hw198 (by omega) (by omega)) hw196 (by decide)) hw204 (by decide)) (by omega), by omega, by omega⟩⟩
  · exfalso; omega
  · exfalso; omega
  · exfalso; omega
  · exfalso; omega
  · exfalso; omega
end
end
