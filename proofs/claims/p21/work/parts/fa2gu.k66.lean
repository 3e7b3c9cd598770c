noncomputable section
/-! the class: wire, exactly; the sources behind build -/
theorem c_111_e {d : Nat} {w : eW} (hT : e_Has kTy w) (hA : kAc w) {p : Int} (g_p : 0 ≤ p ∧ p ≤ 63) {q : Int} (g_q : 0 ≤ q ∧ q ≤ 63) : e_Ok 20 elay kcode eI d 111 (0, [(0, (1, 10)), (1, (0, p)), (2, (0, q))], [], w) (fun r w' => ∃ z : Int, r = [(0, z)] ∧ w = w' ∧ ((z = 1 ∧ ¬ (0 ≤ w 15 q ∨ ∃ n, kHit w q n p)) ∨ (z = 0 ∧ (0 ≤ w 15 q ∨ ∃ n, kHit w q n p)))) := by
  obtain ⟨rk, hrk, hrm⟩ := hA.rk1
  refine e_Ok.ps1 (x := (1, 10)) (q := 1) 1 rfl ?_
  refine e_Ok.getr (z := 15) rfl (el_o rfl) rfl rfl (Eq.trans (e_Has.eq hT rfl) (by omega)) ⟨by decide, by decide⟩ ?_
  refine e_Ok.ps1 (x := (0, q)) (q := 5) 1 rfl ?_
  have h1 := (e_Has.get hT (c := 15) (k := q) (lo := (-1)) (hi := 63) rfl (by decide))
  refine e_Ok.ald (z := w 15 q) rfl (el_o rfl) rfl (by omega) rfl (e_bq h1 (by decide) (by decide)) ?_
  refine e_Ok.if1 rfl (fun h2 => ?_) (fun h2 => ?_)
  · replace h2 : (w 15 q : Int) < 0 := h2
    refine e_Ok.run (t' := (16, [(4, (0, 0)), (3, (0, p)), (0, (1, 10)), (1, (0, p)), (2, (0, q))], [], w)) 4 rfl ?_
    have hL3 : ∀ (nn : Nat) (y3 : Int) (y4 : Int), ((-1 ≤ y3 ∧ y3 ≤ 63)) ∧ ((∃ n, kHit w q n p) ↔ ∃ n, kHit w q n y3) ∧ (rk y3 ≤ 63 - y4) ∧ ((0 ≤ y4 ∧ y4 ≤ 64)) → 65 - y4 < nn → e_Ok 20 elay kcode eI d 111 (16, [(0, (1, 10)), (1, (0, p)), (2, (0, q)), (3, (0, y3)), (4, (0, y4))], [], w) (fun r w' => ∃ z : Int, r = [(0, z)] ∧ w = w' ∧ ((z = 1 ∧ ¬ (0 ≤ w 15 q ∨ ∃ n, kHit w q n p)) ∨ (z = 0 ∧ (0 ≤ w 15 q ∨ ∃ n, kHit w q n p)))) := by
      intro nn
      induction nn with
      | zero => intro y3 y4 hj hm; obtain ⟨j5, j6, j7, j8⟩ := hj; exfalso; omega
      | succ nn ih4 =>
        intro y3 y4 hj hm
        obtain ⟨j5, j6, j7, j8⟩ := hj
        refine e_Ok.run (t' := (20, [(0, (1, 10)), (1, (0, p)), (2, (0, q)), (3, (0, y3)), (4, (0, y4))], [(0, 64), (0, y4)], w)) 2 rfl ?_
        refine e_Ok.if2 rfl (fun h9 => ?_) (fun h9 => ?_)
        · replace h9 : (y4 : Int) ≥ 64 := h9
          refine e_Ok.ps1 (x := (0, 1)) (q := 48) 1 rfl ?_
          refine e_Ok.rets rfl rfl ?_
          exact ⟨_, rfl, rfl, Or.inl ⟨rfl, fun g => g.elim (fun g => by omega) (fun hx => by obtain ⟨n, hn⟩ := j6.1 hx; by_cases g : 0 ≤ y3; (have := (hrk y3 g (by omega)).1; omega); (cases n with | zero => (have : y3 = q := hn; omega) | succ n => exact g hn.1))⟩⟩
        · replace h9 : (y4 : Int) < 64 := Int.not_le.mp (show ¬ ((y4 : Int) ≥ 64) from h9)
          refine e_Ok.ps1 (x := (0, y3)) (q := 24) 1 rfl ?_
          refine e_Ok.if1 rfl (fun h10 => ?_) (fun h10 => ?_)
          · replace h10 : (y3 : Int) < 0 := h10
            refine e_Ok.ps1 (x := (0, 1)) (q := 48) 1 rfl ?_
            refine e_Ok.rets rfl rfl ?_
            exact ⟨_, rfl, rfl, Or.inl ⟨rfl, fun g => g.elim (fun g => by omega) (fun hx => by obtain ⟨n, hn⟩ := j6.1 hx; by_cases g : 0 ≤ y3; (have := (hrk y3 g (by omega)).1; omega); (cases n with | zero => (have : y3 = q := hn; omega) | succ n => exact g hn.1))⟩⟩
          · replace h10 : (y3 : Int) ≥ 0 := Int.not_lt.mp (show ¬ ((y3 : Int) < 0) from h10)
            refine e_Ok.ps2 (x := (0, q)) (y := (0, y3)) (q := 29) 2 rfl ?_
            refine e_Ok.if2 rfl (fun h11 => ?_) (fun h11 => ?_)
            · replace h11 : (y3 : Int) ≠ q := h11
              refine e_Ok.ps1 (x := (1, 10)) (q := 35) 1 rfl ?_
              refine e_Ok.getr (z := 15) rfl (el_o rfl) rfl rfl (Eq.trans (e_Has.eq hT rfl) (by omega)) ⟨by decide, by decide⟩ ?_
              refine e_Ok.ps1 (x := (0, y3)) (q := 39) 1 rfl ?_
              have h12 := (e_Has.get hT (c := 15) (k := y3) (lo := (-1)) (hi := 63) rfl (by decide))
              refine e_Ok.ald (z := w 15 y3) rfl (el_o rfl) rfl (by omega) rfl (e_bq h12 (by decide) (by decide)) ?_
              refine e_Ok.run (t' := (41, [(3, (0, w 15 y3)), (0, (1, 10)), (1, (0, p)), (2, (0, q)), (4, (0, y4))], [], w)) 1 rfl ?_
              refine e_Ok.inc (z := y4 + 1) rfl rfl (by first | with_reducible rfl | omega) (by omega) ?_
              show e_Ok 20 elay kcode eI d 111 (44, [(4, (0, y4 + 1)), (3, (0, w 15 y3)), (0, (1, 10)), (1, (0, p)), (2, (0, q))], [], w) _
              refine e_Ok.ps0 (q := 16) 1 rfl ?_
              refine e_Ok.sub kAlk (e_sub_of rfl ?_) (ih4 (w 15 y3) (y4 + 1) ⟨(by omega), ⟨(fun hx => by obtain ⟨n, hn⟩ := j6.1 hx; cases n with | zero => (have : y3 = q := hn; omega) | succ n => exact ⟨n, hn.2⟩), fun ⟨n, hn⟩ => j6.2 ⟨n + 1, by omega, hn⟩⟩, (by have k := (hrk y3 (by omega) (by omega)); have k2 := k.2; have k1 := k.1; by_cases g : 0 ≤ w 15 y3; (have := k2 g; omega); (rw [show w 15 y3 = -1 by omega, hrm]; omega)), (by omega)⟩ (by omega))
              exact ⟨rfl, rfl, rfl, rfl, rfl, trivial⟩
            · replace h11 : (y3 : Int) = q := Classical.not_not.mp (show ¬ ((y3 : Int) ≠ q) from h11)
              refine e_Ok.ps1 (x := (0, 0)) (q := 33) 1 rfl ?_
              refine e_Ok.rets rfl rfl ?_
              exact ⟨_, rfl, rfl, Or.inr ⟨rfl, Or.inr (j6.2 ⟨0, h11⟩)⟩⟩
    refine e_Ok.sub kAlk (e_sub_of rfl ?_) (hL3 (65 + 1 : Int).toNat p 0 ⟨(by omega), Iff.rfl, (by have := (hrk p (by omega) (by omega)).1; omega), (by omega)⟩ (by omega))
    exact ⟨rfl, rfl, rfl, rfl, rfl, trivial⟩
  · replace h2 : (w 15 q : Int) ≥ 0 := Int.not_lt.mp (show ¬ ((w 15 q : Int) < 0) from h2)
    refine e_Ok.ps1 (x := (0, 0)) (q := 10) 1 rfl ?_
    refine e_Ok.rets rfl rfl ?_
    exact ⟨_, rfl, rfl, Or.inr ⟨rfl, Or.inl h2⟩⟩
set_option maxHeartbeats 4000000 in
theorem c_112_e {d : Nat} (hd : 25 ≤ d) {w : eW} (hT : e_Has kTy w) (hA : kAc w) {p : Int} (g_p : 0 ≤ p ∧ p ≤ 63) {q : Int} (g_q : 0 ≤ q ∧ q ≤ 63) {t : Int} (g_t : 0 ≤ t ∧ t ≤ 1) (hn : ¬ ∃ n, kHit w q n p) : e_Ok 20 elay kcode eI d 112 (0, [(0, (1, 10)), (1, (0, p)), (2, (0, q)), (3, (0, t))], [], w) (fun r w' => r = [] ∧ ∀ k, w' 15 k = if k = q then p else w 15 k) := by
  obtain ⟨d, rfl⟩ : ∃ e, d = e + 1 := ⟨d - 1, by omega⟩
  refine e_Ok.ps1 (x := (1, 10)) (q := 1) 1 rfl ?_
  refine e_Ok.getr (z := 15) rfl (el_o rfl) rfl rfl (Eq.trans (e_Has.eq hT rfl) (by omega)) ⟨by decide, by decide⟩ ?_
  refine e_Ok.ps2 (x := (0, p)) (y := (0, q)) (q := 6) 2 rfl ?_
  refine e_Ok.ast rfl (el_o rfl) rfl rfl (by omega) ?_
  generalize hw1 : e_up w 15 q p = w1
  have hT3 : e_Has kTy w1 := e_Has.upr hT hw1 rfl (by omega)
  refine e_Ok.ps1 (x := (1, 10)) (q := 8) 1 rfl ?_
  refine e_Ok.getr (z := 17) rfl (el_o rfl) rfl rfl (e_uq hw1 (Or.inl (by decide)) (Eq.trans (e_Has.eq hT rfl) (by omega))) ⟨by decide, by decide⟩ ?_
  refine e_Ok.ps2 (x := (0, t)) (y := (0, q)) (q := 13) 2 rfl ?_
  refine e_Ok.ast rfl (el_o rfl) rfl (e_nar_b (by omega)) (by omega) ?_
  generalize hw4 : e_up w1 17 q t = w4
  have hT6 : e_Has kTy w4 := e_Has.upr hT3 hw4 rfl (by omega)
  refine e_Ok.ps1 (x := (1, 10)) (q := 15) 1 rfl ?_
  refine e_Ok.callV rfl (e_dq hd rfl) rfl rfl rfl rfl (c_115 hT6 (hA.wire (fun p _ _ => e_Has.get hT (c := 15) (k := p) (lo := -1) (hi := 63) rfl (by decide)) (by omega) (by omega) hn (fun k => by rw [← hw4, e_up_ne _ _ (by omega), ← hw1]; by_cases e : k = q; (rw [e, if_pos rfl]; exact e_up_eq _ _ _ _); (rw [if_neg e]; exact e_up_ne _ _ (by omega))))) (fun r7 w8 h9 => ?_)
  obtain ⟨rfl, af, aT, ap, ac⟩ := h9
  refine e_Ok.nrm (q := 18) (st' := []) rfl rfl ?_
  refine e_Ok.ps1 (x := (1, 10)) (q := 19) 1 rfl ?_
  refine e_Ok.callV rfl (e_dq hd rfl) rfl rfl rfl rfl (c_110 (e_dq hd rfl) aT) (fun r11 w12 h13 => ?_)
  obtain ⟨rfl, rf_, rT, -⟩ := h13
  refine e_Ok.nrm (q := 22) (st' := []) rfl rfl ?_
  refine e_Ok.rets rfl rfl ?_
  exact ⟨rfl, fun k => by rw [rf_ 15 _ (by unfold kPr; omega), af 15 _ (by unfold kF18; omega), ← hw4, e_up_ne _ _ (by omega), ← hw1]; by_cases e : k = q; (rw [e, if_pos rfl]; exact e_up_eq _ _ _ _); (rw [if_neg e]; exact e_up_ne _ _ (by omega))⟩
set_option maxHeartbeats 4000000 in
theorem c_209_e {d : Nat} (hd : 28 ≤ d) {w : eW} (hT : e_Has kTy w) (hO : 0 ≤ w 0 13 ∧ w 0 13 ≤ 1) (hA : w 0 13 = 0 → kAc w) {a : Int} (g_a : (-2147483648) ≤ a ∧ a ≤ 2147483647) {b : Int} (g_b : (-2147483648) ≤ b ∧ b ≤ 2147483647) {c : Int} (g_c : 0 ≤ c ∧ c ≤ 1) : e_Ok 20 elay kcode eI d 209 (0, [(0, (1, 0)), (1, (0, a)), (2, (0, b)), (3, (0, c))], [], w) (fun r w' => ∃ z : Int, r = [(0, z)] ∧ ((w = w' ∧ ((¬ ((0 ≤ a ∧ a ≤ 63) ∧ 0 ≤ b ∧ b ≤ 63) ∧ z = -1) ∨ (((0 ≤ a ∧ a ≤ 63) ∧ 0 ≤ b ∧ b ≤ 63) ∧ (w 0 13 ≠ 0 ∨ 0 ≤ w 15 b ∨ ∃ n, kHit w b n a) ∧ z = -2))) ∨ ((((0 ≤ a ∧ a ≤ 63) ∧ 0 ≤ b ∧ b ≤ 63) ∧ ¬ (w 0 13 ≠ 0 ∨ 0 ≤ w 15 b ∨ ∃ n, kHit w b n a)) ∧ z = 0 ∧ ∀ k, w' 15 k = if k = b then a else w 15 k))) := by
  obtain ⟨d, rfl⟩ : ∃ e, d = e + 1 := ⟨d - 1, by omega⟩
  have hw0 := e_Has.get hT (c := 0) (k := 11) (lo := 0) (hi := 4) rfl (by decide)
  refine e_Ok.ps1 (x := (0, a)) (q := 1) 1 rfl ?_
  refine e_Ok.callS rfl (e_dq hd rfl) rfl rfl (c_245 (e_dq hd rfl) (by omega)) (fun r1 w2 h3 => ?_)
  obtain ⟨z4, rfl, rfl, q5⟩ := h3
  obtain ⟨rfl, q5⟩ | ⟨rfl, q5⟩ := q5
  · refine e_Ok.nrm (q := 4) (st' := [(0, 1)]) rfl rfl ?_
    refine e_Ok.if1 rfl (fun h6 => ?_) (fun h6 => ?_)
    · replace h6 : (1 : Int) = 0 := h6
      exfalso; omega
    · replace h6 : (1 : Int) ≠ 0 := (show ¬ ((1 : Int) = 0) from h6)
      refine e_Ok.ps1 (x := (0, b)) (q := 8) 1 rfl ?_
      refine e_Ok.callS rfl (e_dq hd rfl) rfl rfl (c_245 (e_dq hd rfl) (by omega)) (fun r7 w8 h9 => ?_)
      obtain ⟨z10, rfl, rfl, q11⟩ := h9
      obtain ⟨rfl, q11⟩ | ⟨rfl, q11⟩ := q11
      · refine e_Ok.nrm (q := 11) (st' := [(0, 1)]) rfl rfl ?_
        refine e_Ok.if1 rfl (fun h12 => ?_) (fun h12 => ?_)
        · replace h12 : (1 : Int) ≠ 0 := h12
          refine e_Ok.ps1 (x := (1, 0)) (q := 17) 1 rfl ?_
          refine e_Ok.getf (z := w 0 13) rfl (el_o rfl) rfl rfl rfl (by omega) ?_
          refine e_Ok.if1 rfl (fun h13 => ?_) (fun h13 => ?_)
          · replace h13 : (w 0 13 : Int) ≠ 0 := h13
            refine e_Ok.ps1 (x := (0, (-2))) (q := 37) 1 rfl ?_
            refine e_Ok.rets rfl rfl ?_
            exact ⟨_, rfl, Or.inl ⟨rfl, Or.inr ⟨by omega, Or.inl h13, rfl⟩⟩⟩
          · replace h13 : (w 0 13 : Int) = 0 := Classical.not_not.mp (show ¬ ((w 0 13 : Int) ≠ 0) from h13)
            refine e_Ok.ps1 (x := (1, 0)) (q := 24) 1 rfl ?_
            refine e_Ok.getr (z := 10) rfl (el_o rfl) rfl rfl (Eq.trans (e_Has.eq hT rfl) (by omega)) ⟨by decide, by decide⟩ ?_
            refine e_Ok.ps2 (x := (0, b)) (y := (0, a)) (q := 29) 2 rfl ?_
            refine e_Ok.callV rfl (e_dq hd rfl) rfl rfl rfl rfl (c_111_e hT (hA (by omega)) (by omega) (by omega)) (fun r14 w15 h16 => ?_)
            obtain ⟨z17, rfl, rfl, cx⟩ := h16
            have cr : 0 ≤ z17 ∧ z17 ≤ 1 := by rcases cx with ⟨e, -⟩ | ⟨e, -⟩ <;> omega
            refine e_Ok.nrm (q := 32) (st' := [(0, z17)]) rfl rfl ?_
            refine e_Ok.if1 rfl (fun h18 => ?_) (fun h18 => ?_)
            · replace h18 : (z17 : Int) ≠ 0 := h18
              have cn : ¬ (0 ≤ w 15 b ∨ ∃ n, kHit w b n a) := cx.elim (fun e => e.2) (fun e => absurd e.1 h18)
              refine e_Ok.ps1 (x := (1, 0)) (q := 39) 1 rfl ?_
              refine e_Ok.getr (z := 10) rfl (el_o rfl) rfl rfl (Eq.trans (e_Has.eq hT rfl) (by omega)) ⟨by decide, by decide⟩ ?_
              refine e_Ok.ps3 (x := (0, c)) (y := (0, b)) (z := (0, a)) (q := 45) 3 rfl ?_
              refine e_Ok.callV rfl (e_dq hd rfl) rfl rfl rfl rfl (c_112_e (e_dq hd rfl) hT (hA (by omega)) (by omega) (by omega) (by omega) (fun g => cn (Or.inr g))) (fun r19 w20 h21 => ?_)
              obtain ⟨rfl, n15⟩ := h21
              refine e_Ok.nrm (q := 48) (st' := []) rfl rfl ?_
              refine e_Ok.ps1 (x := (0, 0)) (q := 49) 1 rfl ?_
              refine e_Ok.rets rfl rfl ?_
              exact ⟨_, rfl, Or.inr ⟨⟨by omega, fun g => g.elim (fun g => by omega) cn⟩, rfl, n15⟩⟩
            · replace h18 : (z17 : Int) = 0 := Classical.not_not.mp (show ¬ ((z17 : Int) ≠ 0) from h18)
              have cn : 0 ≤ w 15 b ∨ ∃ n, kHit w b n a := cx.elim (fun e => absurd (h18.symm.trans e.1) (by decide)) (fun e => e.2)
              refine e_Ok.ps1 (x := (0, (-2))) (q := 37) 1 rfl ?_
              refine e_Ok.rets rfl rfl ?_
              exact ⟨_, rfl, Or.inl ⟨rfl, Or.inr ⟨by omega, Or.inr cn, rfl⟩⟩⟩
        · replace h12 : (1 : Int) = 0 := Classical.not_not.mp (show ¬ ((1 : Int) ≠ 0) from h12)
          exfalso; omega
      · refine e_Ok.nrm (q := 11) (st' := [(0, 0)]) rfl rfl ?_
        refine e_Ok.if1 rfl (fun h23 => ?_) (fun h23 => ?_)
        · replace h23 : (0 : Int) ≠ 0 := h23
          exfalso; omega
        · replace h23 : (0 : Int) = 0 := Classical.not_not.mp (show ¬ ((0 : Int) ≠ 0) from h23)
          refine e_Ok.ps1 (x := (0, (-1))) (q := 15) 1 rfl ?_
          refine e_Ok.rets rfl rfl ?_
          exact ⟨_, rfl, Or.inl ⟨rfl, Or.inl ⟨by omega, rfl⟩⟩⟩
  · refine e_Ok.nrm (q := 4) (st' := [(0, 0)]) rfl rfl ?_
    refine e_Ok.if1 rfl (fun h24 => ?_) (fun h24 => ?_)
    · replace h24 : (0 : Int) = 0 := h24
      refine e_Ok.ps1 (x := (0, (-1))) (q := 15) 1 rfl ?_
      refine e_Ok.rets rfl rfl ?_
      exact ⟨_, rfl, Or.inl ⟨rfl, Or.inl ⟨by omega, rfl⟩⟩⟩
    · replace h24 : (0 : Int) ≠ 0 := (show ¬ ((0 : Int) = 0) from h24)
      exfalso; omega
theorem c_109_e {d : Nat} (hd : 23 ≤ d) {w : eW} (hT : e_Has kTy w) : e_Ok 20 elay kcode eI d 109 (0, [(0, (1, 10))], [], w) (fun r w' => r = [] ∧ e_fr kPc w w' ∧ e_Has kTy w' ∧ (∀ p, 0 ≤ p → p ≤ 63 → w' 15 p = -1)) := by
  obtain ⟨d, rfl⟩ : ∃ e, d = e + 1 := ⟨d - 1, by omega⟩
  refine e_Ok.ps1 (x := (1, 10)) (q := 1) 1 rfl ?_
  refine e_Ok.getr (z := 15) rfl (el_o rfl) rfl rfl (Eq.trans (e_Has.eq hT rfl) (by omega)) ⟨by decide, by decide⟩ ?_
  refine e_Ok.ps1 (x := (0, (-1))) (q := 5) 1 rfl ?_
  refine e_Ok.callS rfl (e_dq hd rfl) rfl rfl (c_452_15 hT) (fun r1 w2 h3 => ?_)
  obtain ⟨rfl, q4f, q4T, q4x⟩ := h3
  have f5 : e_fr kPc w w2 := e_fr.trans (e_fr.refl w) (e_fr.mono q4f (fun c k q => by unfold kF15 at q; unfold kPc; omega))
  refine e_Ok.nrm (q := 8) (st' := []) rfl rfl ?_
  refine e_Ok.ps1 (x := (1, 10)) (q := 9) 1 rfl ?_
  refine e_Ok.callV rfl (e_dq hd rfl) rfl rfl rfl rfl (c_115 q4T (kAc.none (fun k g1 g2 => by rw [q4x k g1 (by omega)]; omega))) (fun r6 w7 h8 => ?_)
  obtain ⟨rfl, af, aT, ap, ac⟩ := h8
  have f9 : e_fr kPc w w7 := e_fr.trans f5 (e_fr.mono af (fun c k q => by unfold kF18 at q; unfold kPc; omega))
  refine e_Ok.nrm (q := 12) (st' := []) rfl rfl ?_
  refine e_Ok.rets rfl rfl ?_
  exact ⟨rfl, f9, aT, fun k g1 g2 => (af 15 k (by unfold kF18; omega)).trans (q4x k g1 (by omega))⟩
set_option maxHeartbeats 4000000 in
theorem c_251_p {d : Nat} (hd : 28 ≤ d) {w : eW} (hT : e_Has kTy w) (hC : ∀ a, 0 ≤ a → a ≤ 3 → isCd (w (17 * a + 86) 7)) (hR : isCd (w 1 3)) (hX : ∀ a, 0 ≤ a → a ≤ 3 → w (17 * a + 86) 7 ≠ w 1 3) (hD : ∀ a b, 0 ≤ a → a ≤ 3 → 0 ≤ b → b ≤ 3 → a ≠ b → w (17 * a + 86) 7 ≠ w (17 * b + 86) 7) : e_Ok 20 elay kcode eI d 251 (0, [(0, (1, 0))], [], w) (fun r w' => r = [] ∧ (∀ p, 0 ≤ p → p ≤ 63 → w' 15 p = -1)) := by
  obtain ⟨d, rfl⟩ : ∃ e, d = e + 1 := ⟨d - 1, by omega⟩
  refine e_Ok.ps2 (x := (0, 0)) (y := (1, 0)) (q := 2) 2 rfl ?_
  refine e_Ok.putf rfl (el_o rfl) rfl rfl ?_
  generalize hw1 : e_up w 0 11 0 = w1
  have f2 : e_fr kCL w w1 := e_fr.up (e_fr.refl w) hw1 (Or.inr (Or.inl (⟨rfl, by decide, by decide⟩)))
  have hT3 : e_Has kTy w1 := e_Has.upr hT hw1 rfl (by omega)
  refine e_Ok.ps2 (x := (0, 0)) (y := (1, 0)) (q := 7) 2 rfl ?_
  refine e_Ok.putf rfl (el_o rfl) rfl rfl ?_
  generalize hw4 : e_up w1 0 12 0 = w4
  have f5 : e_fr kCL w w4 := e_fr.up f2 hw4 (Or.inr (Or.inl (⟨rfl, by decide, by decide⟩)))
  have hT6 : e_Has kTy w4 := e_Has.ups hT3 hw4 rfl
  refine e_Ok.ps2 (x := (0, 0)) (y := (1, 0)) (q := 12) 2 rfl ?_
  refine e_Ok.putb rfl (el_o rfl) rfl rfl (by omega) ?_
  generalize hw7 : e_up w4 0 13 0 = w7
  have f8 : e_fr kCL w w7 := e_fr.up f5 hw7 (Or.inr (Or.inl (⟨rfl, by decide, by decide⟩)))
  have hT9 : e_Has kTy w7 := e_Has.ups hT6 hw7 rfl
  refine e_Ok.run (t' := (17, [(1, (0, 0)), (0, (1, 0))], [], w7)) 2 rfl ?_
  have hL10 : ∀ (nn : Nat) (y1 : Int) (v1 : eW), e_fr kCL w v1 ∧ e_Has kTy v1 ∧ (∀ a, 0 ≤ a → a < y1 → mK0 w v1 a) ∧ ((v1 0 11 = 0 ∧ v1 0 12 = 0 ∧ v1 0 13 = 0)) ∧ ((0 ≤ y1 ∧ y1 ≤ 4)) → 5 - y1 < nn → e_Ok 20 elay kcode eI (d + 1) 251 (17, [(0, (1, 0)), (1, (0, y1))], [], v1) (fun r w' => r = [] ∧ (∀ p, 0 ≤ p → p ≤ 63 → w' 15 p = -1)) := by
    intro nn
    induction nn with
    | zero => intro y1 v1 hj hm; obtain ⟨j12, j13, j14, j15, j16⟩ := hj; exfalso; omega
    | succ nn ih11 =>
      intro y1 v1 hj hm
      obtain ⟨j12, j13, j14, j15, j16⟩ := hj
      refine e_Ok.run (t' := (19, [(0, (1, 0)), (1, (0, y1))], [(0, 4), (0, y1)], v1)) 2 rfl ?_
      refine e_Ok.if2 rfl (fun h17 => ?_) (fun h17 => ?_)
      · replace h17 : (y1 : Int) ≥ 4 := h17
        have M0 : ∀ a, 0 ≤ a → a ≤ 3 → mK0 w v1 a := fun a g1 g2 => j14 a g1 (by omega)
        refine e_Ok.ps1 (x := (1, 0)) (q := 42) 1 rfl ?_
        refine e_Ok.getr (z := 250) rfl (el_o rfl) rfl rfl ((j12 0 6 (by unfold kCL kNw; omega)).trans (Eq.trans (e_Has.eq hT rfl) (by omega))) ⟨by decide, by decide⟩ ?_
        refine e_Ok.ps1 (x := (0, 0)) (q := 46) 1 rfl ?_
        refine e_Ok.putf rfl (el_o rfl) rfl rfl ?_
        generalize hw18 : e_up v1 250 0 0 = w18
        have f19 : e_fr kCL w w18 := e_fr.up j12 hw18 (Or.inr (Or.inr (Or.inr (Or.inr (Or.inr (Or.inr (Or.inr (Or.inr (Or.inr (Or.inl (⟨rfl, Or.inl rfl⟩)))))))))))
        have hT20 : e_Has kTy w18 := e_Has.upr j13 hw18 rfl (by omega)
        have g21 : e_fr (fun c k => c = 250 ∧ k = 0) v1 w18 := fun c k g => by have g2 : ¬ (c = 250 ∧ k = 0) := g; rw [← hw18]; exact e_up_ne _ _ (by omega)
        have M22 : ∀ a, 0 ≤ a → a ≤ 3 → mK0 w w18 a := fun a g1 g2 => mK0.fr ⟨g1, g2⟩ (hC a g1 g2) g21 (fun c k q => by omega) (M0 a g1 g2)
        refine e_Ok.ps1 (x := (1, 0)) (q := 50) 1 rfl ?_
        refine e_Ok.getr (z := 250) rfl (el_o rfl) rfl rfl (e_uq hw18 (Or.inl (by decide)) ((j12 0 6 (by unfold kCL kNw; omega)).trans (Eq.trans (e_Has.eq hT rfl) (by omega)))) ⟨by decide, by decide⟩ ?_
        refine e_Ok.ps1 (x := (0, 0)) (q := 54) 1 rfl ?_
        refine e_Ok.putf rfl (el_o rfl) rfl rfl ?_
        generalize hw23 : e_up w18 250 1 0 = w23
        have f24 : e_fr kCL w w23 := e_fr.up f19 hw23 (Or.inr (Or.inr (Or.inr (Or.inr (Or.inr (Or.inr (Or.inr (Or.inr (Or.inr (Or.inl (⟨rfl, Or.inr rfl⟩)))))))))))
        have hT25 : e_Has kTy w23 := e_Has.upr hT20 hw23 rfl (by omega)
        have g26 : e_fr (fun c k => c = 250 ∧ k = 1) w18 w23 := fun c k g => by have g2 : ¬ (c = 250 ∧ k = 1) := g; rw [← hw23]; exact e_up_ne _ _ (by omega)
        have M27 : ∀ a, 0 ≤ a → a ≤ 3 → mK0 w w23 a := fun a g1 g2 => mK0.fr ⟨g1, g2⟩ (hC a g1 g2) g26 (fun c k q => by omega) (M22 a g1 g2)
        refine e_Ok.ps1 (x := (1, 0)) (q := 58) 1 rfl ?_
        refine e_Ok.getr (z := 10) rfl (el_o rfl) rfl rfl (e_uq hw23 (Or.inl (by decide)) (e_uq hw18 (Or.inl (by decide)) ((j12 0 3 (by unfold kCL kNw; omega)).trans (Eq.trans (e_Has.eq hT rfl) (by omega))))) ⟨by decide, by decide⟩ ?_
        refine e_Ok.callV rfl (e_dq hd rfl) rfl rfl rfl rfl (c_109_e (e_dq hd rfl) hT25) (fun r28 w29 h30 => ?_)
        obtain ⟨rfl, q31f, q31T, q31x⟩ := h30
        have f32 : e_fr kCL w w29 := e_fr.trans f24 (e_fr.mono q31f (fun c k q => by exact (by rcases q with q | q; exact Or.inr (Or.inr (Or.inr (Or.inr (Or.inl q)))); exact Or.inr (Or.inr (Or.inr (Or.inr (Or.inr (Or.inl q))))))))
        have M33 : ∀ a, 0 ≤ a → a ≤ 3 → mK0 w w29 a := fun a g1 g2 => mK0.fr ⟨g1, g2⟩ (hC a g1 g2) q31f (fun c k q => by unfold kPc at q; omega) (M27 a g1 g2)
        refine e_Ok.nrm (q := 64) (st' := []) rfl rfl ?_
        refine e_Ok.ps1 (x := (1, 0)) (q := 65) 1 rfl ?_
        refine e_Ok.getr (z := 19) rfl (el_o rfl) rfl rfl ((q31f 0 4 (by unfold kPc; omega)).trans (e_uq hw23 (Or.inl (by decide)) (e_uq hw18 (Or.inl (by decide)) ((j12 0 4 (by unfold kCL kNw; omega)).trans (Eq.trans (e_Has.eq hT rfl) (by omega)))))) ⟨by decide, by decide⟩ ?_
        refine e_Ok.ps1 (x := (0, 0)) (q := 69) 1 rfl ?_
        refine e_Ok.putf rfl (el_o rfl) rfl rfl ?_
        generalize hw34 : e_up w29 19 0 0 = w34
        have f35 : e_fr kCL w w34 := e_fr.up f32 hw34 (Or.inr (Or.inr (Or.inr (Or.inr (Or.inr (Or.inr (Or.inl (⟨rfl, Or.inl rfl⟩))))))))
        have hT36 : e_Has kTy w34 := e_Has.upr q31T hw34 rfl (by omega)
        have g37 : e_fr (fun c k => c = 19 ∧ k = 0) w29 w34 := fun c k g => by have g2 : ¬ (c = 19 ∧ k = 0) := g; rw [← hw34]; exact e_up_ne _ _ (by omega)
        have M38 : ∀ a, 0 ≤ a → a ≤ 3 → mK0 w w34 a := fun a g1 g2 => mK0.fr ⟨g1, g2⟩ (hC a g1 g2) g37 (fun c k q => by omega) (M33 a g1 g2)
        refine e_Ok.ps1 (x := (1, 0)) (q := 73) 1 rfl ?_
        refine e_Ok.getr (z := 19) rfl (el_o rfl) rfl rfl (e_uq hw34 (Or.inl (by decide)) ((q31f 0 4 (by unfold kPc; omega)).trans (e_uq hw23 (Or.inl (by decide)) (e_uq hw18 (Or.inl (by decide)) ((j12 0 4 (by unfold kCL kNw; omega)).trans (Eq.trans (e_Has.eq hT rfl) (by omega))))))) ⟨by decide, by decide⟩ ?_
        refine e_Ok.ps1 (x := (0, 0)) (q := 77) 1 rfl ?_
        refine e_Ok.putf rfl (el_o rfl) rfl rfl ?_
        generalize hw41 : e_up w34 19 1 0 = w41
        have f42 : e_fr kCL w w41 := e_fr.up f35 hw41 (Or.inr (Or.inr (Or.inr (Or.inr (Or.inr (Or.inr (Or.inl (⟨rfl, Or.inr rfl⟩))))))))
        have hT43 : e_Has kTy w41 := e_Has.upr hT36 hw41 rfl (by omega)
        have g44 : e_fr (fun c k => c = 19 ∧ k = 1) w34 w41 := fun c k g => by have g2 : ¬ (c = 19 ∧ k = 1) := g; rw [← hw41]; exact e_up_ne _ _ (by omega)
        have M45 : ∀ a, 0 ≤ a → a ≤ 3 → mK0 w w41 a := fun a g1 g2 => mK0.fr ⟨g1, g2⟩ (hC a g1 g2) g44 (fun c k q => by omega) (M38 a g1 g2)
        refine e_Ok.ps1 (x := (1, 0)) (q := 81) 1 rfl ?_
        refine e_Ok.getr (z := 74) rfl (el_o rfl) rfl rfl (e_uq hw41 (Or.inl (by decide)) (e_uq hw34 (Or.inl (by decide)) ((q31f 0 5 (by unfold kPc; omega)).trans (e_uq hw23 (Or.inl (by decide)) (e_uq hw18 (Or.inl (by decide)) ((j12 0 5 (by unfold kCL kNw; omega)).trans (Eq.trans (e_Has.eq hT rfl) (by omega)))))))) ⟨by decide, by decide⟩ ?_
        refine e_Ok.callV rfl (e_dq hd rfl) rfl rfl rfl rfl (c_25 hT43) (fun r47 w48 h49 => ?_)
        obtain ⟨rfl, q50f, q50T⟩ := h49
        have f51 : e_fr kCL w w48 := e_fr.trans f42 (e_fr.mono q50f (fun c k q => by exact (by rcases q with q | q; exact Or.inr (Or.inr (Or.inr (Or.inr (Or.inr (Or.inr (Or.inr (Or.inl q))))))); exact Or.inr (Or.inr (Or.inr (Or.inr (Or.inr (Or.inr (Or.inr (Or.inr (Or.inl q)))))))))))
        have M52 : ∀ a, 0 ≤ a → a ≤ 3 → mK0 w w48 a := fun a g1 g2 => mK0.fr ⟨g1, g2⟩ (hC a g1 g2) q50f (fun c k q => by unfold kCc at q; omega) (M45 a g1 g2)
        refine e_Ok.nrm (q := 87) (st' := []) rfl rfl ?_
        refine e_Ok.ps1 (x := (1, 0)) (q := 88) 1 rfl ?_
        refine e_Ok.getr (z := 262) rfl (el_o rfl) rfl rfl ((q50f 0 7 (by unfold kCc; omega)).trans (e_uq hw41 (Or.inl (by decide)) (e_uq hw34 (Or.inl (by decide)) ((q31f 0 7 (by unfold kPc; omega)).trans (e_uq hw23 (Or.inl (by decide)) (e_uq hw18 (Or.inl (by decide)) ((j12 0 7 (by unfold kCL kNw; omega)).trans (Eq.trans (e_Has.eq hT rfl) (by omega))))))))) ⟨by decide, by decide⟩ ?_
        refine e_Ok.ps1 (x := (0, 0)) (q := 92) 1 rfl ?_
        refine e_Ok.putf rfl (el_o rfl) rfl rfl ?_
        generalize hw54 : e_up w48 262 0 0 = w54
        have f55 : e_fr kCL w w54 := e_fr.up f51 hw54 (Or.inr (Or.inr (Or.inr (Or.inr (Or.inr (Or.inr (Or.inr (Or.inr (Or.inr (Or.inr (Or.inl (⟨rfl, rfl⟩))))))))))))
        have hT56 : e_Has kTy w54 := e_Has.ups q50T hw54 rfl
        have g57 : e_fr (fun c k => c = 262 ∧ k = 0) w48 w54 := fun c k g => by have g2 : ¬ (c = 262 ∧ k = 0) := g; rw [← hw54]; exact e_up_ne _ _ (by omega)
        have M58 : ∀ a, 0 ≤ a → a ≤ 3 → mK0 w w54 a := fun a g1 g2 => mK0.fr ⟨g1, g2⟩ (hC a g1 g2) g57 (fun c k q => by omega) (M52 a g1 g2)
        refine e_Ok.ps1 (x := (1, 0)) (q := 96) 1 rfl ?_
        refine e_Ok.getr (z := 274) rfl (el_o rfl) rfl rfl (e_uq hw54 (Or.inl (by decide)) ((q50f 0 10 (by unfold kCc; omega)).trans (e_uq hw41 (Or.inl (by decide)) (e_uq hw34 (Or.inl (by decide)) ((q31f 0 10 (by unfold kPc; omega)).trans (e_uq hw23 (Or.inl (by decide)) (e_uq hw18 (Or.inl (by decide)) ((j12 0 10 (by unfold kCL kNw; omega)).trans (Eq.trans (e_Has.eq hT rfl) (by omega)))))))))) ⟨by decide, by decide⟩ ?_
        refine e_Ok.ps1 (x := (0, 0)) (q := 100) 1 rfl ?_
        refine e_Ok.callS rfl (e_dq hd rfl) rfl rfl (c_452_74 hT56) (fun r60 w61 h62 => ?_)
        obtain ⟨rfl, q63f, q63T, q63x⟩ := h62
        have f64 : e_fr kCL w w61 := e_fr.trans f55 (e_fr.mono q63f (fun c k q => by exact (Or.inr (Or.inr (Or.inr (Or.inr (Or.inr (Or.inr (Or.inr (Or.inr (Or.inr (Or.inr (Or.inr (q))))))))))))))
        have M65 : ∀ a, 0 ≤ a → a ≤ 3 → mK0 w w61 a := fun a g1 g2 => mK0.fr ⟨g1, g2⟩ (hC a g1 g2) q63f (fun c k q => by unfold kF74 at q; omega) (M58 a g1 g2)
        refine e_Ok.nrm (q := 103) (st' := []) rfl rfl ?_
        refine e_Ok.ps1 (x := (1, 0)) (q := 104) 1 rfl ?_
        have r19 : w61 19 1 = 0 := ((q63f 19 1 (by unfold kF74; omega)).trans (e_uq hw54 (Or.inl (by decide)) ((q50f 19 1 (by unfold kCc; omega)).trans (e_ue hw41))))
        refine e_Ok.callV rfl (e_dq hd rfl) rfl rfl rfl rfl (c_252 (e_dq hd rfl) q63T (fun a g1 g2 => by have m := M65 a g1 g2; unfold mK0 at m; unfold kn1; omega) (fun p g1 g2 => by omega)) (fun r67 w68 h69 => ?_)
        obtain ⟨rfl, wf, wT, -, wr⟩ := h69
        have f70 : e_fr kCL w w68 := e_fr.trans f64 (e_fr.mono wf (fun c k q => by exact Or.inl q))
        have wM : ∀ a, 0 ≤ a → a ≤ 3 → mK0 w w68 a := fun a g1 g2 => (M65 a g1 g2).eq (wf _ _ (nw_a ⟨g1, g2⟩ (by omega))) (wf _ _ (nw_x ⟨g1, g2⟩).1) (wf _ _ (nw_x ⟨g1, g2⟩).2) (wf _ _ (nw_cd (hC a g1 g2))) (wf _ _ (nw_cd (hC a g1 g2)))
        refine e_Ok.nrm (q := 107) (st' := []) rfl rfl ?_
        refine e_Ok.rets rfl rfl ?_
        exact ⟨rfl, fun p g1 g2 => (wf 15 p (by unfold kNw; omega)).trans ((q63f 15 p (by unfold kF74; omega)).trans (e_uq hw54 (Or.inl (by first | decide | omega)) ((q50f 15 p (by unfold kCc; omega)).trans (e_uq hw41 (Or.inl (by first | decide | omega)) (e_uq hw34 (Or.inl (by first | decide | omega)) (q31x p g1 g2))))))⟩
      · replace h17 : (y1 : Int) < 4 := Int.not_le.mp (show ¬ ((y1 : Int) ≥ 4) from h17)
        refine e_Ok.ps1 (x := (1, 0)) (q := 23) 1 rfl ?_
        refine e_Ok.getr (z := 9) rfl (el_o rfl) rfl rfl ((j12 0 2 (by unfold kCL kNw; omega)).trans (Eq.trans (e_Has.eq hT rfl) (by omega))) ⟨by decide, by decide⟩ ?_
        refine e_Ok.ps1 (x := (0, y1)) (q := 27) 1 rfl ?_
        refine e_Ok.aald (z := 17 * y1 + 86) rfl (el_o rfl) rfl (by omega) ((j12 9 y1 (by unfold kCL kNw; omega)).trans (Eq.trans (e_Has.eq hT (k9 (by omega))) (by omega))) (by omega) ?_
        refine e_Ok.ps4 (x := (0, 0)) (y := (0, 0)) (z := (0, 0)) (u := (0, 0)) (q := 32) 4 rfl ?_
        have hcy : v1 (17 * y1 + 86) 7 = w (17 * y1 + 86) 7 := j12 _ _ (cl_7 (by omega))
        refine e_Ok.callV rfl (e_dq hd rfl) rfl (lA0 (a := y1) (by omega) (by omega)) rfl rfl (c_1 (e_dq hd rfl) (a := y1) (cd := w (17 * y1 + 86) 7) j13 (by omega) hcy (hC y1 (by omega) (by omega)) (by omega) (by omega) (by omega) (by omega)) (fun r71 w72 h73 => ?_)
        obtain ⟨rfl, mf, mT, m8, mx, -, mc⟩ := h73
        have hcc := hC y1 (by omega) (by omega); unfold isCd at hcc
        have mF : e_fr kCL w w72 := e_fr.trans j12 (e_fr.mono mf (fun c k q => cl_mk (by omega) (hC y1 (by omega) (by omega)) q))
        refine e_Ok.nrm (q := 35) (st' := []) rfl rfl ?_
        refine e_Ok.inc (z := y1 + 1) rfl rfl (by first | with_reducible rfl | omega) (by omega) ?_
        show e_Ok 20 elay kcode eI (d + 1) 251 (38, [(1, (0, y1 + 1)), (0, (1, 0))], [], w72) _
        refine e_Ok.ps0 (q := 17) 1 rfl ?_
        refine e_Ok.sub kAlk (e_sub_of rfl ?_) (ih11 (y1 + 1) w72 ⟨mF, mT, (fun a g1 g2 => by by_cases e : a = y1; (rw [e]; exact ⟨m8, mx, mc⟩); (have hd := hD a y1 (by omega) (by omega) (by omega) (by omega) e; have ha := hC a (by omega) (by omega); unfold isCd at ha; exact (j14 a g1 (by omega)).eq (mf _ _ (by unfold kMk; omega)) (mf _ _ (by unfold kMk; omega)) (mf _ _ (by unfold kMk; omega)) (mf _ _ (by unfold kMk; omega)) (mf _ _ (by unfold kMk; omega)))), ⟨(mf _ _ (by unfold kMk; omega)).trans j15.1, (mf _ _ (by unfold kMk; omega)).trans j15.2.1, (mf _ _ (by unfold kMk; omega)).trans j15.2.2⟩, (by omega)⟩ (by omega))
        exact ⟨rfl, rfl, trivial⟩
  refine e_Ok.sub kAlk (e_sub_of rfl ?_) (hL10 (5 + 1 : Int).toNat 0 w7 ⟨f8, hT9, (fun a g1 g2 => by omega), ⟨(e_uq hw7 (Or.inr (by first | decide | omega)) (e_uq hw4 (Or.inr (by first | decide | omega)) (e_ue hw1))), (e_uq hw7 (Or.inr (by first | decide | omega)) (e_ue hw4)), (e_ue hw7)⟩, (by omega)⟩ (by omega))
  exact ⟨rfl, rfl, trivial⟩
theorem c_192_p {d : Nat} (hd : 30 ≤ d) {w : eW} (hT : e_Has kTy w) (hC : ∀ a, 0 ≤ a → a ≤ 3 → isCd (w (17 * a + 86) 7)) (hR : isCd (w 1 3)) (hX : ∀ a, 0 ≤ a → a ≤ 3 → w (17 * a + 86) 7 ≠ w 1 3) (hD : ∀ a b, 0 ≤ a → a ≤ 3 → 0 ≤ b → b ≤ 3 → a ≠ b → w (17 * a + 86) 7 ≠ w (17 * b + 86) 7) : e_Ok 20 elay kcode eI d 192 (0, [(0, (1, 0))], [], w) (fun r w' => ∃ z : Int, r = [(0, z)] ∧ (∀ p, 0 ≤ p → p ≤ 63 → w' 15 p = -1)) := by
  obtain ⟨d, rfl⟩ : ∃ e, d = e + 1 := ⟨d - 1, by omega⟩
  refine e_Ok.ps1 (x := (1, 0)) (q := 1) 1 rfl ?_
  refine e_Ok.getr (z := 74) rfl (el_o rfl) rfl rfl (Eq.trans (e_Has.eq hT rfl) (by omega)) ⟨by decide, by decide⟩ ?_
  have h1 := (e_Has.get hT (c := 74) (k := 0) (lo := 0) (hi := 6000) rfl (by decide))
  refine e_Ok.getf (z := w 74 0) rfl (el_o rfl) rfl rfl rfl (e_bq h1 (by decide) (by decide)) ?_
  refine e_Ok.run (t' := (9, [(1, (0, w 74 0)), (0, (1, 0))], [(1, 0)], w)) 2 rfl ?_
  refine e_Ok.callV rfl (e_dq hd rfl) rfl rfl rfl rfl (c_251_p (e_dq hd rfl) hT hC hR hX hD) (fun r2 w3 h4 => ?_)
  obtain ⟨rfl, cx⟩ := h4
  refine e_Ok.nrm (q := 12) (st' := []) rfl rfl ?_
  refine e_Ok.ps1 (x := (0, w 74 0)) (q := 13) 1 rfl ?_
  refine e_Ok.rets rfl rfl ?_
  exact ⟨_, rfl, cx⟩
end
