-- part d8
section
noncomputable section
/-! the class: run, back -/
def kNt (c k : Int) : Prop := kNw c k ∨ (c = 0 ∧ (k = 12 ∨ k = 14))
section D8
variable {w v s : eW} {OP OD CL : Int → Int → Int} {S : Int → eW}
theorem e_Ok.dp {d d' M : Nat} {t : eS} {Q : List eV → eW → Prop} (h : e_Ok 20 elay kcode eI d M t Q) (hd : d ≤ d') : e_Ok 20 elay kcode eI d' M t Q := by
  obtain ⟨n, r, w, h1, h2⟩ := h
  obtain ⟨k, rfl⟩ := Nat.exists_eq_add_of_le hd
  exact ⟨n, r, w, e_go_ups h1, h2⟩
theorem nKc12 : ¬ Kc 0 12 := fun h => by
  rcases h.2 with h | h | h
  · exact h (by unfold kNh; omega)
  · exact absurd h (by decide : ¬ (1 : Int) = 0)
  · have z := h.2.2 0 11 15 rfl
    omega
theorem nKc14 : ¬ Kc 0 14 := fun h => by
  rcases h.2 with h | h | h
  · exact h (by unfold kNh; omega)
  · exact absurd h (by decide : ¬ (1 : Int) = 0)
  · have z := h.2.2 0 11 15 rfl
    omega
theorem rx_pjw (h : e_rx s v) (h262 : v 262 0 = w 262 0) (hY : ∀ c k, 269 ≤ c → c ≤ 271 → v c k = w c k) : e_rf (pj w s) v := fun c k g => by
  by_cases q : isX c k
  · by_cases y : kYs (w 262 0) c k
    · rw [pj_y y]
      exact hY c k (by unfold kYs at y; omega) (by unfold kYs at y; omega)
    · rw [pj_o q y] at g
      exact absurd g (by decide)
  · rw [pj_n q] at g ⊢
    exact h c k q g
theorem row_b {d : Nat} (hd : 27 ≤ d) {U : eW} {h x a b c : Int} (hw : e_rf U v) (q : kI U OP OD CL h (-1)) (h0 : 0 ≤ h) (he : U 74 1 ≤ 2147000000) (hR : rwC U x a b c) (ga : kn1 a) (gb : kn1 b) (gc : kn1 c) (hr : e_Ok 20 elay kcode eI 27 256 (0, l5 x a b c, [], U) (fun r v => (∃ z, r = [(0, z)]) ∧ e_rx s v)) :
    e_Ok 20 elay kcode eI d 256 (0, l5 x a b c, [], v) (fun r v' => ((∃ z : Int, r = [(0, z)]) ∧ e_fr kNw v v' ∧ e_Has kTy v' ∧ e_rx s v' ∧ aQ v v') ∧ ∀ c k, e_out elay c k → v' c k = v c k) := by
  have e741 := q.1.kq hw (c := 74) (k := 1) (lo := 0) (hi := 2147483647) rfl (by decide) (by decide) (by decide)
  have hl := c_256 (d := d) (by omega) (q.rf hw).1 ga gb gc (q.rf hw) h0 (by omega) (hR.up q hw)
  refine (k_rel (l5_nd x a b c) hw (hr.dp hd) hl).imp (fun r v' g => ?_)
  obtain ⟨⟨⟨z, g1, g2, ⟨g3, -⟩, -, -, -, g6⟩, -, g4⟩, g5⟩ := g
  exact ⟨⟨⟨z, g1⟩, g3, g2, (k_phi_ok hr).2.rf g4, g6⟩, g5⟩
theorem tick_b {d : Nat} (hd : 29 ≤ d) {U u' : eW} (hw : e_rf U v) (hg : gd U OP OD CL) (ht : tk1 U u') :
    e_Ok 20 elay kcode eI d 259 (0, [(0, (1, 0))], [], v) (fun r v' => (r = [] ∧ e_fr kNw v v' ∧ e_Has kTy v' ∧ e_rf u' v' ∧ aQ v v') ∧ ∀ c k, e_out elay c k → v' c k = v c k) := by
  obtain ⟨⟨hh, q1, q⟩, q3, q4⟩ := hg
  have e740 := q.1.kq hw (c := 74) (k := 0) (lo := 0) (hi := 6000) rfl (by decide) (by decide) (by decide)
  have e741 := q.1.kq hw (c := 74) (k := 1) (lo := 0) (hi := 2147483647) rfl (by decide) (by decide) (by decide)
  have hl := c_259 (d := d) hd (q.rf hw).1 (q.rf hw) q1 (by omega) (by omega)
  refine (k_rel (nd1 _ _) hw (e_Ok.dp ht hd) hl).imp (fun r v' g => ?_)
  obtain ⟨⟨⟨g1, g2, ⟨g3, -⟩, h9, -, -, -, -, g6⟩, -, g4⟩, g5⟩ := g
  have e := (k_phi_ok ht).2
  rw [e] at g4
  exact ⟨⟨g1, g3, g2, g4, g6⟩, g5⟩
theorem nt_nh {c k : Int} (h : kNt c k) : kNh c k := by
  rcases h with h | h
  · exact Or.inl h
  · exact Or.inr (Or.inr (Or.inl ⟨h.1, by omega⟩))
theorem aP.up0 {w' : eW} {a z : Int} (hw : e_up w 0 14 z = w') (hT : e_Has kTy w) (hT' : e_Has kTy w') (ga : 0 ≤ a ∧ a ≤ 3) (h : aP w a) : aP w' a := by
  have hjn := kn_joints hT ga
  have e : ∀ c k, ¬ (c = 0 ∧ k = 14) → w' c k = w c k := fun c k g => by rw [← hw]; exact e_up_ne _ _ (by omega)
  refine h.eq (e _ _ (by omega)) (fun c k q => ?_) (fun k g => ⟨e _ _ (by omega), e _ _ (by omega)⟩)
  rcases q with q | ⟨j, hj, rfl, rfl⟩
  · exact Kq.of (w := w) (fun c k g => e c k (fun g2 => g (by unfold kNh; omega))) hT hT' c k q
  · exact e _ _ (by omega)
def opB (w w' : eW) : Prop := w' = w ∨ (w 0 13 = 1 ∧ e_fr kNt w w' ∧ w' 0 14 = 1 ∧ ∃ OP OD CL S, kB w' OP OD CL S)
end D8
set_option maxHeartbeats 4000000 in
theorem c_214 {d : Nat} (hd : 31 ≤ d) {w : eW} (hT : e_Has kTy w) (hO : 0 ≤ w 0 13 ∧ w 0 13 ≤ 1) (hC : ∀ a, 0 ≤ a → a ≤ 3 → isCd (w (17 * a + 86) 7)) (hB : w 0 13 = 1 → ∃ OP OD CL S, kB w OP OD CL S) {n : Int} (g_n : -2147483648 ≤ n ∧ n ≤ 2147483647) (h12 : 0 ≤ w 0 12 ∧ w 0 12 ≤ 2000) : e_Ok 20 elay kcode eI d 214 (0, [(0, (1, 0)), (1, (0, n))], [], w) (fun r w' => ∃ z : Int, r = [(0, z)] ∧ e_Has kTy w' ∧ opK w w') := by
  obtain ⟨d, rfl⟩ : ∃ e, d = e + 1 := ⟨d - 1, by omega⟩
  have hw0 := e_Has.get hT (c := 0) (k := 11) (lo := 0) (hi := 4) (kt_o rfl) (by decide)
  have h740 := e_Has.get hT (c := 74) (k := 0) (lo := 0) (hi := 6000) (kt_o rfl) (by decide)
  refine e_Ok.ps3 (x := (0, 1000)) (y := (0, 1)) (z := (0, n)) (q := 5) 3 rfl ?_
  refine e_Ok.callS rfl (e_dq hd rfl) rfl rfl (c_242 (by omega) (by omega) (by omega)) (fun r1 w2 h3 => ?_)
  obtain ⟨z4, rfl, rfl, q5⟩ := h3
  obtain ⟨rfl, q5⟩ | ⟨rfl, q5⟩ := q5
  · refine e_Ok.nrm (q := 8) (st' := [(0, 1)]) rfl rfl ?_
    refine e_Ok.if1 rfl (fun h6 => ?_) (fun h6 => ?_)
    · replace h6 : (1 : Int) ≠ 0 := h6
      refine e_Ok.ps1 (x := (1, 0)) (q := 14) 1 rfl ?_
      refine e_Ok.getf (z := w 0 13) rfl (el_o rfl) rfl rfl rfl (by omega) ?_
      refine e_Ok.if1 rfl (fun h7 => ?_) (fun h7 => ?_)
      · replace h7 : (w 0 13 : Int) ≠ 0 := h7
        refine e_Ok.ps3 (x := (1, 0)) (y := (0, 6000)) (z := (0, n)) (q := 28) 3 rfl ?_
        refine e_Ok.getr (z := 74) rfl (el_o rfl) rfl rfl (e_Has.eq hT (kt_o rfl)) ⟨by decide, by decide⟩ ?_
        have h8 := (e_Has.get hT (c := 74) (k := 0) (lo := 0) (hi := 6000) (kt_o rfl) (by decide))
        refine e_Ok.getf (z := w 74 0) rfl (el_o rfl) rfl rfl rfl (e_bq h8 (by decide) (by decide)) ?_
        refine e_Ok.sub' (z := -w 74 0 + 6000) rfl (by omega) (by omega) ?_
        refine e_Ok.mmin rfl rfl (fun z9 hz9 => ?_)
        replace hz9 : ((-w 74 0 + 6000) < n ∧ z9 = -w 74 0 + 6000) ∨ (n ≤ -w 74 0 + 6000 ∧ z9 = n) := hz9
        refine e_Ok.run (t' := (40, [(2, (0, z9)), (0, (1, 0)), (1, (0, n))], [(0, z9)], w)) 2 rfl ?_
        refine e_Ok.if1 rfl (fun h10 => ?_) (fun h10 => ?_)
        · replace h10 : (z9 : Int) ≤ 0 := h10
          refine e_Ok.ps1 (x := (0, (-3))) (q := 52) 1 rfl ?_
          refine e_Ok.rets rfl rfl ?_
          exact ⟨_, rfl, hT, Or.inl rfl⟩
        · replace h10 : (z9 : Int) > 0 := Int.not_le.mp (show ¬ ((z9 : Int) ≤ 0) from h10)
          refine e_Ok.ps1 (x := (1, 0)) (q := 44) 1 rfl ?_
          refine e_Ok.callV rfl (e_dq hd rfl) rfl rfl rfl rfl (c_253 h12) (fun r11 w12 h13 => ?_)
          obtain ⟨z15, rfl, rfl, q14r, q14x⟩ := h13
          refine e_Ok.nrm (q := 47) (st' := [(0, z15)]) rfl rfl ?_
          refine e_Ok.if1 rfl (fun h16 => ?_) (fun h16 => ?_)
          · replace h16 : (z15 : Int) ≠ 0 := h16
            refine e_Ok.run (t' := (58, [(2, (0, z9)), (0, (1, 0)), (1, (0, n))], [(0, 0), (0, 0), (0, z9), (0, 1), (1, 0)], w)) 5 rfl ?_
            refine e_Ok.callV rfl (e_dq hd rfl) rfl rfl rfl rfl (e_Ok.out kAlk (c_254 hT (by omega) (by omega) (by omega) (by omega) (by omega))) (fun r17 w18 h19 => ?_)
            obtain ⟨⟨rfl, q20f, q20T, q20x⟩, q20o⟩ := h19
            obtain ⟨OP, OD, CL, S, hK⟩ := hB (by omega)
            obtain ⟨hIU, hev, he0, he1⟩ := hK.ev (i := w 0 12) (by omega)
            have hUw := hK.2.2.2.1.pj
            have hU1 : e_rf (pj w (S (w 0 12))) w18 := pj.rfo hUw (fun c k g => q20f c k (fun g2 => by have z := bo_x g2; rcases g with g | g; exact g z.1; exact z.2 g))
            have eU0 : w 74 0 = pj w (S (w 0 12)) 74 0 := by obtain ⟨hh, -, z⟩ := hIU; exact z.1.kq hUw (lo := 0) (hi := 6000) rfl (by decide) (by decide) (by decide)
            refine e_Ok.nrm (q := 61) (st' := []) rfl rfl ?_
            refine e_Ok.run (t' := (63, [(3, (0, 0)), (2, (0, z9)), (0, (1, 0)), (1, (0, n))], [], w18)) 2 rfl ?_
            have hL22 : ∀ (nn : Nat) (y3 : Int) (v1 : eW) (V1 : eW), e_fr kNv w v1 ∧ e_Has kTy v1 ∧ e_fr kNw w18 v1 ∧ (∀ c k, e_out elay c k → v1 c k = w18 c k) ∧ e_rf V1 v1 ∧ tkE OP OD CL y3.toNat (pj w (S (w 0 12))) V1 ∧ ((∃ hh, 0 ≤ hh ∧ kI V1 OP OD CL hh (-1))) ∧ e_fr kNw (pj w (S (w 0 12))) V1 ∧ ((V1 74 0 = pj w (S (w 0 12)) 74 0 + y3 ∧ V1 74 1 ≤ pj w (S (w 0 12)) 74 1 + 900 * y3)) ∧ ((0 ≤ y3 ∧ y3 ≤ z9)) ∧ aQ w18 v1 → 1000 - y3 < nn → e_Ok 20 elay kcode eI (d + 1) 214 (63, [(0, (1, 0)), (2, (0, z9)), (3, (0, y3))], [], v1) (fun r w' => ∃ z : Int, r = [(0, z)] ∧ e_Has kTy w' ∧ opK w w') := by
              intro nn
              induction nn with
              | zero => intro y3 v1 V1 hj hm; obtain ⟨j24, j25, j26, j27, j28, j29, j30, j31, j32, j33, j34⟩ := hj; exfalso; omega
              | succ nn ih23 =>
                intro y3 v1 V1 hj hm
                obtain ⟨j24, j25, j26, j27, j28, j29, j30, j31, j32, j33, j34⟩ := hj
                refine e_Ok.run (t' := (65, [(0, (1, 0)), (2, (0, z9)), (3, (0, y3))], [(0, z9), (0, y3)], v1)) 2 rfl ?_
                refine e_Ok.if2 rfl (fun h35 => ?_) (fun h35 => ?_)
                · replace h35 : (y3 : Int) ≥ z9 := h35
                  refine e_Ok.ps1 (x := (0, z9)) (q := 79) 1 rfl ?_
                  refine e_Ok.rets rfl rfl ?_
                  obtain ⟨hh, hh0, hIV⟩ := j30
                  have hq : y3 = z9 := by omega
                  have hE := j29
                  rw [hq] at hE
                  have hBv := kB.wr hK hT j25 (by omega) q20T q20f q20o q20x j26 j27 ⟨(by unfold kn1; omega), (by unfold kn1; omega), (by unfold kn1; omega), (by unfold kn1; omega)⟩ hh0 hIV j31 (by omega) (e_rf.rx j28) j34 (Or.inr ⟨rfl, by omega, tkE.tkW _ hE (e_rf.refl V1).rx⟩)
                  exact ⟨_, rfl, j25, Or.inr ⟨by omega, j24, OP, OD, CL, hBv⟩⟩
                · replace h35 : (y3 : Int) < z9 := Int.not_le.mp (show ¬ ((y3 : Int) ≥ z9) from h35)
                  refine e_Ok.ps1 (x := (1, 0)) (q := 69) 1 rfl ?_
                  refine e_Ok.callV rfl (e_dq hd rfl) rfl rfl rfl rfl (tick_r (e_dq hd rfl) (U := V1) j28 ⟨j30, by omega, by omega⟩) (fun r36 w37 h38 => ?_)
                  obtain ⟨⟨rfl, q40f, q40T, V2, t1, t2, t3, t4, t5, t6, t7⟩, q40o⟩ := h38
                  refine e_Ok.nrm (q := 72) (st' := []) rfl rfl ?_
                  refine e_Ok.inc (z := y3 + 1) rfl rfl (by first | with_reducible rfl | omega) (by omega) ?_
                  show e_Ok 20 elay kcode eI (d + 1) 214 (75, [(3, (0, y3 + 1)), (0, (1, 0)), (2, (0, z9))], [], w37) _
                  refine e_Ok.ps0 (q := 63) 1 rfl ?_
                  refine e_Ok.sub kAlk (e_sub_of rfl ?_) (ih23 (y3 + 1) w37 V2 ⟨(show e_fr kNv w w37 from e_fr.trans j24 (e_fr.mono q40f (fun c k q => by exact Or.inl q))), q40T, (e_fr.trans j26 q40f), (fun c k g => (q40o c k g).trans (j27 c k g)), t1, (by rw [show (y3 + 1).toNat = y3.toNat + 1 by omega]; exact tkE.snoc _ j29 ⟨j30, by omega, by omega⟩ t2), t3, (e_fr.trans j31 t4), (by omega), by omega, (aQ.trans j34 t7)⟩ (by omega))
                  exact ⟨rfl, rfl, rfl, trivial⟩
            refine e_Ok.sub kAlk (e_sub_of rfl ?_) (hL22 (1000 + 1 : Int).toNat 0 w18 (pj w (S (w 0 12))) ⟨(show e_fr kNv w w18 from e_fr.trans (e_fr.refl w) (e_fr.mono q20f (fun c k q => by exact Or.inr q))), q20T, (e_fr.refl _), (fun _ _ _ => rfl), hU1, rfl, hIU, (e_fr.refl _), (by omega), by omega, (aQ.refl _)⟩ (by omega))
            exact ⟨rfl, rfl, rfl, trivial⟩
          · replace h16 : (z15 : Int) = 0 := Classical.not_not.mp (show ¬ ((z15 : Int) ≠ 0) from h16)
            refine e_Ok.ps1 (x := (0, (-3))) (q := 52) 1 rfl ?_
            refine e_Ok.rets rfl rfl ?_
            exact ⟨_, rfl, hT, Or.inl rfl⟩
      · replace h7 : (w 0 13 : Int) = 0 := Classical.not_not.mp (show ¬ ((w 0 13 : Int) ≠ 0) from h7)
        refine e_Ok.ps1 (x := (0, (-2))) (q := 22) 1 rfl ?_
        refine e_Ok.rets rfl rfl ?_
        exact ⟨_, rfl, hT, Or.inl rfl⟩
    · replace h6 : (1 : Int) = 0 := Classical.not_not.mp (show ¬ ((1 : Int) ≠ 0) from h6)
      exfalso; omega
  · refine e_Ok.nrm (q := 8) (st' := [(0, 0)]) rfl rfl ?_
    refine e_Ok.if1 rfl (fun h42 => ?_) (fun h42 => ?_)
    · replace h42 : (0 : Int) ≠ 0 := h42
      exfalso; omega
    · replace h42 : (0 : Int) = 0 := Classical.not_not.mp (show ¬ ((0 : Int) ≠ 0) from h42)
      refine e_Ok.ps1 (x := (0, (-1))) (q := 12) 1 rfl ?_
      refine e_Ok.rets rfl rfl ?_
      exact ⟨_, rfl, hT, Or.inl rfl⟩
theorem no_d8_0 : ¬ kNt 0 5 := by unfold kNt kNw; omega
theorem no_d8_1 : ¬ kNt 0 9 := by unfold kNt kNw; omega
theorem no_d8_2 {k : Int} : ¬ kNt 273 k := by unfold kNt kNw; omega
set_option maxHeartbeats 4000000 in
theorem c_225 {d : Nat} (hd : 32 ≤ d) {w : eW} (hT : e_Has kTy w) (hO : 0 ≤ w 0 13 ∧ w 0 13 ≤ 1) (hC : ∀ a, 0 ≤ a → a ≤ 3 → isCd (w (17 * a + 86) 7)) (hB : w 0 13 = 1 → ∃ OP OD CL S, kB w OP OD CL S) {n : Int} (g_n : -2147483648 ≤ n ∧ n ≤ 2147483647) (h12 : 0 ≤ w 0 12 ∧ w 0 12 ≤ 2000) : e_Ok 20 elay kcode eI d 225 (0, [(0, (1, 0)), (1, (0, n))], [], w) (fun r w' => ∃ z : Int, r = [(0, z)] ∧ e_Has kTy w' ∧ opB w w') := by
  obtain ⟨d, rfl⟩ : ∃ e, d = e + 1 := ⟨d - 1, by omega⟩
  have hw0 := e_Has.get hT (c := 0) (k := 11) (lo := 0) (hi := 4) (kt_o rfl) (by decide)
  refine e_Ok.ps3 (x := (1, 0)) (y := (0, 0)) (z := (0, n)) (q := 3) 3 rfl ?_
  refine e_Ok.getf (z := w 0 12) rfl (el_o rfl) rfl rfl rfl (by omega) ?_
  refine e_Ok.callS rfl (e_dq hd rfl) rfl rfl (c_242 (by omega) (by omega) (by omega)) (fun r1 w2 h3 => ?_)
  obtain ⟨z4, rfl, rfl, q5⟩ := h3
  obtain ⟨rfl, q5⟩ | ⟨rfl, q5⟩ := q5
  · refine e_Ok.nrm (q := 9) (st' := [(0, 1)]) rfl rfl ?_
    refine e_Ok.if1 rfl (fun h6 => ?_) (fun h6 => ?_)
    · replace h6 : (1 : Int) ≠ 0 := h6
      refine e_Ok.ps1 (x := (1, 0)) (q := 15) 1 rfl ?_
      refine e_Ok.getf (z := w 0 13) rfl (el_o rfl) rfl rfl rfl (by omega) ?_
      refine e_Ok.if1 rfl (fun h7 => ?_) (fun h7 => ?_)
      · replace h7 : (w 0 13 : Int) ≠ 0 := h7
        refine e_Ok.ps2 (x := (1, 0)) (y := (0, n)) (q := 26) 2 rfl ?_
        refine e_Ok.getf (z := w 0 12) rfl (el_o rfl) rfl rfl rfl (by omega) ?_
        refine e_Ok.if2 rfl (fun h8 => ?_) (fun h8 => ?_)
        · replace h8 : (n : Int) ≠ w 0 12 := h8
          refine e_Ok.ps2 (x := (0, n)) (y := (1, 0)) (q := 42) 2 rfl ?_
          refine e_Ok.putf rfl (el_o rfl) rfl rfl ?_
          generalize hw9 : e_up w 0 12 n = w9
          have hT11 : e_Has kTy w9 := e_Has.ups hT hw9 (kt_o rfl)
          refine e_Ok.ps2 (x := (0, 0)) (y := (1, 0)) (q := 47) 2 rfl ?_
          refine e_Ok.putb rfl (el_o rfl) rfl rfl (by omega) ?_
          generalize hw12 : e_up w9 0 14 0 = w12
          have hT14 : e_Has kTy w12 := e_Has.ups hT11 hw12 (kt_o rfl)
          refine e_Ok.ps1 (x := (1, 0)) (q := 51) 1 rfl ?_
          obtain ⟨OP, OD, CL, S, hK⟩ := hB (by omega)
          have eB : ∀ c k, ¬ (c = 0 ∧ (k = 12 ∨ k = 14)) → w12 c k = w c k := fun c k g => by rw [← hw12, e_up_ne _ _ (by omega), ← hw9, e_up_ne _ _ (by omega)]
          have oB : ∀ c k, e_out elay c k → w12 c k = w c k := fun c k g => eB c k (fun g2 => by obtain ⟨rfl, g3⟩ := g2; have z := g.2.2 0 11 15 rfl; omega)
          have kB0 : ∀ c k, Kc c k → w12 c k = w c k := fun c k g => eB c k (fun g2 => by obtain ⟨rfl, rfl | rfl⟩ := g2; exact nKc12 g; exact nKc14 g)
          have e12 : w12 0 12 = n := (e_uq hw12 (Or.inr (by decide)) (e_ue hw9))
          refine e_Ok.callV rfl (e_dq hd rfl) rfl rfl rfl rfl ((hK.2.2.1 w12 kB0 hT14).dp (by omega)) (fun r15 w16 h17 => ?_)
          obtain ⟨rfl, q18f, q18T, q18o, q18x, q18a⟩ := h17
          refine e_Ok.nrm (q := 54) (st' := []) rfl rfl ?_
          refine e_Ok.run (t' := (56, [(2, (0, 0)), (0, (1, 0)), (1, (0, n))], [], w16)) 2 rfl ?_
          have hL20 : ∀ (nn : Nat) (y2 : Int) (v1 : eW), e_fr kNt w v1 ∧ e_Has kTy v1 ∧ (∀ c k, e_out elay c k → v1 c k = w c k) ∧ v1 0 12 = n ∧ e_rx (S y2) v1 ∧ ((0 ≤ y2 ∧ y2 ≤ n)) ∧ (∀ a, 0 ≤ a → a ≤ 3 → aP v1 a) → 2000 - y2 < nn → e_Ok 20 elay kcode eI (d + 1) 225 (56, [(0, (1, 0)), (1, (0, n)), (2, (0, y2))], [], v1) (fun r w' => ∃ z : Int, r = [(0, z)] ∧ e_Has kTy w' ∧ opB w w') := by
            intro nn
            induction nn with
            | zero => intro y2 v1 hj hm; obtain ⟨j22, j23, j24, j25, j26, j27, j28⟩ := hj; exfalso; omega
            | succ nn ih21 =>
              intro y2 v1 hj hm
              obtain ⟨j22, j23, j24, j25, j26, j27, j28⟩ := hj
              refine e_Ok.run (t' := (58, [(0, (1, 0)), (1, (0, n)), (2, (0, y2))], [(0, n), (0, y2)], v1)) 2 rfl ?_
              refine e_Ok.if2 rfl (fun h29 => ?_) (fun h29 => ?_)
              · replace h29 : (y2 : Int) ≥ n := h29
                refine e_Ok.ps2 (x := (0, 1)) (y := (1, 0)) (q := 147) 2 rfl ?_
                refine e_Ok.putb rfl (el_o rfl) rfl rfl (by omega) ?_
                generalize hw30 : e_up v1 0 14 1 = w30
                have f31 : e_fr kNt w w30 := e_fr.up j22 hw30 (by first | exact Or.inr ⟨rfl, Or.inr rfl⟩ | (unfold kNt kNw; omega))
                have hT32 : e_Has kTy w30 := e_Has.ups j23 hw30 rfl
                refine e_Ok.ps1 (x := (1, 0)) (q := 151) 1 rfl ?_
                refine e_Ok.getr (z := 74) rfl (el_o rfl) rfl rfl (e_uq hw30 (Or.inr (by decide)) ((j22 0 5 no_d8_0).trans (e_Has.eq hT (kt_o rfl)))) ⟨by decide, by decide⟩ ?_
                have h33 := (e_Has.get j23 (c := 74) (k := 0) (lo := 0) (hi := 6000) rfl (by decide))
                refine e_Ok.getf (z := v1 74 0) rfl (el_o rfl) rfl rfl (e_uq hw30 (Or.inl (by decide)) rfl) (e_bq h33 (by decide) (by decide)) ?_
                refine e_Ok.rets rfl rfl ?_
                have hy : y2 = n := by omega
                have eX : ∀ c k, ¬ (c = 0 ∧ k = 14) → w30 c k = v1 c k := fun c k g => by rw [← hw30]; exact e_up_ne _ _ (by omega)
                have oX : ∀ c k, e_out elay c k → w30 c k = w c k := fun c k g => (eX c k (fun g2 => by obtain ⟨rfl, g3⟩ := g2; have z := g.2.2 0 11 15 rfl; omega)).trans (j24 c k g)
                have fX : e_fr kNh w w30 := e_fr.mono f31 (fun c k g => nt_nh g)
                have eY : ∀ c k, ((262 ≤ c ∧ c ≤ 271) ∨ c = 273) → w30 c k = w c k := fun c k g => f31 c k (by unfold kNt kNw; omega)
                have hBv := hK.back (n := n) (by omega) (Kc.of fX hT hT32 oX) (by rw [eX _ _ (by omega)]; exact j25) (eY _ _ (by omega)) (fun c k g1 g2 => eY c k (by omega)) (fun k => eY _ _ (by omega)) (fun c k g1 g2 => by rw [eX c k (fun g3 => g1 (Or.inl ⟨by omega, by obtain ⟨rfl, rfl⟩ := g3; exact (by decide : (1 : Int) ≠ 0)⟩))]; have z := j26; rw [hy] at z; exact z c k g1 g2) (fun a g1 g2 => aP.up0 hw30 j23 hT32 ⟨g1, g2⟩ (j28 a g1 g2))
                exact ⟨_, rfl, hT32, Or.inr ⟨by omega, f31, (e_ue hw30), OP, OD, CL, S, hBv⟩⟩
              · replace h29 : (y2 : Int) < n := Int.not_le.mp (show ¬ ((y2 : Int) ≥ n) from h29)
                refine e_Ok.ps2 (x := (0, 4)) (y := (0, y2)) (q := 63) 2 rfl ?_
                refine e_Ok.mul (z := 4 * y2) rfl (Int.mul_comm _ _) (by omega) ?_
                refine e_Ok.run (t' := (65, [(3, (0, 4 * y2)), (0, (1, 0)), (1, (0, n)), (2, (0, y2))], [], v1)) 1 rfl ?_
                obtain ⟨hkn, hrw⟩ := hK.2.2.2.2.2 y2 (by omega) (by omega)
                have hb0 := hkn (4 * y2) (by omega) (by omega); unfold kn1 at hb0
                have hb1 := hkn (4 * y2 + 1) (by omega) (by omega); unfold kn1 at hb1
                have hb2 := hkn (4 * y2 + 2) (by omega) (by omega); unfold kn1 at hb2
                have hb3 := hkn (4 * y2 + 3) (by omega) (by omega); unfold kn1 at hb3
                have eWp : ∀ c k, (262 ≤ c ∧ c ≤ 271) → v1 c k = w c k := fun c k g => j22 c k (by unfold kNt kNw; omega)
                have hU : e_rf (pj w (S y2)) v1 := rx_pjw j26 (eWp _ _ (by omega)) (fun c k g1 g2 => eWp c k (by omega))
                obtain ⟨⟨hh, hh0, hI⟩, hev, he0, he1⟩ := hK.ev (i := y2) (by omega)
                refine e_Ok.ps1 (x := (1, 0)) (q := 66) 1 rfl ?_
                refine e_Ok.getr (z := 273) rfl (el_o rfl) rfl rfl ((j22 0 9 no_d8_1).trans (e_Has.eq hT (kt_o rfl))) ⟨by decide, by decide⟩ ?_
                refine e_Ok.ps1 (x := (0, 4 * y2)) (q := 70) 1 rfl ?_
                refine e_Ok.ald (z := w 273 (4 * y2)) rfl (el_o rfl) rfl (by omega) ((j22 273 (4 * y2) no_d8_2).trans rfl) (by omega) ?_
                refine e_Ok.ps1 (x := (0, 1)) (q := 72) 1 rfl ?_
                refine e_Ok.if2 rfl (fun h34 => ?_) (fun h34 => ?_)
                · replace h34 : (w 273 (4 * y2) : Int) = 1 := h34
                  refine e_Ok.run (t' := (116, [(4, (0, 0)), (3, (0, 4 * y2)), (0, (1, 0)), (1, (0, n)), (2, (0, y2))], [], v1)) 2 rfl ?_
                  have hL35 : ∀ (nn : Nat) (y4 : Int) (v2 : eW) (U1 : eW), e_fr kNt w v2 ∧ e_Has kTy v2 ∧ (∀ c k, e_out elay c k → v2 c k = w c k) ∧ v2 0 12 = n ∧ e_rf U1 v2 ∧ tkW OP OD CL (w 273 (4 * y2 + 1) - y4).toNat U1 (S (y2 + 1)) ∧ ((0 ≤ y4 ∧ y4 ≤ w 273 (4 * y2 + 1) ∧ w 273 (4 * y2 + 1) ≤ 1000)) ∧ (∀ a, 0 ≤ a → a ≤ 3 → aP v2 a) → 1000 - y4 < nn → e_Ok 20 elay kcode eI (d + 1) 225 (116, [(0, (1, 0)), (1, (0, n)), (2, (0, y2)), (3, (0, 4 * y2)), (4, (0, y4))], [], v2) (fun r w' => ∃ z : Int, r = [(0, z)] ∧ e_Has kTy w' ∧ opB w w') := by
                    intro nn
                    induction nn with
                    | zero => intro y4 v2 U1 hj hm; obtain ⟨j37, j38, j40, j41, j42, j43, j44, j45⟩ := hj; exfalso; omega
                    | succ nn ih36 =>
                      intro y4 v2 U1 hj hm
                      obtain ⟨j37, j38, j40, j41, j42, j43, j44, j45⟩ := hj
                      refine e_Ok.run (t' := (119, [(0, (1, 0)), (1, (0, n)), (2, (0, y2)), (3, (0, 4 * y2)), (4, (0, y4))], [(1, 0), (0, y4)], v2)) 2 rfl ?_
                      refine e_Ok.getr (z := 273) rfl (el_o rfl) rfl rfl ((j37 0 9 no_d8_1).trans (e_Has.eq hT (kt_o rfl))) ⟨by decide, by decide⟩ ?_
                      refine e_Ok.ps2 (x := (0, 1)) (y := (0, 4 * y2)) (q := 124) 2 rfl ?_
                      refine e_Ok.add (z := 4 * y2 + 1) rfl rfl (by omega) ?_
                      refine e_Ok.ald (z := w 273 (4 * y2 + 1)) rfl (el_o rfl) rfl (by omega) ((j37 273 (4 * y2 + 1) no_d8_2).trans rfl) (by omega) ?_
                      refine e_Ok.if2 rfl (fun h46 => ?_) (fun h46 => ?_)
                      · replace h46 : (y4 : Int) ≥ w 273 (4 * y2 + 1) := h46
                        have hts := j43
                        rw [show (w 273 (4 * y2 + 1) - y4).toNat = 0 by omega] at hts
                        have hrx : e_rx (S (y2 + 1)) v2 := e_rx.rf hts j42
                        refine e_Ok.inc (z := y2 + 1) rfl rfl (by first | with_reducible rfl | omega) (by omega) ?_
                        show e_Ok 20 elay kcode eI (d + 1) 225 (142, [(2, (0, y2 + 1)), (0, (1, 0)), (1, (0, n)), (3, (0, 4 * y2)), (4, (0, y4))], [], v2) _
                        refine e_Ok.ps0 (q := 56) 1 rfl ?_
                        refine e_Ok.sub kAlk (e_sub_of rfl ?_) (ih21 (y2 + 1) v2 ⟨j37, j38, j40, j41, hrx, by omega, j45⟩ (by omega))
                        exact ⟨rfl, rfl, rfl, trivial⟩
                      · replace h46 : (y4 : Int) < w 273 (4 * y2 + 1) := Int.not_le.mp (show ¬ ((y4 : Int) ≥ w 273 (4 * y2 + 1)) from h46)
                        refine e_Ok.ps1 (x := (1, 0)) (q := 130) 1 rfl ?_
                        obtain ⟨m, hm⟩ : ∃ m : Nat, (w 273 (4 * y2 + 1) - y4).toNat = m + 1 := ⟨(w 273 (4 * y2 + 1) - y4).toNat - 1, by omega⟩
                        have hts := j43
                        rw [hm] at hts
                        obtain ⟨hg, u2, ht1, hts2⟩ := hts
                        refine e_Ok.callV rfl (e_dq hd rfl) rfl rfl rfl rfl (tick_b (e_dq hd rfl) (U := U1) j42 hg ht1) (fun r47 w48 h49 => ?_)
                        obtain ⟨⟨rfl, q50f, q50T, q50x, q50a⟩, q50o⟩ := h49
                        show e_Ok 20 elay kcode eI (d + 1) 225 (133, [(0, (1, 0)), (1, (0, n)), (2, (0, y2)), (3, (0, 4 * y2)), (4, (0, y4))], [], w48) _
                        refine e_Ok.inc (z := y4 + 1) rfl rfl (by first | with_reducible rfl | omega) (by omega) ?_
                        show e_Ok 20 elay kcode eI (d + 1) 225 (136, [(4, (0, y4 + 1)), (0, (1, 0)), (1, (0, n)), (2, (0, y2)), (3, (0, 4 * y2))], [], w48) _
                        refine e_Ok.ps0 (q := 116) 1 rfl ?_
                        refine e_Ok.sub kAlk (e_sub_of rfl ?_) (ih36 (y4 + 1) w48 u2 ⟨(show e_fr kNt w w48 from e_fr.trans j37 (e_fr.mono q50f (fun c k q => by exact Or.inl q))), q50T, (fun c k g => (q50o c k g).trans (j40 c k g)), (by rw [q50f _ _ (by unfold kNw; omega)]; exact j41), q50x, (by rw [show (w 273 (4 * y2 + 1) - (y4 + 1)).toNat = m by omega]; exact hts2), by omega, (fun a g1 g2 => q50a a g1 g2 (j45 a g1 g2))⟩ (by omega))
                        exact ⟨rfl, rfl, rfl, rfl, rfl, trivial⟩
                  refine e_Ok.sub kAlk (e_sub_of rfl ?_) (hL35 (1000 + 1 : Int).toNat 0 v1 (pj w (S y2)) ⟨j22, j23, j24, j25, hU, (by rcases hrw with g | g; exact absurd (show w 273 (4 * y2) = 1 by omega) g.1; exact (by rw [show (w 273 (4 * y2 + 1) - 0).toNat = (w 273 (4 * y2 + 1)).toNat by omega]; exact g.2.2)), (by rcases hrw with g | g; exact absurd (show w 273 (4 * y2) = 1 by omega) g.1; (have g2 := g.2.1; omega)), j28⟩ (by omega))
                  exact ⟨rfl, rfl, rfl, rfl, rfl, trivial⟩
                · replace h34 : (w 273 (4 * y2) : Int) ≠ 1 := (show ¬ ((w 273 (4 * y2) : Int) = 1) from h34)
                  refine e_Ok.ps2 (x := (1, 0)) (y := (1, 0)) (q := 77) 2 rfl ?_
                  refine e_Ok.getr (z := 273) rfl (el_o rfl) rfl rfl ((j22 0 9 no_d8_1).trans (e_Has.eq hT (kt_o rfl))) ⟨by decide, by decide⟩ ?_
                  refine e_Ok.ps1 (x := (0, 4 * y2)) (q := 81) 1 rfl ?_
                  refine e_Ok.ald (z := w 273 (4 * y2)) rfl (el_o rfl) rfl (by omega) ((j22 273 (4 * y2) no_d8_2).trans rfl) (by omega) ?_
                  refine e_Ok.ps1 (x := (1, 0)) (q := 83) 1 rfl ?_
                  refine e_Ok.getr (z := 273) rfl (el_o rfl) rfl rfl ((j22 0 9 no_d8_1).trans (e_Has.eq hT (kt_o rfl))) ⟨by decide, by decide⟩ ?_
                  refine e_Ok.ps2 (x := (0, 1)) (y := (0, 4 * y2)) (q := 88) 2 rfl ?_
                  refine e_Ok.add (z := 4 * y2 + 1) rfl rfl (by omega) ?_
                  refine e_Ok.ald (z := w 273 (4 * y2 + 1)) rfl (el_o rfl) rfl (by omega) ((j22 273 (4 * y2 + 1) no_d8_2).trans rfl) (by omega) ?_
                  refine e_Ok.ps1 (x := (1, 0)) (q := 91) 1 rfl ?_
                  refine e_Ok.getr (z := 273) rfl (el_o rfl) rfl rfl ((j22 0 9 no_d8_1).trans (e_Has.eq hT (kt_o rfl))) ⟨by decide, by decide⟩ ?_
                  refine e_Ok.ps2 (x := (0, 2)) (y := (0, 4 * y2)) (q := 96) 2 rfl ?_
                  refine e_Ok.add (z := 4 * y2 + 2) rfl rfl (by omega) ?_
                  refine e_Ok.ald (z := w 273 (4 * y2 + 2)) rfl (el_o rfl) rfl (by omega) ((j22 273 (4 * y2 + 2) no_d8_2).trans rfl) (by omega) ?_
                  refine e_Ok.ps1 (x := (1, 0)) (q := 99) 1 rfl ?_
                  refine e_Ok.getr (z := 273) rfl (el_o rfl) rfl rfl ((j22 0 9 no_d8_1).trans (e_Has.eq hT (kt_o rfl))) ⟨by decide, by decide⟩ ?_
                  refine e_Ok.ps2 (x := (0, 3)) (y := (0, 4 * y2)) (q := 104) 2 rfl ?_
                  refine e_Ok.add (z := 4 * y2 + 3) rfl rfl (by omega) ?_
                  refine e_Ok.ald (z := w 273 (4 * y2 + 3)) rfl (el_o rfl) rfl (by omega) ((j22 273 (4 * y2 + 3) no_d8_2).trans rfl) (by omega) ?_
                  obtain ⟨hx1, hrc, hru⟩ : (w 273 (4 * y2) ≠ 1) ∧ rwC (pj w (S y2)) _ _ _ _ ∧ _ := by rcases hrw with g | g; exact g; exact absurd g.1 (by omega)
                  refine e_Ok.callV rfl (e_dq hd rfl) rfl rfl rfl rfl (row_b (e_dq hd rfl) hU hI hh0 (by omega) hrc hb1 hb2 hb3 hru) (fun r52 w53 h54 => ?_)
                  obtain ⟨⟨⟨z, rfl⟩, q55f, q55T, q55x, q55a⟩, q55o⟩ := h54
                  refine e_Ok.nrm (q := 109) (st' := [(0, z)]) rfl rfl ?_
                  refine e_Ok.run (t' := (139, [(3, (0, 4 * y2)), (0, (1, 0)), (1, (0, n)), (2, (0, y2))], [], w53)) 2 rfl ?_
                  refine e_Ok.inc (z := y2 + 1) rfl rfl (by first | with_reducible rfl | omega) (by omega) ?_
                  show e_Ok 20 elay kcode eI (d + 1) 225 (142, [(2, (0, y2 + 1)), (3, (0, 4 * y2)), (0, (1, 0)), (1, (0, n))], [], w53) _
                  refine e_Ok.ps0 (q := 56) 1 rfl ?_
                  refine e_Ok.sub kAlk (e_sub_of rfl ?_) (ih21 (y2 + 1) w53 ⟨(show e_fr kNt w w53 from e_fr.trans j22 (e_fr.mono q55f (fun c k q => by exact Or.inl q))), q55T, (fun c k g => (q55o c k g).trans (j24 c k g)), (by rw [q55f _ _ (by unfold kNw; omega)]; exact j25), q55x, by omega, (fun a g1 g2 => q55a a g1 g2 (j28 a g1 g2))⟩ (by omega))
                  exact ⟨rfl, rfl, rfl, trivial⟩
          refine e_Ok.sub kAlk (e_sub_of rfl ?_) (hL20 (2000 + 1 : Int).toNat 0 w16 ⟨(show e_fr kNt w w16 from e_fr.trans (show e_fr kNt w w12 from e_fr.up (show e_fr kNt w w9 from e_fr.up (e_fr.refl w) hw9 (by first | exact Or.inr ⟨rfl, Or.inl rfl⟩ | (unfold kNt kNw; omega))) hw12 (by first | exact Or.inr ⟨rfl, Or.inr rfl⟩ | (unfold kNt kNw; omega))) (e_fr.mono q18f (fun c k q => by exact Or.inl q))), q18T, (fun c k g => (q18o c k g).trans (oB c k g)), (by rw [q18f _ _ (by unfold kNw; omega)]; exact e12), q18x.rx, by omega, q18a⟩ (by omega))
          exact ⟨rfl, rfl, rfl, trivial⟩
        · replace h8 : (n : Int) = w 0 12 := Classical.not_not.mp (show ¬ ((n : Int) ≠ w 0 12) from h8)
          refine e_Ok.ps1 (x := (1, 0)) (q := 33) 1 rfl ?_
          refine e_Ok.getr (z := 74) rfl (el_o rfl) rfl rfl (e_Has.eq hT (kt_o rfl)) ⟨by decide, by decide⟩ ?_
          have h57 := (e_Has.get hT (c := 74) (k := 0) (lo := 0) (hi := 6000) (kt_o rfl) (by decide))
          refine e_Ok.getf (z := w 74 0) rfl (el_o rfl) rfl rfl rfl (e_bq h57 (by decide) (by decide)) ?_
          refine e_Ok.rets rfl rfl ?_
          exact ⟨_, rfl, hT, Or.inl rfl⟩
      · replace h7 : (w 0 13 : Int) = 0 := Classical.not_not.mp (show ¬ ((w 0 13 : Int) ≠ 0) from h7)
        refine e_Ok.ps1 (x := (0, (-2))) (q := 23) 1 rfl ?_
        refine e_Ok.rets rfl rfl ?_
        exact ⟨_, rfl, hT, Or.inl rfl⟩
    · replace h6 : (1 : Int) = 0 := Classical.not_not.mp (show ¬ ((1 : Int) ≠ 0) from h6)
      exfalso; omega
  · refine e_Ok.nrm (q := 9) (st' := [(0, 0)]) rfl rfl ?_
    refine e_Ok.if1 rfl (fun h58 => ?_) (fun h58 => ?_)
    · replace h58 : (0 : Int) ≠ 0 := h58
      exfalso; omega
    · replace h58 : (0 : Int) = 0 := Classical.not_not.mp (show ¬ ((0 : Int) ≠ 0) from h58)
      refine e_Ok.ps1 (x := (0, (-1))) (q := 13) 1 rfl ?_
      refine e_Ok.rets rfl rfl ?_
      exact ⟨_, rfl, hT, Or.inl rfl⟩
end
end
-- part d9
section
noncomputable section
/-! numbers of nodes, for the class's planner -/
def kpr (f : Int → Int) : Nat → Int
  | 0 => 1
  | n + 1 => kpr f n * f n
def kdv (f : Int → Int) (x : Int) : Nat → Int
  | 0 => x
  | k + 1 => kdv f x k / f k
theorem kprp {f : Int → Int} : ∀ {n : Nat}, (∀ k : Int, 0 ≤ k → k < n → 1 ≤ f k) → 1 ≤ kpr f n
  | 0, _ => Int.le_refl 1
  | n + 1, h => by
    have h1 := kprp (n := n) (fun k g1 g2 => h k g1 (by omega))
    have h2 := h n (by omega) (by omega)
    show 1 ≤ kpr f n * f n
    have := Int.mul_le_mul h1 h2 (by decide) (by omega)
    omega
theorem kprl {f : Int → Int} {m : Nat} : ∀ {n : Nat}, m ≤ n → (∀ k : Int, 0 ≤ k → k < n → 1 ≤ f k) → kpr f m ≤ kpr f n
  | 0, hm, _ => by rw [Nat.le_zero.mp hm]; exact Int.le_refl _
  | n + 1, hm, h => by
    rcases Nat.lt_or_ge m (n + 1) with g | g
    · have h1 := kprl (m := m) (n := n) (by omega) (fun k g1 g2 => h k g1 (by omega))
      have h0 := kprp (n := n) (fun k g1 g2 => h k g1 (by omega))
      have h2 := h n (by omega) (by omega)
      have : kpr f n * 1 ≤ kpr f n * f n := Int.mul_le_mul_of_nonneg_left h2 (by omega)
      show kpr f m ≤ kpr f n * f n
      omega
    · rw [show m = n + 1 by omega]; exact Int.le_refl _
theorem kdve {f : Int → Int} {x : Int} : ∀ {n : Nat}, (∀ k : Int, 0 ≤ k → k < n → 1 ≤ f k) → kdv f x n = x / kpr f n
  | 0, _ => by show x = x / 1; rw [Int.ediv_one]
  | n + 1, h => by
    have h0 := kprp (n := n) (fun k g1 g2 => h k g1 (by omega))
    show kdv f x n / f n = x / (kpr f n * f n)
    rw [kdve (n := n) (fun k g1 g2 => h k g1 (by omega)), Int.ediv_ediv_of_nonneg (by omega)]
/-- the node beside: one more in the digit j -/
theorem kdvu {f : Int → Int} {x : Int} {j : Nat} (h : ∀ k : Int, 0 ≤ k → k < j → 1 ≤ f k) : kdv f (x + kpr f j) j = kdv f x j + 1 := by
  have h0 := kprp h
  rw [kdve h, kdve h, Int.add_ediv_of_dvd_right ⟨1, by omega⟩, Int.ediv_self (by omega)]
theorem kdvr {f : Int → Int} {x : Int} {j n : Nat} (hj : j < n) (h : ∀ k : Int, 0 ≤ k → k < n → 1 ≤ f k) (hx : 0 ≤ x ∧ x < kpr f n) (hd : kdv f x j % f j + 1 < f j) : x + kpr f j < kpr f n := by
  have hjj : ∀ k : Int, 0 ≤ k → k < j → 1 ≤ f k := fun k g1 g2 => h k g1 (by omega)
  have h0 := kprp hjj
  have hf := h j (by omega) (by omega)
  -- x lies below the next multiple of kpr f (j + 1), which is at most kpr f n
  have hM : kpr f (j + 1) = kpr f j * f j := rfl
  have hM1 : 1 ≤ kpr f (j + 1) := kprp (fun k g1 g2 => h k g1 (by omega))
  rw [kdve hjj] at hd
  -- kpr f n is a multiple of kpr f (j + 1)
  have hdiv : ∀ m : Nat, j + 1 ≤ m → ∃ c, kpr f m = kpr f (j + 1) * c := by
    intro m
    induction m with
    | zero => intro g; omega
    | succ m ih =>
      intro g
      rcases Nat.lt_or_ge (j + 1) (m + 1) with q | q
      · obtain ⟨c, hc⟩ := ih (by omega)
        exact ⟨c * f m, by show kpr f m * f m = _; rw [hc, Int.mul_assoc]⟩
      · exact ⟨1, by rw [show m + 1 = j + 1 by omega, Int.mul_one]⟩
  obtain ⟨c, hc⟩ := hdiv n hj
  -- q = x / kpr f (j + 1) < c
  have e1 := Int.mul_ediv_add_emod x (kpr f j)
  have e2 := Int.mul_ediv_add_emod (x / kpr f j) (f j)
  have b1 := Int.emod_lt_of_pos x (show 0 < kpr f j by omega)
  have b2 := Int.emod_nonneg x (show kpr f j ≠ 0 by omega)
  have hq : x / kpr f j / f j < c := by
    rw [Int.ediv_ediv_of_nonneg (by omega), ← hM]
    refine Int.ediv_lt_of_lt_mul (by omega) ?_
    rw [Int.mul_comm]
    omega
  have h3 : x / kpr f j + 2 ≤ f j * c := by
    have : f j * (x / kpr f j / f j + 1) ≤ f j * c := Int.mul_le_mul_of_nonneg_left (by omega) (by omega)
    rw [Int.mul_add, Int.mul_one] at this
    omega
  have h4 : kpr f j * (x / kpr f j + 2) ≤ kpr f j * (f j * c) := Int.mul_le_mul_of_nonneg_left h3 (by omega)
  rw [← Int.mul_assoc, ← hM, ← hc, Int.mul_add] at h4
  omega
theorem kdvl {f : Int → Int} {x : Int} {j : Nat} (h : ∀ k : Int, 0 ≤ k → k < j → 1 ≤ f k) (hx : 0 ≤ x) (hf : 1 ≤ f j) (hd : 0 < kdv f x j % f j) : 0 ≤ x - kpr f j := by
  have h0 := kprp h
  rw [kdve h] at hd
  by_cases e : x < kpr f j
  · rw [Int.ediv_eq_zero_of_lt hx e, Int.zero_emod] at hd
    omega
  · omega
def kdg (f : Int → Int) (x : Int) (j : Nat) : Int := kdv f x j % f j
theorem kpm {f : Int → Int} {j : Nat} : ∀ {n : Nat}, j ≤ n → ∃ c, kpr f n = kpr f j * c
  | 0, h => ⟨1, by rw [show j = 0 by omega, Int.mul_one]⟩
  | n + 1, h => by
    rcases Nat.lt_or_ge j (n + 1) with g | g
    · obtain ⟨c, hc⟩ := kpm (f := f) (n := n) (by omega : j ≤ n)
      exact ⟨c * f n, by show kpr f n * f n = _; rw [hc, Int.mul_assoc]⟩
    · exact ⟨1, by rw [show n + 1 = j by omega, Int.mul_one]⟩
theorem kdgi {f : Int → Int} {x : Int} {j : Nat} (h : 1 ≤ f j) : 0 ≤ kdg f x j ∧ kdg f x j < f j := ⟨Int.emod_nonneg _ (by omega), Int.emod_lt_of_pos _ (by omega)⟩
theorem kdgu {f : Int → Int} {x : Int} {n j i : Nat} (hj : j < n) (hi : i < n) (h : ∀ k : Int, 0 ≤ k → k < n → 1 ≤ f k) (hd : kdg f x j + 1 < f j) : kdg f (x + kpr f j) i = if i = j then kdg f x j + 1 else kdg f x i := by
  have hpj : ∀ m : Nat, m ≤ n → ∀ k : Int, 0 ≤ k → k < m → 1 ≤ f k := fun m hm k g1 g2 => h k g1 (by omega)
  have hfj := h j (by omega) (by omega)
  have hfi := h i (by omega) (by omega)
  have up := kdvu (f := f) (x := x) (j := j) (hpj j (by omega))
  have b1 := kdgi (x := x) hfj
  rcases Nat.lt_trichotomy i j with g | g | g
  · rw [if_neg (by omega)]
    unfold kdg
    rw [kdve (hpj i (by omega)), kdve (hpj i (by omega))]
    obtain ⟨c, hc⟩ := kpm (f := f) (j := i + 1) (n := j) g
    have h0 := kprp (hpj i (by omega))
    rw [hc, show kpr f (i + 1) = kpr f i * f i from rfl, Int.mul_assoc, Int.add_mul_ediv_left _ _ (by omega), Int.add_mul_emod_self_left]
  · rw [if_pos g, g]
    unfold kdg
    rw [up]
    unfold kdg at hd b1
    have e := Int.mul_ediv_add_emod (kdv f x j) (f j)
    rw [show kdv f x j + 1 = (kdv f x j % f j + 1) + f j * (kdv f x j / f j) by omega, Int.add_mul_emod_self_left, Int.emod_eq_of_lt (by omega) hd]
  · rw [if_neg (by omega)]
    have hk : ∀ m : Nat, j + 1 ≤ m → kdv f (x + kpr f j) m = kdv f x m := by
      intro m
      induction m with
      | zero => intro g; omega
      | succ m ih =>
        intro g2
        show kdv f (x + kpr f j) m / f m = kdv f x m / f m
        rcases Nat.lt_or_ge j m with q | q
        · rw [ih (by omega)]
        · rw [show m = j by omega, up]
          unfold kdg at hd b1
          have e := Int.mul_ediv_add_emod (kdv f x j) (f j)
          rw [show kdv f x j + 1 = (kdv f x j % f j + 1) + f j * (kdv f x j / f j) by omega, Int.add_mul_ediv_left _ _ (by omega), Int.ediv_eq_zero_of_lt (by omega) hd, Int.zero_add]
    unfold kdg
    rw [hk i g]
def ksm (f d : Int → Int) : Nat → Int
  | 0 => 0
  | n + 1 => ksm f d n + kpr f n * d n
theorem ksmi {f d : Int → Int} : ∀ {n : Nat}, (∀ k : Int, 0 ≤ k → k < n → 0 ≤ d k ∧ d k < f k) → 0 ≤ ksm f d n ∧ ksm f d n < kpr f n
  | 0, _ => by show (0 : Int) ≤ 0 ∧ (0 : Int) < 1; omega
  | n + 1, h => by
    have h1 := ksmi (n := n) (fun k g1 g2 => h k g1 (by omega))
    have h2 := h n (by omega) (by omega)
    show 0 ≤ ksm f d n + kpr f n * d n ∧ ksm f d n + kpr f n * d n < kpr f n * f n
    have h3 : 0 ≤ kpr f n * d n := Int.mul_nonneg (by omega) h2.1
    have h4 : kpr f n * (d n + 1) ≤ kpr f n * f n := Int.mul_le_mul_of_nonneg_left (by omega) (by omega)
    rw [Int.mul_add, Int.mul_one] at h4
    omega
theorem ksmd {f d : Int → Int} {j : Nat} : ∀ {n : Nat}, j < n → (∀ k : Int, 0 ≤ k → k < n → 0 ≤ d k ∧ d k < f k) → kdg f (ksm f d n) j = d j
  | 0, h, _ => by omega
  | n + 1, hj, h => by
    have hp : ∀ m : Nat, m ≤ n + 1 → ∀ k : Int, 0 ≤ k → k < m → 1 ≤ f k := fun m hm k g1 g2 => by have := h k g1 (by omega); omega
    have h0 := kprp (hp j (by omega))
    have hs := ksmi (f := f) (d := d) (n := j) (fun k g1 g2 => h k g1 (by omega))
    have hd := h j (by omega) (by omega)
    rcases Nat.lt_or_ge j n with g | g
    · have ih := ksmd (n := n) g (fun k g1 g2 => h k g1 (by omega))
      unfold kdg at ih ⊢
      rw [kdve (hp j (by omega))] at ih ⊢
      show (ksm f d n + kpr f n * d n) / kpr f j % f j = d j
      obtain ⟨c, hc⟩ := kpm (f := f) (j := j + 1) (n := n) g
      rw [hc, show kpr f (j + 1) = kpr f j * f j from rfl, Int.mul_assoc (kpr f j), Int.mul_assoc (kpr f j), Int.add_mul_ediv_left _ _ (by omega), Int.mul_assoc, Int.add_mul_emod_self_left]
      exact ih
    · rw [show n = j by omega]
      unfold kdg
      rw [kdve (hp j (by omega))]
      show (ksm f d j + kpr f j * d j) / kpr f j % f j = d j
      rw [Int.add_mul_ediv_left _ _ (by omega), Int.ediv_eq_zero_of_lt hs.1 hs.2, Int.zero_add, Int.emod_eq_of_lt hd.1 hd.2]
def kln (f : Int → Int) (x y s : Int) : Prop := (s % 2 = 0 ∧ y = x + kpr f (s / 2).toNat ∧ kdg f x (s / 2).toNat + 1 < f (s / 2)) ∨ (s % 2 = 1 ∧ y = x - kpr f (s / 2).toNat ∧ 0 < kdg f x (s / 2).toNat)
theorem kln.in {f : Int → Int} {x y s : Int} {n : Nat} (h : kln f x y s) (hs : 0 ≤ s ∧ s < 2 * n) (hf : ∀ k : Int, 0 ≤ k → k < n → 1 ≤ f k) (hx : 0 ≤ x ∧ x < kpr f n) : 0 ≤ y ∧ y < kpr f n := by
  have e : (((s / 2).toNat : Nat) : Int) = s / 2 := by omega
  have hp := kprp (f := f) (n := (s / 2).toNat) (fun k g1 g2 => hf k g1 (by omega))
  rcases h with ⟨h1, rfl, h3⟩ | ⟨h1, rfl, h3⟩
  · rw [← e] at h3
    have := kdvr (f := f) (x := x) (j := (s / 2).toNat) (n := n) (by omega) hf hx h3
    omega
  · have := kdvl (f := f) (x := x) (j := (s / 2).toNat) (fun k g1 g2 => hf k g1 (by omega)) hx.1 (hf _ (by omega) (by omega)) h3
    omega
def kfl (s : Int) : Int := if s % 2 = 0 then s + 1 else s - 1
theorem kln.back {f : Int → Int} {x y s : Int} {n : Nat} (h : kln f x y s) (hs : 0 ≤ s ∧ s < 2 * n) (hf : ∀ k : Int, 0 ≤ k → k < n → 1 ≤ f k) : kln f y x (kfl s) := by
  have e : (((s / 2).toNat : Nat) : Int) = s / 2 := by omega
  have hfj := hf (s / 2) (by omega) (by omega)
  unfold kfl
  rcases h with ⟨h1, rfl, h3⟩ | ⟨h1, rfl, h3⟩
  · rw [if_pos h1]
    refine Or.inr ⟨by omega, ?_, ?_⟩
    · rw [show (s + 1) / 2 = s / 2 by omega]; omega
    · rw [show (s + 1) / 2 = s / 2 by omega, kdgu (n := n) (j := (s / 2).toNat) (by omega) (by omega) hf (by rw [e]; exact h3), if_pos rfl]
      have := kdgi (f := f) (x := x) (j := (s / 2).toNat) (by rw [e]; exact hfj)
      omega
  · rw [if_neg (by omega)]
    refine Or.inl ⟨by omega, ?_, ?_⟩
    · rw [show (s - 1) / 2 = s / 2 by omega]; omega
    · rw [show (s - 1) / 2 = s / 2 by omega]
      have hi := kdgi (f := f) (x := x) (j := (s / 2).toNat) (by rw [e]; exact hfj)
      have hp : ∀ k : Int, 0 ≤ k → k < ((s / 2).toNat : Nat) → 1 ≤ f k := fun k g1 g2 => hf k g1 (by omega)
      -- the digit of x - kpr is one less
      have up := kdvu (f := f) (x := x - kpr f (s / 2).toNat) (j := (s / 2).toNat) hp
      rw [Int.sub_add_cancel] at up
      unfold kdg at h3 hi ⊢
      rw [e] at h3 hi ⊢
      have q1 := Int.mul_ediv_add_emod (kdv f x (s / 2).toNat) (f (s / 2))
      rw [show kdv f (x - kpr f (s / 2).toNat) (s / 2).toNat = (kdv f x (s / 2).toNat % f (s / 2) - 1) + f (s / 2) * (kdv f x (s / 2).toNat / f (s / 2)) by omega, Int.add_mul_emod_self_left, Int.emod_eq_of_lt (by omega) (by omega)]
      omega
theorem kfli {s n : Int} (hs : 0 ≤ s ∧ s < 2 * n) : 0 ≤ kfl s ∧ kfl s < 2 * n := by unfold kfl; split <;> omega
theorem kln.dgt {f : Int → Int} {x y s : Int} {n i : Nat} (h : kln f x y s) (hs : 0 ≤ s ∧ s < 2 * n) (hi : i < n) (hf : ∀ k : Int, 0 ≤ k → k < n → 1 ≤ f k) : (s = 2 * i → kdg f y i = kdg f x i + 1) ∧ (s = 2 * i + 1 → kdg f y i = kdg f x i - 1) ∧ (s ≠ 2 * i → s ≠ 2 * i + 1 → kdg f y i = kdg f x i) := by
  have e : (((s / 2).toNat : Nat) : Int) = s / 2 := by omega
  have hb := h.back hs hf
  rcases h with ⟨h1, rfl, h3⟩ | ⟨h1, h2, h3⟩
  · rw [kdgu (n := n) (j := (s / 2).toNat) (by omega) hi hf (by rw [e]; exact h3)]
    refine ⟨fun g => ?_, fun g => by omega, fun g1 g2 => ?_⟩
    · rw [if_pos (by omega), show (s / 2).toNat = i by omega]
    · rw [if_neg (by omega)]
  · unfold kfl at hb
    rw [if_neg (by omega)] at hb
    rcases hb with ⟨b1, b2, b3⟩ | ⟨b1, -, -⟩
    · rw [show (s - 1) / 2 = s / 2 by omega] at b2 b3
      have u := kdgu (f := f) (x := y) (n := n) (j := (s / 2).toNat) (i := i) (by omega) hi hf (by rw [e]; exact b3)
      rw [← b2] at u
      refine ⟨fun g => by omega, fun g => ?_, fun g1 g2 => ?_⟩
      · rw [if_pos (by omega), show (s / 2).toNat = i by omega] at u; omega
      · rw [if_neg (by omega)] at u; omega
    · omega
/-! the planner: its plan, its search -/
theorem krd {x y : Int} (hx : -1000000 ≤ x ∧ x ≤ 1000000) (hy : 1 ≤ y) : (-1000000 ≤ x.tdiv y ∧ x.tdiv y ≤ 1000000) ∧ (-1000000 ≤ x.tdiv y * y ∧ x.tdiv y * y ≤ 1000000) := by
  by_cases h : 0 ≤ x
  · rw [Int.tdiv_eq_ediv_of_nonneg h]
    have h1 : 0 ≤ x / y := Int.ediv_nonneg h (by omega)
    have h2 : x / y ≤ x := Int.ediv_le_self y h
    have h3 : x / y * y ≤ x := Int.ediv_mul_le x (by omega)
    have h4 : 0 ≤ x / y * y := Int.mul_nonneg h1 (by omega)
    omega
  · have e : x.tdiv y = -((-x) / y) := by
      rw [← Int.tdiv_eq_ediv_of_nonneg (by omega), Int.neg_tdiv, Int.neg_neg]
    rw [e, Int.neg_mul]
    have h1 : 0 ≤ (-x) / y := Int.ediv_nonneg (by omega) (by omega)
    have h2 : (-x) / y ≤ -x := Int.ediv_le_self y (by omega)
    have h3 : (-x) / y * y ≤ -x := Int.ediv_mul_le (-x) (by omega)
    have h4 : 0 ≤ (-x) / y * y := Int.mul_nonneg h1 (by omega)
    omega
theorem kag {v lo hi n a first down up nodes q : Int} (hn : 1 ≤ n) (hv : lo ≤ v ∧ v ≤ hi) (hd : down = (v - lo) / n) (hu : up = (hi - v) / n) (hf : first = v - down * n) (hN : nodes = down + up + 1) (ha : lo ≤ a ∧ a ≤ hi) (hq : a - first = q * n) : 0 ≤ q ∧ q < nodes := by
  have e1 := Int.mul_ediv_add_emod (v - lo) n
  have e2 := Int.mul_ediv_add_emod (hi - v) n
  have b1 := Int.emod_lt_of_pos (v - lo) (show 0 < n by omega)
  have b2 := Int.emod_nonneg (v - lo) (show n ≠ 0 by omega)
  have b3 := Int.emod_lt_of_pos (hi - v) (show 0 < n by omega)
  have b4 := Int.emod_nonneg (hi - v) (show n ≠ 0 by omega)
  rw [← hd, Int.mul_comm] at e1
  rw [← hu, Int.mul_comm] at e2
  have h1 : -n < q * n := by omega
  have h2 : q * n < (down + up + 1) * n := by rw [Int.add_mul, Int.add_mul, Int.one_mul]; omega
  constructor
  · by_cases g : 0 ≤ q
    · exact g
    · exfalso
      have : q * n ≤ (-1) * n := Int.mul_le_mul_of_nonneg_right (by omega) (by omega)
      omega
  · rw [hN]
    exact Int.lt_of_mul_lt_mul_right h2 (by omega)
theorem kvg {v lo hi n first down up nodes d : Int} (hn : 1 ≤ n) (hv : lo ≤ v ∧ v ≤ hi) (hd : down = (v - lo) / n) (hu : up = (hi - v) / n) (hf : first = v - down * n) (hN : nodes = down + up + 1) (h : 0 ≤ d ∧ d < nodes) : lo ≤ first + n * d ∧ first + n * d ≤ hi := by
  have e1 := Int.mul_ediv_add_emod (v - lo) n
  have e2 := Int.mul_ediv_add_emod (hi - v) n
  have b2 := Int.emod_nonneg (v - lo) (show n ≠ 0 by omega)
  have b4 := Int.emod_nonneg (hi - v) (show n ≠ 0 by omega)
  rw [← hd, Int.mul_comm] at e1
  rw [← hu, Int.mul_comm] at e2
  have h1 : 0 ≤ n * d := Int.mul_nonneg (by omega) h.1
  have h2 : n * d ≤ n * (down + up) := Int.mul_le_mul_of_nonneg_left (by omega) (by omega)
  rw [Int.mul_add, Int.mul_comm n down, Int.mul_comm n up] at h2
  omega
theorem kpb {f : Int → Int} {m j : Int} (hm : 0 ≤ m) (hj : 0 ≤ j ∧ j ≤ m) (hN : ∀ k, 0 ≤ k → k < m → 1 ≤ f k ∧ f k ≤ 200001) (hP : kpr f m.toNat ≤ 1000) : 1 ≤ kpr f j.toNat ∧ kpr f j.toNat ≤ 1000 := by
  have h1 := kprp (f := f) (n := j.toNat) (fun k g1 g2 => (hN k g1 (by omega)).1)
  have h2 := kprl (f := f) (m := j.toNat) (n := m.toNat) (by omega) (fun k g1 g2 => (hN k g1 (by omega)).1)
  omega
section D9r
variable {fd : Nat} {lay : List eY} {code : Nat → Nat → eE} {I : Nat → xM} {d M p : Nat} {l : eL} {w : eW} {Q : List eV → eW → Prop} {a b : Nat}
theorem e_Ok.kremd {nx : Nat} {r : List eV} {x y : Int} (hc : code M p = (0, ei_bin eF_rem nx, a, b)) (hx : -1000000 ≤ x ∧ x ≤ 1000000) (hy : 1 ≤ y) (h : ∀ z, (z = 0 ↔ ∃ q, x = q * y) → -2147483648 ≤ z → z ≤ 2147483647 → e_Ok fd lay code I d M (nx, l, (0, z) :: r, w) Q) : e_Ok fd lay code I d M (p, l, (0, y) :: (0, x) :: r, w) Q := by
  have hb := krd hx hy
  have e : eF_rem x y = some (e32 (x - x.tdiv y * y)) := by
    unfold eF_rem
    rw [decide_eq_false (by omega), e32_id (z := x.tdiv y) (by omega) (by omega), e32_id (z := x.tdiv y * y) (by omega) (by omega)]
    rfl
  refine e_Ok.step hc ?_ (h (e32 (x - x.tdiv y * y)) ⟨fun q => ?_, fun q => ?_⟩ (e32_in _).1 (e32_in _).2)
  · show (match eF_rem x y with | some z => _ | none => none) = _
    rw [e]
  · rw [e32_id (by omega) (by omega)] at q
    exact ⟨x.tdiv y, by omega⟩
  · obtain ⟨q, rfl⟩ := q
    rw [Int.mul_tdiv_cancel q (by omega), Int.sub_self]
    exact e32_id (by decide) (by decide)
theorem e_Ok.divq {nx : Nat} {r : List eV} {x y q : Int} (hc : code M p = (0, ei_bin eF_div nx, a, b)) (hx : -1000000 ≤ x ∧ x ≤ 1000000) (hy : 1 ≤ y) (hq : x = q * y) (h : e_Ok fd lay code I d M (nx, l, (0, q) :: r, w) Q) : e_Ok fd lay code I d M (p, l, (0, y) :: (0, x) :: r, w) Q := by
  have hb := krd hx hy
  have e0 : x.tdiv y = q := by rw [hq]; exact Int.mul_tdiv_cancel q (by omega)
  have e : eF_div x y = some q := by
    unfold eF_div
    rw [decide_eq_false (by omega), e0, e32_id (by omega) (by omega)]
    rfl
  refine e_Ok.step hc ?_ h
  show (match eF_div x y with | some z => _ | none => none) = _
  rw [e]
end D9r
theorem kpr_cg {f g : Int → Int} : ∀ {n : Nat}, (∀ k : Int, 0 ≤ k → k < n → f k = g k) → kpr f n = kpr g n
  | 0, _ => rfl
  | n + 1, h => by
    show kpr f n * f n = kpr g n * g n
    rw [kpr_cg (n := n) (fun k g1 g2 => h k g1 (by omega)), h n (by omega) (by omega)]
theorem ksm_cg {f g d e : Int → Int} : ∀ {n : Nat}, (∀ k : Int, 0 ≤ k → k < n → f k = g k ∧ d k = e k) → ksm f d n = ksm g e n
  | 0, _ => rfl
  | n + 1, h => by
    show ksm f d n + kpr f n * d n = ksm g e n + kpr g n * e n
    rw [ksm_cg (n := n) (fun k g1 g2 => h k g1 (by omega)), (h n (by omega) (by omega)).2, kpr_cg (n := n) (fun k g1 g2 => (h k g1 (by omega)).1)]
end
end
-- part da
section
noncomputable section
/-! the class: the nodes of a plan -/
def kLy (c k : Int) : Prop := (c = 262 ∧ 1 ≤ k ∧ k ≤ 3) ∨ (263 ≤ c ∧ c ≤ 266)
def kJv (a m : Int) (c k : Int) : Prop := 17 * a + 97 ≤ c ∧ c < 17 * a + m + 97 ∧ k = 7
section Da
variable {w w' : eW}
theorem mulb {x y A B : Int} (hx : 0 ≤ x ∧ x ≤ A) (hy : 0 ≤ y ∧ y ≤ B) : 0 ≤ x * y ∧ x * y ≤ A * B := ⟨Int.mul_nonneg hx.1 hy.1, Int.mul_le_mul hx.2 hy.2 hy.1 (by omega)⟩
/-- a joint of a plan: its grid -/
def lyJ (w : eW) (a n j : Int) : Prop := (w (17 * a + j + 97) 1 ≤ w 263 j ∧ w 263 j ≤ w (17 * a + j + 97) 2) ∧ (-100000 ≤ w (17 * a + j + 97) 1 ∧ w (17 * a + j + 97) 2 ≤ 100000) ∧ w 264 j = (w 263 j - w (17 * a + j + 97) 1) / n ∧ w 265 j = w 264 j + (w (17 * a + j + 97) 2 - w 263 j) / n + 1 ∧ w 266 j = kpr (w 265) j.toNat
def lyI (w : eW) (a n m : Int) : Prop := ((1 ≤ n ∧ n ≤ 16) ∧ (0 ≤ m ∧ m ≤ 6) ∧ w (17 * a + 86) 8 = m ∧ w 262 1 = n ∧ kn1 (w 262 2)) ∧ w 262 3 = ksm (w 265) (w 264) m.toNat ∧ kpr (w 265) m.toNat ≤ 1000 ∧ ∀ j, 0 ≤ j → j < m → lyJ w a n j
theorem lyJ.eq {a n j : Int} (h : ∀ c k, ((263 ≤ c ∧ c ≤ 266) ∧ 0 ≤ k ∧ k ≤ j) ∨ (c = 17 * a + j + 97 ∧ (k = 1 ∨ k = 2)) → w' c k = w c k) (hj : 0 ≤ j) (q : lyJ w a n j) : lyJ w' a n j := by
  unfold lyJ at q ⊢
  rw [h 263 j (by omega), h 264 j (by omega), h 265 j (by omega), h 266 j (by omega), h (17 * a + j + 97) 1 (by omega), h (17 * a + j + 97) 2 (by omega), kpr_cg (f := w' 265) (g := w 265) (fun k g1 g2 => h 265 k (by omega))]
  exact q
theorem lyJ.bd {a n j : Int} (hn : 1 ≤ n ∧ n ≤ 16) (q : lyJ w a n j) : (0 ≤ w 264 j ∧ w 264 j ≤ 200000) ∧ (1 ≤ w 265 j ∧ w 265 j ≤ 200001) ∧ w 264 j < w 265 j ∧ (-100000 ≤ w 263 j ∧ w 263 j ≤ 100000) := by
  obtain ⟨q1, q2, q3, q4, -⟩ := q
  have h1 : 0 ≤ (w 263 j - w (17 * a + j + 97) 1) / n := Int.ediv_nonneg (by omega) (by omega)
  have h2 : (w 263 j - w (17 * a + j + 97) 1) / n ≤ w 263 j - w (17 * a + j + 97) 1 := Int.ediv_le_self n (by omega)
  have h3 : 0 ≤ (w (17 * a + j + 97) 2 - w 263 j) / n := Int.ediv_nonneg (by omega) (by omega)
  have h4 : (w (17 * a + j + 97) 2 - w 263 j) / n ≤ w (17 * a + j + 97) 2 - w 263 j := Int.ediv_le_self n (by omega)
  omega
theorem lyI.eq {a n m : Int} (h : ∀ c k, (c = 262 ∧ 1 ≤ k ∧ k ≤ 3) ∨ (263 ≤ c ∧ c ≤ 266) ∨ (c = 17 * a + 86 ∧ k = 8) ∨ (17 * a + 97 ≤ c ∧ c ≤ 17 * a + 102 ∧ (k = 1 ∨ k = 2)) → w' c k = w c k) (q : lyI w a n m) : lyI w' a n m := by
  obtain ⟨q1, q2, q3, q4⟩ := q
  have e5 : w' 265 = w 265 := funext (fun k => h 265 k (by omega))
  have e4 : w' 264 = w 264 := funext (fun k => h 264 k (by omega))
  refine ⟨?_, by rw [h 262 3 (by omega), e5, e4]; exact q2, by rw [e5]; exact q3, fun j g1 g2 => (q4 j g1 g2).eq (fun c k g => h c k (by omega)) g1⟩
  rw [h (17 * a + 86) 8 (by omega), h 262 1 (by omega), h 262 2 (by omega)]
  exact q1
theorem lyI.str {a n m j : Int} (q : lyI w a n m) (hj : 0 ≤ j ∧ j < m) : (1 ≤ w 266 j ∧ w 266 j ≤ 1000) ∧ w 266 j = kpr (w 265) j.toNat := by
  have hq := (q.2.2.2 j hj.1 hj.2).2.2.2.2
  have z := kpb (f := w 265) (m := m) (j := j) (by omega) (by omega) (fun k g1 g2 => by have z := (q.2.2.2 k g1 g2).bd q.1.1; omega) q.2.2.1
  rw [hq]
  exact ⟨z, rfl⟩
theorem lyI.one {a n m : Int} (q : lyI w a n m) : ∀ k : Int, 0 ≤ k → k < (m.toNat : Int) → 1 ≤ w 265 k := fun k g1 g2 => by
  have z := (q.2.2.2 k g1 (by omega)).bd q.1.1
  omega
/-- where the arm stands, is a node -/
theorem lyI.og {a n m : Int} (q : lyI w a n m) : (0 ≤ w 262 3 ∧ w 262 3 < kpr (w 265) m.toNat) ∧ ∀ j, 0 ≤ j → j < m → kdg (w 265) (w 262 3) j.toNat = w 264 j := by
  have hd : ∀ k : Int, 0 ≤ k → k < (m.toNat : Int) → 0 ≤ w 264 k ∧ w 264 k < w 265 k := fun k g1 g2 => by
    have z := (q.2.2.2 k g1 (by omega)).bd q.1.1
    omega
  rw [q.2.1]
  refine ⟨ksmi hd, fun j g1 g2 => ?_⟩
  have z := ksmd (f := w 265) (d := w 264) (j := j.toNat) (n := m.toNat) (by omega) hd
  rw [show ((j.toNat : Nat) : Int) = j by omega] at z
  exact z
/-- the value of the joint j at a node -/
def tvV (w : eW) (n x j : Int) : Int := w 263 j + (kdg (w 265) x j.toNat - w 264 j) * n
theorem lyI.val {a n m x j : Int} (q : lyI w a n m) (hj : 0 ≤ j ∧ j < m) : w (17 * a + j + 97) 1 ≤ tvV w n x j ∧ tvV w n x j ≤ w (17 * a + j + 97) 2 := by
  have z := q.2.2.2 j hj.1 hj.2
  have zb := z.bd q.1.1
  obtain ⟨z1, z2, z3, z4, -⟩ := z
  have hd := kdgi (f := w 265) (x := x) (j := j.toNat) (by rw [show ((j.toNat : Nat) : Int) = j by omega]; omega)
  rw [show ((j.toNat : Nat) : Int) = j by omega] at hd
  have g := kvg (v := w 263 j) (lo := w (17 * a + j + 97) 1) (hi := w (17 * a + j + 97) 2) (n := n) (first := w 263 j - w 264 j * n) (down := w 264 j) (up := (w (17 * a + j + 97) 2 - w 263 j) / n) (nodes := w 265 j) (d := kdg (w 265) x j.toNat) q.1.1.1 z1 z3 rfl rfl z4 hd
  have e : tvV w n x j = w 263 j - w 264 j * n + n * kdg (w 265) x j.toNat := by
    unfold tvV
    rw [Int.sub_mul, Int.mul_comm n]
    omega
  rw [e]
  exact g
theorem lyI.ogv {a n m j : Int} (q : lyI w a n m) (hj : 0 ≤ j ∧ j < m) : tvV w n (w 262 3) j = w 263 j := by
  unfold tvV
  rw [q.og.2 j hj.1 hj.2, Int.sub_self, Int.zero_mul]
  omega
end Da
theorem nb_fin {w : eW} {a n m x s j z d : Int} (hL : lyI w a n m) (gx : 0 ≤ x ∧ x < kpr (w 265) m.toNat) (gs : 0 ≤ s ∧ s < 2 * m) (hj : j = s / 2) (hd : d = kdg (w 265) x j.toNat) (h : (s % 2 = 0 ∧ z = x + w 266 j ∧ d + 1 < w 265 j) ∨ (s % 2 = 1 ∧ z = x - w 266 j ∧ 0 < d)) : (0 ≤ z ∧ z < kpr (w 265) m.toNat) ∧ kln (w 265) x z s := by
  have hs := (hL.str (j := j) (by omega)).2
  have e2 : ((j.toNat : Nat) : Int) = j := by omega
  have hl : kln (w 265) x z s := by
    unfold kln
    rw [← hj]
    rcases h with ⟨h1, h2, h3⟩ | ⟨h1, h2, h3⟩
    · exact Or.inl ⟨h1, by rw [← hs]; exact h2, by rw [← hd]; exact h3⟩
    · exact Or.inr ⟨h1, by rw [← hs]; exact h2, by rw [← hd]; exact h3⟩
  have hm := hL.1.2.1
  exact ⟨hl.in (n := m.toNat) (by omega) hL.one gx, hl⟩
def qN (w : eW) (n j : Int) : Int := w 264 j + (w 272 j - w 263 j) / n
theorem no_q {w : eW} {a n m j q f : Int} (hL : lyI w a n m) (hj : 0 ≤ j ∧ j < m) (hlo : w (17 * a + j + 97) 1 ≤ w 272 j) (hhi : w 272 j ≤ w (17 * a + j + 97) 2) (hq : f = q * w 262 1) (hf : f = w 272 j - w 263 j) : (0 ≤ w 264 j + q ∧ w 264 j + q < w 265 j) ∧ w 264 j + q = qN w n j := by
  obtain ⟨z1, z2, z3, z4, -⟩ := hL.2.2.2 j hj.1 hj.2
  have hn := hL.1.1
  rw [hL.1.2.2.2.1] at hq
  refine ⟨kag (v := w 263 j) (lo := w (17 * a + j + 97) 1) (hi := w (17 * a + j + 97) 2) (n := n) (a := w 272 j) (first := w 263 j - w 264 j * n) (down := w 264 j) (up := (w (17 * a + j + 97) 2 - w 263 j) / n) (nodes := w 265 j) hn.1 z1 z3 rfl rfl z4 ⟨hlo, hhi⟩ (by rw [Int.add_mul]; omega), ?_⟩
  unfold qN
  rw [← hf, hq, Int.mul_ediv_cancel q (by omega)]
theorem no_st {w : eW} {a n m j y : Int} (hL : lyI w a n m) (hj : 0 ≤ j ∧ j < m) (hy : y = ksm (w 265) (qN w n) j.toNat) (hq : ∀ i, 0 ≤ i → i < j + 1 → 0 ≤ qN w n i ∧ qN w n i < w 265 i) : y + qN w n j * w 266 j = ksm (w 265) (qN w n) (j + 1).toNat ∧ y + qN w n j * w 266 j < 1000 := by
  have e1 : (j + 1).toNat = j.toNat + 1 := by omega
  have e2 : ((j.toNat : Nat) : Int) = j := by omega
  have e : y + qN w n j * w 266 j = ksm (w 265) (qN w n) (j + 1).toNat := by
    rw [e1]
    show _ = ksm (w 265) (qN w n) j.toNat + kpr (w 265) j.toNat * qN w n (j.toNat : Int)
    rw [e2, (hL.str hj).2, ← hy, Int.mul_comm]
  refine ⟨e, ?_⟩
  rw [e]
  have h1 := (ksmi (f := w 265) (d := qN w n) (n := (j + 1).toNat) (fun k g1 g2 => hq k g1 (by omega))).2
  have h2 := kprl (f := w 265) (m := (j + 1).toNat) (n := m.toNat) (by omega) hL.one
  have h3 := hL.2.2.1
  omega
theorem no_da_0 {a : Int} (ha : 0 ≤ a ∧ a ≤ 3) : ¬ kLy (17 * a + 86) 8 := by unfold kLy; omega
theorem no_da_1 {a : Int} (ha : 0 ≤ a ∧ a ≤ 3) : ¬ kLy (17 * a + 86) 0 := by unfold kLy; omega
theorem no_da_2 : ¬ kLy 262 4 := by unfold kLy; omega
theorem no_da_3 : ¬ kLy 262 5 := by unfold kLy; omega
theorem no_da_4 : ¬ kLy 262 6 := by unfold kLy; omega
theorem no_da_5 : ¬ kLy 262 7 := by unfold kLy; omega
set_option maxHeartbeats 4000000 in
theorem c_98 {d : Nat} {w : eW} (hT : e_Has kTy w) {a n r : Int} (ga : 0 ≤ a ∧ a ≤ 3) (gn : 1 ≤ n ∧ n ≤ 16) (gr : -2147483648 ≤ r ∧ r ≤ 2147483647) (hv : ∀ j, 0 ≤ j → j < w (17 * a + 86) 8 → (-100000 ≤ w (17 * a + j + 97) 1 ∧ w (17 * a + j + 97) 2 ≤ 100000) ∧ w (17 * a + j + 97) 1 ≤ w (17 * a + j + 97) 7 ∧ w (17 * a + j + 97) 7 ≤ w (17 * a + j + 97) 2) : e_Ok 20 elay kcode eI d 98 (0, [(0, (1, 262)), (1, (1, 17 * a + 86)), (2, (0, n)), (3, (0, r))], [], w) (fun r' w' => ∃ z : Int, r' = [(0, z)] ∧ e_fr kLy w w' ∧ e_Has kTy w' ∧ (0 ≤ z ∧ z ≤ 1) ∧ (z = 1 → lyI w' a n (w (17 * a + 86) 8) ∧ ∀ j, 0 ≤ j → j < w (17 * a + 86) 8 → w' 263 j = w (17 * a + j + 97) 7)) := by
  have hjn := kn_joints hT (a := a) (by omega)
  refine e_Ok.ps2 (x := (0, 1)) (y := (0, n)) (q := 2) 2 rfl ?_
  refine e_Ok.if2 rfl (fun h1 => ?_) (fun h1 => ?_)
  · replace h1 : (n : Int) ≥ 1 := h1
    refine e_Ok.ps2 (x := (0, n)) (y := (1, 262)) (q := 9) 2 rfl ?_
    refine e_Ok.putf rfl (el_o rfl) rfl rfl ?_
    generalize hw2 : e_up w 262 1 n = w2
    have hT4 : e_Has kTy w2 := e_Has.ups hT hw2 (kt_o rfl)
    refine e_Ok.ps2 (x := (0, r)) (y := (1, 262)) (q := 14) 2 rfl ?_
    refine e_Ok.putf rfl (el_o rfl) rfl rfl ?_
    generalize hw5 : e_up w2 262 2 r = w5
    have hT7 : e_Has kTy w5 := e_Has.ups hT4 hw5 (kt_o rfl)
    refine e_Ok.ps2 (x := (0, 0)) (y := (1, 262)) (q := 19) 2 rfl ?_
    refine e_Ok.putf rfl (el_o rfl) rfl rfl ?_
    generalize hw8 : e_up w5 262 3 0 = w8
    have hT10 : e_Has kTy w8 := e_Has.ups hT7 hw8 (kt_o rfl)
    refine e_Ok.run (t' := (28, [(5, (0, 0)), (4, (0, 1)), (0, (1, 262)), (1, (1, 17 * a + 86)), (2, (0, n)), (3, (0, r))], [], w8)) 4 rfl ?_
    have hL11 : ∀ (nn : Nat) (y4 : Int) (y5 : Int) (v1 : eW), e_fr kLy w v1 ∧ e_Has kTy v1 ∧ (∀ i, 0 ≤ i → i < y5 → lyJ v1 a n i) ∧ y4 = kpr (v1 265) y5.toNat ∧ v1 262 3 = ksm (v1 265) (v1 264) y5.toNat ∧ ((0 ≤ v1 262 3 ∧ v1 262 3 ≤ 200000000 * y5)) ∧ v1 262 1 = n ∧ v1 262 2 = r ∧ ((1 ≤ y4 ∧ y4 ≤ 1000)) ∧ ((0 ≤ y5 ∧ y5 ≤ w (17 * a + 86) 8)) ∧ (∀ i, 0 ≤ i → i < y5 → v1 263 i = w (17 * a + i + 97) 7) → 6 - y5 < nn → e_Ok 20 elay kcode eI d 98 (28, [(0, (1, 262)), (1, (1, 17 * a + 86)), (2, (0, n)), (3, (0, r)), (4, (0, y4)), (5, (0, y5))], [], v1) (fun r' w' => ∃ z : Int, r' = [(0, z)] ∧ e_fr kLy w w' ∧ e_Has kTy w' ∧ (0 ≤ z ∧ z ≤ 1) ∧ (z = 1 → lyI w' a n (w (17 * a + 86) 8) ∧ ∀ j, 0 ≤ j → j < w (17 * a + 86) 8 → w' 263 j = w (17 * a + j + 97) 7)) := by
      intro nn
      induction nn with
      | zero => intro y4 y5 v1 hj hm; obtain ⟨j13, j14, j15, j16, j17, j18, j19, j20, j21, j22, j23⟩ := hj; exfalso; omega
      | succ nn ih12 =>
        intro y4 y5 v1 hj hm
        obtain ⟨j13, j14, j15, j16, j17, j18, j19, j20, j21, j22, j23⟩ := hj
        refine e_Ok.run (t' := (31, [(0, (1, 262)), (1, (1, 17 * a + 86)), (2, (0, n)), (3, (0, r)), (4, (0, y4)), (5, (0, y5))], [(1, 17 * a + 86), (0, y5)], v1)) 2 rfl ?_
        have h24 := (e_Has.get hT (c := 17 * a + 86) (k := 8) (lo := 0) (hi := 6) (kA_8 (a := a) rfl ga) (by decide))
        refine e_Ok.getf (z := w (17 * a + 86) 8) rfl (lA0 (a := a) rfl ga) rfl rfl ((j13 (17 * a + 86) 8 (by first | exact no_da_0 (by omega) | (unfold kLy; omega))).trans rfl) (e_bq h24 (by decide) (by decide)) ?_
        refine e_Ok.if2 rfl (fun h25 => ?_) (fun h25 => ?_)
        · replace h25 : (y5 : Int) ≥ w (17 * a + 86) 8 := h25
          refine e_Ok.ps1 (x := (0, 1)) (q := 165) 1 rfl ?_
          refine e_Ok.rets rfl rfl ?_
          have hm : y5 = w (17 * a + 86) 8 := by omega
          exact ⟨_, rfl, j13, j14, by omega, fun _ => ⟨⟨⟨by omega, by omega, j13 _ _ (by unfold kLy; omega), j19, by rw [j20]; unfold kn1; omega⟩, by rw [← hm]; exact j17, by rw [← hm, ← j16]; omega, fun j g1 g2 => j15 j g1 (by omega)⟩, fun j g1 g2 => j23 j g1 (by omega)⟩⟩
        · replace h25 : (y5 : Int) < w (17 * a + 86) 8 := Int.not_le.mp (show ¬ ((y5 : Int) ≥ w (17 * a + 86) 8) from h25)
          have hv5 := hv y5 (by omega) (by omega)
          refine e_Ok.ps1 (x := (1, 17 * a + 86)) (q := 38) 1 rfl ?_
          refine e_Ok.getr (z := 17 * a + 87) rfl (lA0 (a := a) rfl ga) rfl rfl ((j13 (17 * a + 86) 0 (by first | exact no_da_1 (by omega) | (unfold kLy; omega))).trans (Eq.trans (e_Has.eq hT (kA_0 (a := a) rfl ga)) (by omega))) (by omega) ?_
          refine e_Ok.ps1 (x := (0, y5)) (q := 43) 1 rfl ?_
          refine e_Ok.aald (z := 17 * a + y5 + 97) rfl (lA1 (a := a) rfl ga) rfl (by omega) ((j13 (17 * a + 87) y5 (by unfold kLy; omega)).trans (Eq.trans (e_Has.eq hT (kA87 (a := a) rfl ga (by omega))) (by omega))) (by omega) ?_
          refine e_Ok.run (t' := (47, [(6, (1, 17 * a + y5 + 97)), (0, (1, 262)), (1, (1, 17 * a + 86)), (2, (0, n)), (3, (0, r)), (4, (0, y4)), (5, (0, y5))], [(1, 262)], v1)) 2 rfl ?_
          refine e_Ok.getr (z := 263) rfl (el_o rfl) rfl rfl ((j13 262 4 no_da_2).trans (e_Has.eq hT (kt_o rfl))) ⟨by decide, by decide⟩ ?_
          refine e_Ok.ps2 (x := (1, 17 * a + y5 + 97)) (y := (0, y5)) (q := 54) 2 rfl ?_
          refine e_Ok.getf (z := w (17 * a + y5 + 97) 7) rfl (lJ (a := a) (j := y5) (by omega) (by omega) (by omega)) rfl rfl ((j13 (17 * a + y5 + 97) 7 (by unfold kLy; omega)).trans rfl) (by omega) ?_
          refine e_Ok.ast rfl (el_o rfl) rfl rfl (by omega) ?_
          generalize hw26 : e_up v1 263 y5 (w (17 * a + y5 + 97) 7) = w26
          have hT28 : e_Has kTy w26 := e_Has.ups j14 hw26 rfl
          refine e_Ok.ps1 (x := (1, 262)) (q := 59) 1 rfl ?_
          refine e_Ok.getr (z := 264) rfl (el_o rfl) rfl rfl (e_uq hw26 (Or.inl (by decide)) ((j13 262 5 no_da_3).trans (e_Has.eq hT (kt_o rfl)))) ⟨by decide, by decide⟩ ?_
          refine e_Ok.ps2 (x := (1, 17 * a + y5 + 97)) (y := (0, y5)) (q := 66) 2 rfl ?_
          refine e_Ok.getf (z := w (17 * a + y5 + 97) 7) rfl (lJ (a := a) (j := y5) (by omega) (by omega) (by omega)) rfl rfl (e_uq hw26 (Or.inl (by omega)) ((j13 (17 * a + y5 + 97) 7 (by unfold kLy; omega)).trans rfl)) (by omega) ?_
          refine e_Ok.ps1 (x := (1, 17 * a + y5 + 97)) (q := 71) 1 rfl ?_
          refine e_Ok.getf (z := w (17 * a + y5 + 97) 1) rfl (lJ (a := a) (j := y5) (by omega) (by omega) (by omega)) rfl rfl (e_uq hw26 (Or.inl (by omega)) ((j13 (17 * a + y5 + 97) 1 (by unfold kLy; omega)).trans rfl)) (by omega) ?_
          refine e_Ok.sub' (z := w (17 * a + y5 + 97) 7 - w (17 * a + y5 + 97) 1) rfl rfl (by omega) ?_
          refine e_Ok.ps1 (x := (0, n)) (q := 76) 1 rfl ?_
          refine e_Ok.divn (fun z29 hz29 => ?_) rfl (by omega) (by omega)
          replace hz29 : z29 = (w (17 * a + y5 + 97) 7 - w (17 * a + y5 + 97) 1) / n := hz29
          have z29r : 0 ≤ z29 ∧ z29 ≤ w (17 * a + y5 + 97) 7 - w (17 * a + y5 + 97) 1 := by have g1 : 0 ≤ (w (17 * a + y5 + 97) 7 - w (17 * a + y5 + 97) 1) / n := Int.ediv_nonneg (by omega) (by omega); have g2 : (w (17 * a + y5 + 97) 7 - w (17 * a + y5 + 97) 1) / n ≤ w (17 * a + y5 + 97) 7 - w (17 * a + y5 + 97) 1 := Int.ediv_le_self n (by omega); omega
          refine e_Ok.ast rfl (el_o rfl) rfl rfl (by omega) ?_
          generalize hw30 : e_up w26 264 y5 z29 = w30
          have hT32 : e_Has kTy w30 := e_Has.ups hT28 hw30 (kt_o rfl)
          refine e_Ok.ps1 (x := (1, 262)) (q := 79) 1 rfl ?_
          refine e_Ok.getr (z := 265) rfl (el_o rfl) rfl rfl (e_uq hw30 (Or.inl (by decide)) (e_uq hw26 (Or.inl (by decide)) ((j13 262 6 no_da_4).trans (e_Has.eq hT (kt_o rfl))))) ⟨by decide, by decide⟩ ?_
          refine e_Ok.ps2 (x := (1, 262)) (y := (0, y5)) (q := 85) 2 rfl ?_
          refine e_Ok.getr (z := 264) rfl (el_o rfl) rfl rfl (e_uq hw30 (Or.inl (by decide)) (e_uq hw26 (Or.inl (by decide)) ((j13 262 5 no_da_3).trans (e_Has.eq hT (kt_o rfl))))) ⟨by decide, by decide⟩ ?_
          refine e_Ok.ps1 (x := (0, y5)) (q := 90) 1 rfl ?_
          refine e_Ok.ald (z := z29) rfl (el_o rfl) rfl (by omega) (e_ue hw30) (by omega) ?_
          refine e_Ok.ps1 (x := (1, 17 * a + y5 + 97)) (q := 93) 1 rfl ?_
          refine e_Ok.getf (z := w (17 * a + y5 + 97) 2) rfl (lJ (a := a) (j := y5) (by omega) (by omega) (by omega)) rfl rfl (e_uq hw30 (Or.inl (by omega)) (e_uq hw26 (Or.inl (by omega)) ((j13 (17 * a + y5 + 97) 2 (by unfold kLy; omega)).trans rfl))) (by omega) ?_
          refine e_Ok.ps1 (x := (1, 17 * a + y5 + 97)) (q := 98) 1 rfl ?_
          refine e_Ok.getf (z := w (17 * a + y5 + 97) 7) rfl (lJ (a := a) (j := y5) (by omega) (by omega) (by omega)) rfl rfl (e_uq hw30 (Or.inl (by omega)) (e_uq hw26 (Or.inl (by omega)) ((j13 (17 * a + y5 + 97) 7 (by unfold kLy; omega)).trans rfl))) (by omega) ?_
          refine e_Ok.sub' (z := w (17 * a + y5 + 97) 2 - w (17 * a + y5 + 97) 7) rfl rfl (by omega) ?_
          refine e_Ok.ps1 (x := (0, n)) (q := 103) 1 rfl ?_
          refine e_Ok.divn (fun z33 hz33 => ?_) rfl (by omega) (by omega)
          replace hz33 : z33 = (w (17 * a + y5 + 97) 2 - w (17 * a + y5 + 97) 7) / n := hz33
          have z33r : 0 ≤ z33 ∧ z33 ≤ w (17 * a + y5 + 97) 2 - w (17 * a + y5 + 97) 7 := by have g1 : 0 ≤ (w (17 * a + y5 + 97) 2 - w (17 * a + y5 + 97) 7) / n := Int.ediv_nonneg (by omega) (by omega); have g2 : (w (17 * a + y5 + 97) 2 - w (17 * a + y5 + 97) 7) / n ≤ w (17 * a + y5 + 97) 2 - w (17 * a + y5 + 97) 7 := Int.ediv_le_self n (by omega); omega
          refine e_Ok.add (z := z29 + z33) rfl (by omega) (by omega) ?_
          refine e_Ok.ps1 (x := (0, 1)) (q := 106) 1 rfl ?_
          refine e_Ok.add (z := z29 + z33 + 1) rfl rfl (by omega) ?_
          refine e_Ok.ast rfl (el_o rfl) rfl rfl (by omega) ?_
          generalize hw34 : e_up w30 265 y5 (z29 + z33 + 1) = w34
          have hT36 : e_Has kTy w34 := e_Has.ups hT32 hw34 (kt_o rfl)
          refine e_Ok.ps1 (x := (1, 262)) (q := 109) 1 rfl ?_
          refine e_Ok.getr (z := 266) rfl (el_o rfl) rfl rfl (e_uq hw34 (Or.inl (by decide)) (e_uq hw30 (Or.inl (by decide)) (e_uq hw26 (Or.inl (by decide)) ((j13 262 7 no_da_5).trans (e_Has.eq hT (kt_o rfl)))))) ⟨by decide, by decide⟩ ?_
          refine e_Ok.ps2 (x := (0, y4)) (y := (0, y5)) (q := 116) 2 rfl ?_
          refine e_Ok.ast rfl (el_o rfl) rfl rfl (by omega) ?_
          generalize hw37 : e_up w34 266 y5 y4 = w37
          have hT40 : e_Has kTy w37 := e_Has.ups hT36 hw37 (kt_o rfl)
          refine e_Ok.ps2 (x := (1, 262)) (y := (1, 262)) (q := 119) 2 rfl ?_
          refine e_Ok.getf (z := v1 262 3) rfl (el_o rfl) rfl rfl (e_uq hw37 (Or.inl (by decide)) (e_uq hw34 (Or.inl (by decide)) (e_uq hw30 (Or.inl (by decide)) (e_uq hw26 (Or.inl (by decide)) rfl)))) (by omega) ?_
          refine e_Ok.ps1 (x := (1, 262)) (q := 123) 1 rfl ?_
          refine e_Ok.getr (z := 264) rfl (el_o rfl) rfl rfl (e_uq hw37 (Or.inl (by decide)) (e_uq hw34 (Or.inl (by decide)) (e_uq hw30 (Or.inl (by decide)) (e_uq hw26 (Or.inl (by decide)) ((j13 262 5 no_da_3).trans (e_Has.eq hT (kt_o rfl))))))) ⟨by decide, by decide⟩ ?_
          refine e_Ok.ps1 (x := (0, y5)) (q := 128) 1 rfl ?_
          refine e_Ok.ald (z := z29) rfl (el_o rfl) rfl (by omega) (e_uq hw37 (Or.inl (by decide)) (e_uq hw34 (Or.inl (by decide)) (e_ue hw30))) (by omega) ?_
          refine e_Ok.ps1 (x := (0, y4)) (q := 131) 1 rfl ?_
          have hm41 := mulb (x := z29) (y := y4) (A := 200000) (B := 1000) (by omega) (by omega)
          refine e_Ok.mul (z := z29 * y4) rfl rfl (by omega) ?_
          refine e_Ok.add (z := v1 262 3 + z29 * y4) rfl rfl (by omega) ?_
          refine e_Ok.putf rfl (el_o rfl) rfl rfl ?_
          generalize hw42 : e_up w37 262 3 (v1 262 3 + z29 * y4) = w42
          have f43 : e_fr kLy w w42 := e_fr.up (show e_fr kLy w w37 from e_fr.up (show e_fr kLy w w34 from e_fr.up (show e_fr kLy w w30 from e_fr.up (show e_fr kLy w w26 from e_fr.up j13 hw26 (by first | exact Or.inr ⟨(by decide), (by decide)⟩ | (unfold kLy; omega))) hw30 (by first | exact Or.inr ⟨(by decide), (by decide)⟩ | (unfold kLy; omega))) hw34 (by first | exact Or.inr ⟨(by decide), (by decide)⟩ | (unfold kLy; omega))) hw37 (by first | exact Or.inr ⟨(by decide), (by decide)⟩ | (unfold kLy; omega))) hw42 (by first | exact Or.inl ⟨rfl, ⟨(by decide), (by decide)⟩⟩ | (unfold kLy; omega))
          have hT44 : e_Has kTy w42 := e_Has.ups hT40 hw42 (kt_o rfl)
          refine e_Ok.ps2 (x := (1, 262)) (y := (0, y4)) (q := 139) 2 rfl ?_
          refine e_Ok.getr (z := 265) rfl (el_o rfl) rfl rfl (e_uq hw42 (Or.inr (by decide)) (e_uq hw37 (Or.inl (by decide)) (e_uq hw34 (Or.inl (by decide)) (e_uq hw30 (Or.inl (by decide)) (e_uq hw26 (Or.inl (by decide)) ((j13 262 6 no_da_4).trans (e_Has.eq hT (kt_o rfl)))))))) ⟨by decide, by decide⟩ ?_
          refine e_Ok.ps1 (x := (0, y5)) (q := 144) 1 rfl ?_
          refine e_Ok.ald (z := z29 + z33 + 1) rfl (el_o rfl) rfl (by omega) (e_uq hw42 (Or.inl (by decide)) (e_uq hw37 (Or.inl (by decide)) (e_ue hw34))) (by omega) ?_
          have hm45 := mulb (x := y4) (y := z29 + z33 + 1) (A := 1000) (B := 200001) (by omega) (by omega)
          refine e_Ok.mul (z := y4 * (z29 + z33 + 1)) rfl (by omega) (by omega) ?_
          refine e_Ok.run (t' := (153, [(4, (0, y4 * (z29 + z33 + 1))), (6, (1, 17 * a + y5 + 97)), (0, (1, 262)), (1, (1, 17 * a + 86)), (2, (0, n)), (3, (0, r)), (5, (0, y5))], [(0, 1000), (0, y4 * (z29 + z33 + 1))], w42)) 3 rfl ?_
          refine e_Ok.if2 rfl (fun h46 => ?_) (fun h46 => ?_)
          · replace h46 : (y4 * (z29 + z33 + 1) : Int) ≤ 1000 := h46
            have eC : ∀ c k, ¬ ((263 ≤ c ∧ c ≤ 266) ∧ k = y5) → ¬ (c = 262 ∧ k = 3) → w42 c k = v1 c k := fun c k g1 g2 => by rw [← hw42, e_up_ne _ _ (by omega), ← hw37, e_up_ne _ _ (by omega), ← hw34, e_up_ne _ _ (by omega), ← hw30, e_up_ne _ _ (by omega), ← hw26, e_up_ne _ _ (by omega)]
            have e263 : w42 263 y5 = w (17 * a + y5 + 97) 7 := (e_uq hw42 (Or.inl (by decide)) (e_uq hw37 (Or.inl (by decide)) (e_uq hw34 (Or.inl (by decide)) (e_uq hw30 (Or.inl (by decide)) (e_ue hw26)))))
            have e264 : w42 264 y5 = z29 := (e_uq hw42 (Or.inl (by decide)) (e_uq hw37 (Or.inl (by decide)) (e_uq hw34 (Or.inl (by decide)) (e_ue hw30))))
            have e265 : w42 265 y5 = z29 + z33 + 1 := (e_uq hw42 (Or.inl (by decide)) (e_uq hw37 (Or.inl (by decide)) (e_ue hw34)))
            have e266 : w42 266 y5 = y4 := (e_uq hw42 (Or.inl (by decide)) (e_ue hw37))
            have e3 : w42 262 3 = v1 262 3 + z29 * y4 := (e_ue hw42)
            have e5f : kpr (w42 265) y5.toNat = kpr (v1 265) y5.toNat := kpr_cg (fun k g1 g2 => eC _ _ (by omega) (by omega))
            have e4f : ksm (w42 265) (w42 264) y5.toNat = ksm (v1 265) (v1 264) y5.toNat := ksm_cg (fun k g1 g2 => ⟨eC _ _ (by omega) (by omega), eC _ _ (by omega) (by omega)⟩)
            have eJc : ∀ k, (k = 1 ∨ k = 2) → w42 (17 * a + y5 + 97) k = w (17 * a + y5 + 97) k := fun k g => by rw [eC _ _ (by omega) (by omega)]; exact j13 _ _ (by unfold kLy; omega)
            have hJ : lyJ w42 a n y5 := ⟨by rw [e263, eJc 1 (by omega), eJc 2 (by omega)]; omega, by rw [eJc 1 (by omega), eJc 2 (by omega)]; omega, by rw [e264, e263, eJc 1 (by omega)]; omega, by rw [e265, e264, e263, eJc 2 (by omega)]; omega, by rw [e266, e5f]; exact j16⟩
            have hpos := Int.mul_pos (show (0 : Int) < y4 by omega) (show (0 : Int) < z29 + z33 + 1 by omega)
            have hN : (y5 + 1).toNat = y5.toNat + 1 := by omega
            have hN2 : ((y5.toNat : Nat) : Int) = y5 := by omega
            have hK3 : kpr (w42 265) (y5 + 1).toNat = y4 * (z29 + z33 + 1) := by rw [hN]; show kpr (w42 265) y5.toNat * w42 265 (y5.toNat : Int) = _; rw [hN2, e5f, e265, ← j16]
            have hK4 : w42 262 3 = ksm (w42 265) (w42 264) (y5 + 1).toNat := by rw [hN]; show _ = ksm (w42 265) (w42 264) y5.toNat + kpr (w42 265) y5.toNat * w42 264 (y5.toNat : Int); rw [hN2, e3, e4f, e5f, e264, ← j16, ← j17, Int.mul_comm y4]
            refine e_Ok.inc (z := y5 + 1) rfl rfl (by first | with_reducible rfl | omega) (by omega) ?_
            show e_Ok 20 elay kcode eI d 98 (161, [(5, (0, y5 + 1)), (4, (0, y4 * (z29 + z33 + 1))), (6, (1, 17 * a + y5 + 97)), (0, (1, 262)), (1, (1, 17 * a + 86)), (2, (0, n)), (3, (0, r))], [], w42) _
            refine e_Ok.ps0 (q := 28) 1 rfl ?_
            refine e_Ok.sub kAlk (e_sub_of rfl ?_) (ih12 (y4 * (z29 + z33 + 1)) (y5 + 1) w42 ⟨f43, hT44, (fun i g1 g2 => by by_cases e : i = y5; (rw [e]; exact hJ); (exact (j15 i g1 (by omega)).eq (fun c k g => eC c k (by omega) (by omega)) g1)), hK3.symm, hK4, (by rw [e3]; omega), (by rw [eC _ _ (by omega) (by omega)]; exact j19), (by rw [eC _ _ (by omega) (by omega)]; exact j20), by omega, by omega, (fun i g1 g2 => by by_cases e : i = y5; (rw [e, e263]); (rw [eC _ _ (by omega) (by omega)]; exact j23 i g1 (by omega)))⟩ (by omega))
            exact ⟨rfl, rfl, rfl, rfl, rfl, rfl, trivial⟩
          · replace h46 : (y4 * (z29 + z33 + 1) : Int) > 1000 := Int.not_le.mp (show ¬ ((y4 * (z29 + z33 + 1) : Int) ≤ 1000) from h46)
            refine e_Ok.ps1 (x := (0, 0)) (q := 157) 1 rfl ?_
            refine e_Ok.rets rfl rfl ?_
            exact ⟨_, rfl, f43, hT44, by omega, fun g => absurd g (by decide)⟩
    refine e_Ok.sub kAlk (e_sub_of rfl ?_) (hL11 (6 + 1 : Int).toNat 1 0 w8 ⟨(show e_fr kLy w w8 from e_fr.up (show e_fr kLy w w5 from e_fr.up (show e_fr kLy w w2 from e_fr.up (e_fr.refl w) hw2 (by first | exact Or.inl ⟨rfl, ⟨(by decide), (by decide)⟩⟩ | (unfold kLy; omega))) hw5 (by first | exact Or.inl ⟨rfl, ⟨(by decide), (by decide)⟩⟩ | (unfold kLy; omega))) hw8 (by first | exact Or.inl ⟨rfl, ⟨(by decide), (by decide)⟩⟩ | (unfold kLy; omega))), hT10, (fun i g1 g2 => by omega), rfl, (e_ue hw8), (by have z : w8 262 3 = 0 := (e_ue hw8); omega), (e_uq hw8 (Or.inr (by omega)) (e_uq hw5 (Or.inr (by omega)) (e_ue hw2))), (e_uq hw8 (Or.inr (by omega)) (e_ue hw5)), by omega, by omega, (fun i g1 g2 => by omega)⟩ (by omega))
    exact ⟨rfl, rfl, rfl, rfl, rfl, rfl, trivial⟩
  · replace h1 : (n : Int) < 1 := Int.not_le.mp (show ¬ ((n : Int) ≥ 1) from h1)
    exfalso; omega
theorem c_101 {d : Nat} {w : eW} (hT : e_Has kTy w) {a n m : Int} (hL : lyI w a n m) {x j : Int} (gx : 0 ≤ x ∧ x ≤ 999) (gj : 0 ≤ j ∧ j < m) : e_Ok 20 elay kcode eI d 101 (0, [(0, (1, 262)), (1, (0, x)), (2, (0, j))], [], w) (fun r w' => ∃ z : Int, r = [(0, z)] ∧ w = w' ∧ z = kdg (w 265) x j.toNat ∧ (0 ≤ z ∧ z < w 265 j)) := by
  have hm := hL.1.2.1
  have hs := hL.str (j := j) gj
  have hb := (hL.2.2.2 j gj.1 gj.2).bd hL.1.1
  refine e_Ok.ps1 (x := (1, 262)) (q := 1) 1 rfl ?_
  refine e_Ok.getr (z := 266) rfl (el_o rfl) rfl rfl (e_Has.eq hT (kt_o rfl)) ⟨by decide, by decide⟩ ?_
  refine e_Ok.ps1 (x := (0, j)) (q := 5) 1 rfl ?_
  refine e_Ok.ald (z := w 266 j) rfl (el_o rfl) rfl (by omega) rfl (by omega) ?_
  refine e_Ok.ps1 (x := (0, 1)) (q := 7) 1 rfl ?_
  refine e_Ok.if2 rfl (fun h1 => ?_) (fun h1 => ?_)
  · replace h1 : (w 266 j : Int) < 1 := h1
    exfalso; omega
  · replace h1 : (w 266 j : Int) ≥ 1 := Int.not_lt.mp (show ¬ ((w 266 j : Int) < 1) from h1)
    refine e_Ok.ps1 (x := (1, 262)) (q := 11) 1 rfl ?_
    refine e_Ok.getr (z := 265) rfl (el_o rfl) rfl rfl (e_Has.eq hT (kt_o rfl)) ⟨by decide, by decide⟩ ?_
    refine e_Ok.ps1 (x := (0, j)) (q := 15) 1 rfl ?_
    refine e_Ok.ald (z := w 265 j) rfl (el_o rfl) rfl (by omega) rfl (by omega) ?_
    refine e_Ok.ps1 (x := (0, 1)) (q := 17) 1 rfl ?_
    refine e_Ok.if2 rfl (fun h2 => ?_) (fun h2 => ?_)
    · replace h2 : (w 265 j : Int) ≥ 1 := h2
      refine e_Ok.ps2 (x := (1, 262)) (y := (0, x)) (q := 24) 2 rfl ?_
      refine e_Ok.getr (z := 266) rfl (el_o rfl) rfl rfl (e_Has.eq hT (kt_o rfl)) ⟨by decide, by decide⟩ ?_
      refine e_Ok.ps1 (x := (0, j)) (q := 28) 1 rfl ?_
      refine e_Ok.ald (z := w 266 j) rfl (el_o rfl) rfl (by omega) rfl (by omega) ?_
      refine e_Ok.divn (fun z3 hz3 => ?_) rfl (by omega) (by omega)
      replace hz3 : z3 = x / w 266 j := hz3
      have z3r : 0 ≤ z3 ∧ z3 ≤ x := by have g1 : 0 ≤ x / w 266 j := Int.ediv_nonneg (by omega) (by omega); have g2 : x / w 266 j ≤ x := Int.ediv_le_self _ (by omega); omega
      refine e_Ok.ps1 (x := (1, 262)) (q := 31) 1 rfl ?_
      refine e_Ok.getr (z := 265) rfl (el_o rfl) rfl rfl (e_Has.eq hT (kt_o rfl)) ⟨by decide, by decide⟩ ?_
      refine e_Ok.ps1 (x := (0, j)) (q := 35) 1 rfl ?_
      refine e_Ok.ald (z := w 265 j) rfl (el_o rfl) rfl (by omega) rfl (by omega) ?_
      refine e_Ok.remn (fun z4 hz4 => ?_) rfl (by omega) (by omega)
      replace hz4 : z4 = z3 % (w 265 j) := hz4
      refine e_Ok.rets rfl rfl ?_
      have hz : z4 = kdg (w 265) x j.toNat := by unfold kdg; rw [kdve (fun k g1 g2 => hL.one k g1 (by omega)), show ((j.toNat : Nat) : Int) = j by omega, ← hs.2, ← hz3]; exact hz4
      have hd := kdgi (f := w 265) (x := x) (j := j.toNat) (by rw [show ((j.toNat : Nat) : Int) = j by omega]; omega)
      rw [show ((j.toNat : Nat) : Int) = j by omega] at hd
      exact ⟨_, rfl, rfl, hz, by rw [hz]; exact hd⟩
    · replace h2 : (w 265 j : Int) < 1 := Int.not_le.mp (show ¬ ((w 265 j : Int) ≥ 1) from h2)
      exfalso; omega
theorem no_da_6 {a : Int} {m : Int} : ¬ kJv a m 262 4 := by unfold kJv; omega
theorem no_da_7 {a : Int} {m : Int} : ¬ kJv a m 262 5 := by unfold kJv; omega
theorem no_da_8 {a : Int} {m : Int} : ¬ kJv a m 262 1 := by unfold kJv; omega
set_option maxHeartbeats 4000000 in
theorem c_102 {d : Nat} (hd : 21 ≤ d) {w : eW} (hT : e_Has kTy w) {a n m : Int} (hL : lyI w a n m) {x : Int} (ga : 0 ≤ a ∧ a ≤ 3) (gx : 0 ≤ x ∧ x ≤ 999) : e_Ok 20 elay kcode eI d 102 (0, [(0, (1, 262)), (1, (1, 17 * a + 86)), (2, (0, x))], [], w) (fun r w' => r = [] ∧ e_fr (kJv a m) w w' ∧ e_Has kTy w' ∧ ∀ j, 0 ≤ j → j < m → w' (17 * a + j + 97) 7 = tvV w n x j) := by
  obtain ⟨d, rfl⟩ : ∃ e, d = e + 1 := ⟨d - 1, by omega⟩
  have hm := hL.1.2.1
  have hm8 : w (17 * a + 86) 8 = m := hL.1.2.2.1
  have hjn := kn_joints hT (a := a) (by omega)
  have hn1 := hL.1.1
  have hw1 : w 262 1 = n := hL.1.2.2.2.1
  refine e_Ok.run (t' := (2, [(3, (0, 0)), (0, (1, 262)), (1, (1, 17 * a + 86)), (2, (0, x))], [], w)) 2 rfl ?_
  have hL1 : ∀ (nn : Nat) (y3 : Int) (v1 : eW), e_fr (kJv a m) w v1 ∧ e_Has kTy v1 ∧ (∀ i, 0 ≤ i → i < y3 → v1 (17 * a + i + 97) 7 = tvV w n x i) ∧ (y3 ≤ w (17 * a + 86) 8) ∧ (0 ≤ y3 ∧ y3 ≤ 6) → 6 - y3 < nn → e_Ok 20 elay kcode eI (d + 1) 102 (2, [(0, (1, 262)), (1, (1, 17 * a + 86)), (2, (0, x)), (3, (0, y3))], [], v1) (fun r w' => r = [] ∧ e_fr (kJv a m) w w' ∧ e_Has kTy w' ∧ ∀ j, 0 ≤ j → j < m → w' (17 * a + j + 97) 7 = tvV w n x j) := by
    intro nn
    induction nn with
    | zero => intro y3 v1 hj hm; obtain ⟨j3, j4, j5, j6, j7⟩ := hj; exfalso; omega
    | succ nn ih2 =>
      intro y3 v1 hj hm
      obtain ⟨j3, j4, j5, j6, j7⟩ := hj
      refine e_Ok.run (t' := (4, [(0, (1, 262)), (1, (1, 17 * a + 86)), (2, (0, x)), (3, (0, y3))], [(1, 17 * a + 86), (0, y3)], v1)) 2 rfl ?_
      have h8 := (e_Has.get hT (c := 17 * a + 86) (k := 8) (lo := 0) (hi := 6) (kA_8 (a := a) rfl ga) (by decide))
      refine e_Ok.getf (z := w (17 * a + 86) 8) rfl (lA0 (a := a) rfl ga) rfl rfl ((j3 (17 * a + 86) 8 (by unfold kJv; omega)).trans rfl) (e_bq h8 (by decide) (by decide)) ?_
      refine e_Ok.if2 rfl (fun h9 => ?_) (fun h9 => ?_)
      · replace h9 : (y3 : Int) ≥ w (17 * a + 86) 8 := h9
        refine e_Ok.rets rfl rfl ?_
        exact ⟨rfl, j3, j4, fun j g1 g2 => j5 j g1 (by omega)⟩
      · replace h9 : (y3 : Int) < w (17 * a + 86) 8 := Int.not_le.mp (show ¬ ((y3 : Int) ≥ w (17 * a + 86) 8) from h9)
        have hb0 := (hL.2.2.2 y3 (by omega) (by omega)).bd hL.1.1
        refine e_Ok.ps1 (x := (1, 17 * a + 86)) (q := 11) 1 rfl ?_
        refine e_Ok.getr (z := 17 * a + 87) rfl (lA0 (a := a) rfl ga) rfl rfl ((j3 (17 * a + 86) 0 (by unfold kJv; omega)).trans (Eq.trans (e_Has.eq hT (kA_0 (a := a) rfl ga)) (by omega))) (by omega) ?_
        refine e_Ok.ps1 (x := (0, y3)) (q := 15) 1 rfl ?_
        refine e_Ok.aald (z := 17 * a + y3 + 97) rfl (lA1 (a := a) rfl ga) rfl (by omega) ((j3 (17 * a + 87) y3 (by unfold kJv; omega)).trans (Eq.trans (e_Has.eq hT (kA87 (a := a) rfl ga (by omega))) (by omega))) (by omega) ?_
        refine e_Ok.ps1 (x := (1, 262)) (q := 17) 1 rfl ?_
        refine e_Ok.getr (z := 263) rfl (el_o rfl) rfl rfl ((j3 262 4 (by first | exact no_da_6 | (unfold kJv; omega))).trans (e_Has.eq hT (kt_o rfl))) ⟨by decide, by decide⟩ ?_
        refine e_Ok.ps1 (x := (0, y3)) (q := 21) 1 rfl ?_
        refine e_Ok.ald (z := w 263 y3) rfl (el_o rfl) rfl (by omega) ((j3 263 y3 (by unfold kJv; omega)).trans rfl) (by omega) ?_
        refine e_Ok.ps3 (x := (0, y3)) (y := (0, x)) (z := (1, 262)) (q := 25) 3 rfl ?_
        have hL1 : lyI v1 a n m := hL.eq (fun c k g => j3 c k (by unfold kJv; omega))
        have e5 : v1 265 = w 265 := funext (fun k => j3 265 k (by unfold kJv; omega))
        have hb := (hL.2.2.2 y3 (by omega) (by omega)).bd hL.1.1
        have e5b : v1 265 y3 = w 265 y3 := congrFun e5 y3
        refine e_Ok.callV rfl (e_dq hd rfl) rfl rfl rfl rfl (c_101 j4 hL1 (by omega) (by omega)) (fun r10 w11 h12 => ?_)
        obtain ⟨z13, rfl, rfl, q14x, q14r⟩ := h12
        show e_Ok 20 elay kcode eI (d + 1) 102 (28, [(0, (1, 262)), (1, (1, 17 * a + 86)), (2, (0, x)), (3, (0, y3))], [(0, z13), (0, w 263 y3), (1, 17 * a + y3 + 97)], v1) _
        refine e_Ok.ps1 (x := (1, 262)) (q := 29) 1 rfl ?_
        refine e_Ok.getr (z := 264) rfl (el_o rfl) rfl rfl ((j3 262 5 (by first | exact no_da_7 | (unfold kJv; omega))).trans (e_Has.eq hT (kt_o rfl))) ⟨by decide, by decide⟩ ?_
        refine e_Ok.ps1 (x := (0, y3)) (q := 33) 1 rfl ?_
        refine e_Ok.ald (z := w 264 y3) rfl (el_o rfl) rfl (by omega) ((j3 264 y3 (by unfold kJv; omega)).trans rfl) (by omega) ?_
        refine e_Ok.sub' (z := z13 - w 264 y3) rfl rfl (by omega) ?_
        refine e_Ok.ps1 (x := (1, 262)) (q := 36) 1 rfl ?_
        refine e_Ok.getf (z := w 262 1) rfl (el_o rfl) rfl rfl ((j3 262 1 (by first | exact no_da_8 | (unfold kJv; omega))).trans rfl) (by omega) ?_
        have hm1 : w 262 1 = n := hL.1.2.2.2.1
        have hmu : -3200000 ≤ (z13 - w 264 y3) * w 262 1 ∧ (z13 - w 264 y3) * w 262 1 ≤ 6400016 := by rw [hm1]; have g1 := mulb (x := z13) (y := n) (A := 200001) (B := 16) (by omega) (by omega); have g2 := mulb (x := w 264 y3) (y := n) (A := 200000) (B := 16) (by omega) (by omega); rw [Int.sub_mul]; omega
        refine e_Ok.mul (z := (z13 - w 264 y3) * (w 262 1)) rfl (by omega) (by omega) ?_
        refine e_Ok.add (z := w 263 y3 + (z13 - w 264 y3) * (w 262 1)) rfl rfl (by omega) ?_
        refine e_Ok.putf rfl (lJ (a := a) (j := y3) (by omega) (by omega) (by omega)) rfl rfl ?_
        generalize hw15 : e_up v1 (17 * a + y3 + 97) 7 (w 263 y3 + (z13 - w 264 y3) * (w 262 1)) = w15
        have hT17 : e_Has kTy w15 := e_Has.upr j4 hw15 (kJ_7 (a := a) (j := y3) (by omega) (by omega) (by omega)) (by omega)
        refine e_Ok.inc (z := y3 + 1) rfl rfl (by first | with_reducible rfl | omega) (by omega) ?_
        show e_Ok 20 elay kcode eI (d + 1) 102 (47, [(3, (0, y3 + 1)), (0, (1, 262)), (1, (1, 17 * a + 86)), (2, (0, x))], [], w15) _
        refine e_Ok.ps0 (q := 2) 1 rfl ?_
        refine e_Ok.sub kAlk (e_sub_of rfl ?_) (ih2 (y3 + 1) w15 ⟨(show e_fr (kJv a m) w w15 from e_fr.up j3 hw15 (by unfold kJv; omega)), hT17, (fun i g1 g2 => by by_cases e : i = y3; (rw [e, ← hw15, e_up_eq]; unfold tvV; rw [q14x, e5, hm1]); (rw [← hw15, e_up_ne _ _ (by omega)]; exact j5 i g1 (by omega))), by omega, by omega⟩ (by omega))
        exact ⟨rfl, rfl, rfl, rfl, trivial⟩
  refine e_Ok.sub kAlk (e_sub_of rfl ?_) (hL1 (6 + 1 : Int).toNat 0 w ⟨(e_fr.refl w), hT, (fun i g1 g2 => by omega), by omega, by omega⟩ (by omega))
  exact ⟨rfl, rfl, rfl, rfl, trivial⟩
theorem c_103 {d : Nat} (hd : 22 ≤ d) {w : eW} (hT : e_Has kTy w) {a n m : Int} (hL : lyI w a n m) {x s : Int} (gx : 0 ≤ x ∧ x < kpr (w 265) m.toNat) (gs : 0 ≤ s ∧ s < 2 * m) : e_Ok 20 elay kcode eI d 103 (0, [(0, (1, 262)), (1, (0, x)), (2, (0, s))], [], w) (fun r w' => ∃ z : Int, r = [(0, z)] ∧ w = w' ∧ (z = -1 ∨ ((0 ≤ z ∧ z < kpr (w 265) m.toNat) ∧ kln (w 265) x z s))) := by
  obtain ⟨d, rfl⟩ : ∃ e, d = e + 1 := ⟨d - 1, by omega⟩
  have hm := hL.1.2.1
  have hN := hL.2.2.1
  refine e_Ok.ps2 (x := (0, 2)) (y := (0, s)) (q := 2) 2 rfl ?_
  refine e_Ok.divn (fun z1 hz1 => ?_) rfl (by omega) (by omega)
  replace hz1 : z1 = s / 2 := hz1
  have z1r : 0 ≤ z1 ∧ z1 ≤ 5 := by omega
  refine e_Ok.run (t' := (7, [(3, (0, z1)), (0, (1, 262)), (1, (0, x)), (2, (0, s))], [(0, z1), (0, x), (1, 262)], w)) 4 rfl ?_
  have hj2 : z1 = s / 2 := by omega
  have hb := (hL.2.2.2 z1 (by omega) (by omega)).bd hL.1.1
  have hst := hL.str (j := z1) (by omega)
  refine e_Ok.callV rfl (e_dq hd rfl) rfl rfl rfl rfl (c_101 hT hL (by omega) (by omega)) (fun r2 w3 h4 => ?_)
  obtain ⟨z5, rfl, rfl, q6x, q6r⟩ := h4
  refine e_Ok.nrm (q := 10) (st' := [(0, z5)]) rfl rfl ?_
  refine e_Ok.ps2 (x := (0, 2)) (y := (0, s)) (q := 12) 2 rfl ?_
  refine e_Ok.remn (fun z7 hz7 => ?_) rfl (by omega) (by omega)
  replace hz7 : z7 = s % 2 := hz7
  have z7r : 0 ≤ z7 ∧ z7 ≤ 1 := by omega
  refine e_Ok.if1 rfl (fun h8 => ?_) (fun h8 => ?_)
  · replace h8 : (z7 : Int) ≠ 0 := h8
    refine e_Ok.ps1 (x := (0, (-1))) (q := 21) 1 rfl ?_
    refine e_Ok.add (z := z5 - 1) rfl (by omega) (by omega) ?_
    refine e_Ok.run (t' := (28, [(4, (0, z5 - 1)), (3, (0, z1)), (0, (1, 262)), (1, (0, x)), (2, (0, s))], [(1, 262), (0, 0), (0, z5 - 1)], w)) 4 rfl ?_
    refine e_Ok.getr (z := 265) rfl (el_o rfl) rfl rfl (e_Has.eq hT (kt_o rfl)) ⟨by decide, by decide⟩ ?_
    refine e_Ok.ps1 (x := (0, z1)) (q := 32) 1 rfl ?_
    refine e_Ok.ald (z := w 265 z1) rfl (el_o rfl) rfl (by omega) rfl (by omega) ?_
    refine e_Ok.ps1 (x := (0, 1)) (q := 34) 1 rfl ?_
    refine e_Ok.sub' (z := w 265 z1 - 1) rfl rfl (by omega) ?_
    refine e_Ok.callS rfl (e_dq hd rfl) rfl rfl (c_242 (by omega) (by omega) (by omega)) (fun r9 w10 h11 => ?_)
    obtain ⟨z12, rfl, rfl, q13⟩ := h11
    obtain ⟨rfl, q13⟩ | ⟨rfl, q13⟩ := q13
    · refine e_Ok.nrm (q := 38) (st' := [(0, 1)]) rfl rfl ?_
      refine e_Ok.if1 rfl (fun h14 => ?_) (fun h14 => ?_)
      · replace h14 : (1 : Int) ≠ 0 := h14
        refine e_Ok.ps2 (x := (0, 2)) (y := (0, s)) (q := 45) 2 rfl ?_
        refine e_Ok.remn (fun z15 hz15 => ?_) rfl (by omega) (by omega)
        replace hz15 : z15 = s % 2 := hz15
        have z15r : 0 ≤ z15 ∧ z15 ≤ 1 := by omega
        refine e_Ok.if1 rfl (fun h16 => ?_) (fun h16 => ?_)
        · replace h16 : (z15 : Int) ≠ 0 := h16
          refine e_Ok.ps2 (x := (1, 262)) (y := (0, x)) (q := 62) 2 rfl ?_
          refine e_Ok.getr (z := 266) rfl (el_o rfl) rfl rfl (e_Has.eq hT (kt_o rfl)) ⟨by decide, by decide⟩ ?_
          refine e_Ok.ps1 (x := (0, z1)) (q := 66) 1 rfl ?_
          refine e_Ok.ald (z := w 266 z1) rfl (el_o rfl) rfl (by omega) rfl (by omega) ?_
          refine e_Ok.sub' (z := x - w 266 z1) rfl rfl (by omega) ?_
          refine e_Ok.rets rfl rfl ?_
          exact ⟨_, rfl, rfl, Or.inr (nb_fin hL gx gs hj2 q6x (by omega))⟩
        · replace h16 : (z15 : Int) = 0 := Classical.not_not.mp (show ¬ ((z15 : Int) ≠ 0) from h16)
          refine e_Ok.ps2 (x := (1, 262)) (y := (0, x)) (q := 51) 2 rfl ?_
          refine e_Ok.getr (z := 266) rfl (el_o rfl) rfl rfl (e_Has.eq hT (kt_o rfl)) ⟨by decide, by decide⟩ ?_
          refine e_Ok.ps1 (x := (0, z1)) (q := 55) 1 rfl ?_
          refine e_Ok.ald (z := w 266 z1) rfl (el_o rfl) rfl (by omega) rfl (by omega) ?_
          refine e_Ok.add (z := x + w 266 z1) rfl rfl (by omega) ?_
          refine e_Ok.ps0 (q := 68) 1 rfl ?_
          refine e_Ok.rets rfl rfl ?_
          exact ⟨_, rfl, rfl, Or.inr (nb_fin hL gx gs hj2 q6x (by omega))⟩
      · replace h14 : (1 : Int) = 0 := Classical.not_not.mp (show ¬ ((1 : Int) ≠ 0) from h14)
        exfalso; omega
    · refine e_Ok.nrm (q := 38) (st' := [(0, 0)]) rfl rfl ?_
      refine e_Ok.if1 rfl (fun h17 => ?_) (fun h17 => ?_)
      · replace h17 : (0 : Int) ≠ 0 := h17
        exfalso; omega
      · replace h17 : (0 : Int) = 0 := Classical.not_not.mp (show ¬ ((0 : Int) ≠ 0) from h17)
        refine e_Ok.ps1 (x := (0, (-1))) (q := 42) 1 rfl ?_
        refine e_Ok.rets rfl rfl ?_
        exact ⟨_, rfl, rfl, Or.inl rfl⟩
  · replace h8 : (z7 : Int) = 0 := Classical.not_not.mp (show ¬ ((z7 : Int) ≠ 0) from h8)
    refine e_Ok.ps1 (x := (0, 1)) (q := 21) 2 rfl ?_
    refine e_Ok.add (z := z5 + 1) rfl rfl (by omega) ?_
    refine e_Ok.run (t' := (28, [(4, (0, z5 + 1)), (3, (0, z1)), (0, (1, 262)), (1, (0, x)), (2, (0, s))], [(1, 262), (0, 0), (0, z5 + 1)], w)) 4 rfl ?_
    refine e_Ok.getr (z := 265) rfl (el_o rfl) rfl rfl (e_Has.eq hT (kt_o rfl)) ⟨by decide, by decide⟩ ?_
    refine e_Ok.ps1 (x := (0, z1)) (q := 32) 1 rfl ?_
    refine e_Ok.ald (z := w 265 z1) rfl (el_o rfl) rfl (by omega) rfl (by omega) ?_
    refine e_Ok.ps1 (x := (0, 1)) (q := 34) 1 rfl ?_
    refine e_Ok.sub' (z := w 265 z1 - 1) rfl rfl (by omega) ?_
    refine e_Ok.callS rfl (e_dq hd rfl) rfl rfl (c_242 (by omega) (by omega) (by omega)) (fun r18 w19 h20 => ?_)
    obtain ⟨z21, rfl, rfl, q22⟩ := h20
    obtain ⟨rfl, q22⟩ | ⟨rfl, q22⟩ := q22
    · refine e_Ok.nrm (q := 38) (st' := [(0, 1)]) rfl rfl ?_
      refine e_Ok.if1 rfl (fun h23 => ?_) (fun h23 => ?_)
      · replace h23 : (1 : Int) ≠ 0 := h23
        refine e_Ok.ps2 (x := (0, 2)) (y := (0, s)) (q := 45) 2 rfl ?_
        refine e_Ok.remn (fun z24 hz24 => ?_) rfl (by omega) (by omega)
        replace hz24 : z24 = s % 2 := hz24
        have z24r : 0 ≤ z24 ∧ z24 ≤ 1 := by omega
        refine e_Ok.if1 rfl (fun h25 => ?_) (fun h25 => ?_)
        · replace h25 : (z24 : Int) ≠ 0 := h25
          refine e_Ok.ps2 (x := (1, 262)) (y := (0, x)) (q := 62) 2 rfl ?_
          refine e_Ok.getr (z := 266) rfl (el_o rfl) rfl rfl (e_Has.eq hT (kt_o rfl)) ⟨by decide, by decide⟩ ?_
          refine e_Ok.ps1 (x := (0, z1)) (q := 66) 1 rfl ?_
          refine e_Ok.ald (z := w 266 z1) rfl (el_o rfl) rfl (by omega) rfl (by omega) ?_
          refine e_Ok.sub' (z := x - w 266 z1) rfl rfl (by omega) ?_
          refine e_Ok.rets rfl rfl ?_
          exact ⟨_, rfl, rfl, Or.inr (nb_fin hL gx gs hj2 q6x (by omega))⟩
        · replace h25 : (z24 : Int) = 0 := Classical.not_not.mp (show ¬ ((z24 : Int) ≠ 0) from h25)
          refine e_Ok.ps2 (x := (1, 262)) (y := (0, x)) (q := 51) 2 rfl ?_
          refine e_Ok.getr (z := 266) rfl (el_o rfl) rfl rfl (e_Has.eq hT (kt_o rfl)) ⟨by decide, by decide⟩ ?_
          refine e_Ok.ps1 (x := (0, z1)) (q := 55) 1 rfl ?_
          refine e_Ok.ald (z := w 266 z1) rfl (el_o rfl) rfl (by omega) rfl (by omega) ?_
          refine e_Ok.add (z := x + w 266 z1) rfl rfl (by omega) ?_
          refine e_Ok.ps0 (q := 68) 1 rfl ?_
          refine e_Ok.rets rfl rfl ?_
          exact ⟨_, rfl, rfl, Or.inr (nb_fin hL gx gs hj2 q6x (by omega))⟩
      · replace h23 : (1 : Int) = 0 := Classical.not_not.mp (show ¬ ((1 : Int) ≠ 0) from h23)
        exfalso; omega
    · refine e_Ok.nrm (q := 38) (st' := [(0, 0)]) rfl rfl ?_
      refine e_Ok.if1 rfl (fun h26 => ?_) (fun h26 => ?_)
      · replace h26 : (0 : Int) ≠ 0 := h26
        exfalso; omega
      · replace h26 : (0 : Int) = 0 := Classical.not_not.mp (show ¬ ((0 : Int) ≠ 0) from h26)
        refine e_Ok.ps1 (x := (0, (-1))) (q := 42) 1 rfl ?_
        refine e_Ok.rets rfl rfl ?_
        exact ⟨_, rfl, rfl, Or.inl rfl⟩
set_option maxHeartbeats 4000000 in
theorem c_99 {d : Nat} (hd : 22 ≤ d) {w : eW} (hT : e_Has kTy w) {a n m : Int} (hL : lyI w a n m) (ga : 0 ≤ a ∧ a ≤ 3) : e_Ok 20 elay kcode eI d 99 (0, [(0, (1, 262)), (1, (1, 17 * a + 86)), (2, (1, 272))], [], w) (fun r w' => ∃ z : Int, r = [(0, z)] ∧ w = w' ∧ (z = -1 ∨ (0 ≤ z ∧ z < kpr (w 265) m.toNat))) := by
  obtain ⟨d, rfl⟩ : ∃ e, d = e + 1 := ⟨d - 1, by omega⟩
  have hm := hL.1.2.1
  have hm8 : w (17 * a + 86) 8 = m := hL.1.2.2.1
  have hjn := kn_joints hT (a := a) (by omega)
  have hn1 := hL.1.1
  have hw1 : w 262 1 = n := hL.1.2.2.2.1
  refine e_Ok.run (t' := (5, [(4, (0, 0)), (3, (0, 0)), (0, (1, 262)), (1, (1, 17 * a + 86)), (2, (1, 272))], [], w)) 4 rfl ?_
  have hL1 : ∀ (nn : Nat) (y3 : Int) (y4 : Int), (∀ i, 0 ≤ i → i < y4 → 0 ≤ qN w n i ∧ qN w n i < w 265 i) ∧ y3 = ksm (w 265) (qN w n) y4.toNat ∧ ((0 ≤ y3 ∧ y3 ≤ 999)) ∧ ((0 ≤ y4 ∧ y4 ≤ w (17 * a + 86) 8)) → 6 - y4 < nn → e_Ok 20 elay kcode eI (d + 1) 99 (5, [(0, (1, 262)), (1, (1, 17 * a + 86)), (2, (1, 272)), (3, (0, y3)), (4, (0, y4))], [], w) (fun r w' => ∃ z : Int, r = [(0, z)] ∧ w = w' ∧ (z = -1 ∨ (0 ≤ z ∧ z < kpr (w 265) m.toNat))) := by
    intro nn
    induction nn with
    | zero => intro y3 y4 hj hm; obtain ⟨j3, j4, j5, j6⟩ := hj; exfalso; omega
    | succ nn ih2 =>
      intro y3 y4 hj hm
      obtain ⟨j3, j4, j5, j6⟩ := hj
      refine e_Ok.run (t' := (8, [(0, (1, 262)), (1, (1, 17 * a + 86)), (2, (1, 272)), (3, (0, y3)), (4, (0, y4))], [(1, 17 * a + 86), (0, y4)], w)) 2 rfl ?_
      have h7 := (e_Has.get hT (c := 17 * a + 86) (k := 8) (lo := 0) (hi := 6) (kA_8 (a := a) rfl ga) (by decide))
      refine e_Ok.getf (z := w (17 * a + 86) 8) rfl (lA0 (a := a) rfl ga) rfl rfl rfl (e_bq h7 (by decide) (by decide)) ?_
      refine e_Ok.if2 rfl (fun h8 => ?_) (fun h8 => ?_)
      · replace h8 : (y4 : Int) ≥ w (17 * a + 86) 8 := h8
        refine e_Ok.ps1 (x := (0, y3)) (q := 100) 1 rfl ?_
        refine e_Ok.rets rfl rfl ?_
        have g := ksmi (f := w 265) (d := qN w n) (n := m.toNat) (fun k g1 g2 => j3 k g1 (by omega))
        have hy : y3 = ksm (w 265) (qN w n) m.toNat := by have g := j4; rw [show y4 = m by omega] at g; exact g
        exact ⟨_, rfl, rfl, Or.inr (by rw [hy]; exact g)⟩
      · replace h8 : (y4 : Int) < w (17 * a + 86) 8 := Int.not_le.mp (show ¬ ((y4 : Int) ≥ w (17 * a + 86) 8) from h8)
        have hb := (hL.2.2.2 y4 (by omega) (by omega)).bd hL.1.1
        have hst := hL.str (j := y4) (by omega)
        have hlj := hL.2.2.2 y4 (by omega) (by omega)
        have hl1 := hlj.1; have hl2 := hlj.2.1
        refine e_Ok.ps1 (x := (1, 17 * a + 86)) (q := 15) 1 rfl ?_
        refine e_Ok.getr (z := 17 * a + 87) rfl (lA0 (a := a) rfl ga) rfl rfl (Eq.trans (e_Has.eq hT (kA_0 (a := a) rfl ga)) (by omega)) (by omega) ?_
        refine e_Ok.ps1 (x := (0, y4)) (q := 20) 1 rfl ?_
        refine e_Ok.aald (z := 17 * a + y4 + 97) rfl (lA1 (a := a) rfl ga) rfl (by omega) (Eq.trans (e_Has.eq hT (kA87 (a := a) rfl ga (by omega))) (by omega)) (by omega) ?_
        refine e_Ok.ps2 (x := (0, y4)) (y := (1, 272)) (q := 24) 2 rfl ?_
        have h9 := (e_Has.get hT (c := 272) (k := y4) (lo := (-2147483648)) (hi := 2147483647) (kt_o rfl) (by decide))
        refine e_Ok.ald (z := w 272 y4) rfl (el_o rfl) rfl (by omega) rfl (e_bq h9 (by decide) (by decide)) ?_
        refine e_Ok.callV rfl (e_dq hd rfl) rfl (lJ (a := a) (j := y4) (by omega) (by omega) (by omega)) rfl rfl (c_89 (e_dq hd rfl) (a := a) (j := y4) hT (by omega) (by omega) (by omega)) (fun r10 w11 h12 => ?_)
        obtain ⟨z13, rfl, rfl, q14⟩ := h12
        replace q14 : (z13 = 1 ∧ w (17 * a + y4 + 97) 1 ≤ w 272 y4 ∧ w 272 y4 ≤ w (17 * a + y4 + 97) 2) ∨ (z13 = 0 ∧ ¬ (w (17 * a + y4 + 97) 1 ≤ w 272 y4 ∧ w 272 y4 ≤ w (17 * a + y4 + 97) 2)) := q14
        obtain ⟨rfl, q14⟩ | ⟨rfl, q14⟩ := q14
        · refine e_Ok.nrm (q := 28) (st' := [(0, 1)]) rfl rfl ?_
          refine e_Ok.if1 rfl (fun h15 => ?_) (fun h15 => ?_)
          · replace h15 : (1 : Int) = 0 := h15
            exfalso; omega
          · replace h15 : (1 : Int) ≠ 0 := (show ¬ ((1 : Int) = 0) from h15)
            refine e_Ok.ps1 (x := (1, 262)) (q := 32) 1 rfl ?_
            refine e_Ok.getf (z := w 262 1) rfl (el_o rfl) rfl rfl rfl (by omega) ?_
            refine e_Ok.ps1 (x := (0, 1)) (q := 36) 1 rfl ?_
            refine e_Ok.if2 rfl (fun h16 => ?_) (fun h16 => ?_)
            · replace h16 : (w 262 1 : Int) ≥ 1 := h16
              refine e_Ok.ps2 (x := (0, y4)) (y := (1, 272)) (q := 44) 2 rfl ?_
              refine e_Ok.ald (z := w 272 y4) rfl (el_o rfl) rfl (by omega) rfl (by omega) ?_
              refine e_Ok.ps1 (x := (1, 262)) (q := 46) 1 rfl ?_
              refine e_Ok.getr (z := 263) rfl (el_o rfl) rfl rfl (e_Has.eq hT (kt_o rfl)) ⟨by decide, by decide⟩ ?_
              refine e_Ok.ps1 (x := (0, y4)) (q := 51) 1 rfl ?_
              refine e_Ok.ald (z := w 263 y4) rfl (el_o rfl) rfl (by omega) rfl (by omega) ?_
              refine e_Ok.sub' (z := w 272 y4 - w 263 y4) rfl rfl (by omega) ?_
              refine e_Ok.run (t' := (58, [(5, (0, w 272 y4 - w 263 y4)), (0, (1, 262)), (1, (1, 17 * a + 86)), (2, (1, 272)), (3, (0, y3)), (4, (0, y4))], [(1, 262), (0, w 272 y4 - w 263 y4)], w)) 3 rfl ?_
              refine e_Ok.getf (z := w 262 1) rfl (el_o rfl) rfl rfl rfl (by omega) ?_
              refine e_Ok.kremd rfl (by omega) (by omega) (fun z17 hz17 z17a z17b => ?_)
              replace hz17 : z17 = 0 ↔ ∃ q, w 272 y4 - w 263 y4 = q * w 262 1 := hz17
              refine e_Ok.if1 rfl (fun h18 => ?_) (fun h18 => ?_)
              · replace h18 : (z17 : Int) = 0 := h18
                refine e_Ok.run (t' := (69, [(5, (0, w 272 y4 - w 263 y4)), (0, (1, 262)), (1, (1, 17 * a + 86)), (2, (1, 272)), (3, (0, y3)), (4, (0, y4))], [(1, 262), (0, y3)], w)) 2 rfl ?_
                refine e_Ok.getr (z := 264) rfl (el_o rfl) rfl rfl (e_Has.eq hT (kt_o rfl)) ⟨by decide, by decide⟩ ?_
                refine e_Ok.ps1 (x := (0, y4)) (q := 74) 1 rfl ?_
                refine e_Ok.ald (z := w 264 y4) rfl (el_o rfl) rfl (by omega) rfl (by omega) ?_
                refine e_Ok.ps2 (x := (1, 262)) (y := (0, w 272 y4 - w 263 y4)) (q := 78) 2 rfl ?_
                refine e_Ok.getf (z := w 262 1) rfl (el_o rfl) rfl rfl rfl (by omega) ?_
                obtain ⟨q0, hq0⟩ := hz17.mp (by omega)
                have hq1 := no_q hL (j := y4) (by omega) (by omega) (by omega) hq0 (by omega)
                refine e_Ok.divq (q := q0) rfl (by omega) (by omega) hq0 ?_
                refine e_Ok.add (z := w 264 y4 + q0) rfl (by omega) (by omega) ?_
                refine e_Ok.run (t' := (84, [(5, (0, w 272 y4 - w 263 y4)), (0, (1, 262)), (1, (1, 17 * a + 86)), (2, (1, 272)), (3, (0, y3)), (4, (0, y4))], [(1, 262), (0, w 264 y4 + q0), (0, y3)], w)) 1 rfl ?_
                refine e_Ok.getr (z := 266) rfl (el_o rfl) rfl rfl (e_Has.eq hT (kt_o rfl)) ⟨by decide, by decide⟩ ?_
                refine e_Ok.ps1 (x := (0, y4)) (q := 89) 1 rfl ?_
                refine e_Ok.ald (z := w 266 y4) rfl (el_o rfl) rfl (by omega) rfl (by omega) ?_
                have hmu := mulb (x := w 264 y4 + q0) (y := w 266 y4) (A := 200001) (B := 1000) (by omega) (by omega)
                refine e_Ok.mul (z := (w 264 y4 + q0) * (w 266 y4)) rfl (by omega) (by omega) ?_
                refine e_Ok.add (z := y3 + (w 264 y4 + q0) * (w 266 y4)) rfl rfl (by omega) ?_
                refine e_Ok.run (t' := (93, [(3, (0, y3 + (w 264 y4 + q0) * (w 266 y4))), (5, (0, w 272 y4 - w 263 y4)), (0, (1, 262)), (1, (1, 17 * a + 86)), (2, (1, 272)), (4, (0, y4))], [], w)) 1 rfl ?_
                have hst2 : (y3 + (w 264 y4 + q0) * (w 266 y4) = ksm (w 265) (qN w n) (y4 + 1).toNat) ∧ y3 + (w 264 y4 + q0) * (w 266 y4) < 1000 := by have g := no_st hL (j := y4) (by omega) j4 (fun i g1 g2 => by by_cases e : i = y4; (rw [e, ← hq1.2]; exact hq1.1); (exact j3 i g1 (by omega))); rw [← hq1.2] at g; exact g
                refine e_Ok.inc (z := y4 + 1) rfl rfl (by first | with_reducible rfl | omega) (by omega) ?_
                show e_Ok 20 elay kcode eI (d + 1) 99 (96, [(4, (0, y4 + 1)), (3, (0, y3 + (w 264 y4 + q0) * (w 266 y4))), (5, (0, w 272 y4 - w 263 y4)), (0, (1, 262)), (1, (1, 17 * a + 86)), (2, (1, 272))], [], w) _
                refine e_Ok.ps0 (q := 5) 1 rfl ?_
                refine e_Ok.sub kAlk (e_sub_of rfl ?_) (ih2 (y3 + (w 264 y4 + q0) * (w 266 y4)) (y4 + 1) ⟨(fun i g1 g2 => by by_cases e : i = y4; (rw [e, ← hq1.2]; exact hq1.1); (exact j3 i g1 (by omega))), hst2.1, (by have g := hst2.2; omega), by omega⟩ (by omega))
                exact ⟨rfl, rfl, rfl, rfl, rfl, trivial⟩
              · replace h18 : (z17 : Int) ≠ 0 := (show ¬ ((z17 : Int) = 0) from h18)
                refine e_Ok.run (t' := (66, [(5, (0, w 272 y4 - w 263 y4)), (0, (1, 262)), (1, (1, 17 * a + 86)), (2, (1, 272)), (3, (0, y3)), (4, (0, y4))], [(0, (-1))], w)) 1 rfl ?_
                refine e_Ok.rets rfl rfl ?_
                exact ⟨_, rfl, rfl, Or.inl rfl⟩
            · replace h16 : (w 262 1 : Int) < 1 := Int.not_le.mp (show ¬ ((w 262 1 : Int) ≥ 1) from h16)
              exfalso; omega
        · refine e_Ok.nrm (q := 28) (st' := [(0, 0)]) rfl rfl ?_
          refine e_Ok.if1 rfl (fun h19 => ?_) (fun h19 => ?_)
          · replace h19 : (0 : Int) = 0 := h19
            refine e_Ok.ps1 (x := (0, (-1))) (q := 40) 1 rfl ?_
            refine e_Ok.rets rfl rfl ?_
            exact ⟨_, rfl, rfl, Or.inl rfl⟩
          · replace h19 : (0 : Int) ≠ 0 := (show ¬ ((0 : Int) = 0) from h19)
            exfalso; omega
  refine e_Ok.sub kAlk (e_sub_of rfl ?_) (hL1 (6 + 1 : Int).toNat 0 0 ⟨(fun i g1 g2 => by omega), rfl, by omega, by omega⟩ (by omega))
  exact ⟨rfl, rfl, rfl, rfl, rfl, trivial⟩
end
end
-- part db
section
noncomputable section
/-! the class: the search of a way -/
def kPm (a m : Int) (c k : Int) : Prop := (c = 17 * a + 88 ∨ c = 17 * a + 89) ∧ 1 ≤ k ∧ k ≤ m + 1
def kPs (a m : Int) (c k : Int) : Prop := (17 * a + 97 ≤ c ∧ c < 17 * a + m + 97 ∧ k = 7) ∨ ((c = 17 * a + 88 ∨ c = 17 * a + 89) ∧ 1 ≤ k ∧ k ≤ m + 1) ∨ (c = 250 ∧ 13 ≤ k ∧ k ≤ 16) ∨ c = 268
def kSr (a m : Int) (c k : Int) : Prop := (17 * a + 97 ≤ c ∧ c < 17 * a + m + 97 ∧ k = 7) ∨ ((c = 17 * a + 88 ∨ c = 17 * a + 89) ∧ 1 ≤ k ∧ k ≤ m + 1) ∨ (c = 250 ∧ 13 ≤ k ∧ k ≤ 16) ∨ c = 267 ∨ c = 268
def kF68 (c k : Int) : Prop := c = 268
theorem c_10_m {d : Nat} (hd : 22 ≤ d) {w : eW} (hT : e_Has kTy w) {a m : Int} (g_a : 0 ≤ a ∧ a ≤ 3) (hm : w (17 * a + 86) 8 = m) (hx : kn1 (w (17 * a + 88) 0)) (hy : kn1 (w (17 * a + 89) 0)) : e_Ok 20 elay kcode eI d 10 (0, [(0, (1, 17 * a + 86))], [], w) (fun r w' => r = [] ∧ e_fr (kPm a m) w w' ∧ e_Has kTy w' ∧ aK w' a) := by
  obtain ⟨d, rfl⟩ : ∃ e, d = e + 1 := ⟨d - 1, by omega⟩
  have hjn := kn_joints hT (a := a) (by omega)
  have hx0 := hx
  have hy0 := hy
  unfold kn1 at hx hy
  refine e_Ok.ps1 (x := (1, 17 * a + 86)) (q := 1) 1 rfl ?_
  refine e_Ok.getr (z := 17 * a + 88) rfl (lA0 (a := a) rfl g_a) rfl rfl (Eq.trans (e_Has.eq hT (kA_1 (a := a) rfl g_a)) (by omega)) (by omega) ?_
  refine e_Ok.ps1 (x := (0, 0)) (q := 5) 1 rfl ?_
  have h1 := ((fun i g1 g2 => by rw [show i = 0 by omega]; exact hx0 : e_kn w (17 * a + 88) 0 0) 0 (by omega) (by omega))
  refine e_Ok.ald (z := w (17 * a + 88) 0) rfl (lA2 (a := a) rfl g_a) rfl (by omega) rfl (by omega) ?_
  refine e_Ok.run (t' := (9, [(0, (1, 17 * a + 86))], [(0, 20), (4, w (17 * a + 88) 0)], w)) 2 rfl ?_
  refine e_Ok.anyS rfl ⟨_, rfl⟩ (fun x2 => ?_)
  refine e_Ok.run (t' := (12, [(1, (4, x2)), (0, (1, 17 * a + 86))], [(1, 17 * a + 86)], w)) 2 rfl ?_
  refine e_Ok.getr (z := 17 * a + 89) rfl (lA0 (a := a) rfl g_a) rfl rfl (Eq.trans (e_Has.eq hT (kA_2 (a := a) rfl g_a)) (by omega)) (by omega) ?_
  refine e_Ok.ps1 (x := (0, 0)) (q := 16) 1 rfl ?_
  have h3 := ((fun i g1 g2 => by rw [show i = 0 by omega]; exact hy0 : e_kn w (17 * a + 89) 0 0) 0 (by omega) (by omega))
  refine e_Ok.ald (z := w (17 * a + 89) 0) rfl (lA3 (a := a) rfl g_a) rfl (by omega) rfl (by omega) ?_
  refine e_Ok.run (t' := (20, [(1, (4, x2)), (0, (1, 17 * a + 86))], [(0, 20), (4, w (17 * a + 89) 0)], w)) 2 rfl ?_
  refine e_Ok.anyS rfl ⟨_, rfl⟩ (fun x4 => ?_)
  refine e_Ok.run (t' := (23, [(3, (4, x4)), (1, (4, x2)), (0, (1, 17 * a + 86))], [(1, 17 * a + 86)], w)) 2 rfl ?_
  have h5 := (e_Has.get hT (c := 17 * a + 86) (k := 9) (lo := (-2147483648)) (hi := 2147483647) (kA_9 (a := a) rfl g_a) (by decide))
  refine e_Ok.getf (z := w (17 * a + 86) 9) rfl (lA0 (a := a) rfl g_a) rfl rfl rfl (e_bq h5 (by decide) (by decide)) ?_
  refine e_Ok.run (t' := (31, [(6, (0, 0)), (5, (0, w (17 * a + 86) 9)), (3, (4, x4)), (1, (4, x2)), (0, (1, 17 * a + 86))], [], w)) 3 rfl ?_
  have hL6 : ∀ (nn : Nat) (y1 : Int) (y3 : Int) (y5 : Int) (y6 : Int) (v1 : eW), e_fr (kPm a m) w v1 ∧ e_Has kTy v1 ∧ e_kn v1 (17 * a + 88) 0 y6 ∧ e_kn v1 (17 * a + 89) 0 y6 ∧ y6 ≤ w (17 * a + 86) 8 ∧ ((-2147483648) ≤ y5 ∧ y5 ≤ 2147483647) ∧ (0 ≤ y6 ∧ y6 ≤ 6) → 6 - y6 < nn → e_Ok 20 elay kcode eI (d + 1) 10 (31, [(0, (1, 17 * a + 86)), (1, (4, y1)), (3, (4, y3)), (5, (0, y5)), (6, (0, y6))], [], v1) (fun r w' => r = [] ∧ e_fr (kPm a m) w w' ∧ e_Has kTy w' ∧ aK w' a) := by
    intro nn
    induction nn with
    | zero => intro y1 y3 y5 y6 v1 hj hm; obtain ⟨j8, j9, j10, j11, j12, j13, j14⟩ := hj; exfalso; omega
    | succ nn ih7 =>
      intro y1 y3 y5 y6 v1 hj hm
      obtain ⟨j8, j9, j10, j11, j12, j13, j14⟩ := hj
      have l15 : v1 (17 * a + 86) 8 = w (17 * a + 86) 8 := j8 (17 * a + 86) 8 (by unfold kPm; omega)
      refine e_Ok.run (t' := (34, [(0, (1, 17 * a + 86)), (1, (4, y1)), (3, (4, y3)), (5, (0, y5)), (6, (0, y6))], [(1, 17 * a + 86), (0, y6)], v1)) 2 rfl ?_
      have h16 := (e_Has.get hT (c := 17 * a + 86) (k := 8) (lo := 0) (hi := 6) (kA_8 (a := a) rfl g_a) (by decide))
      refine e_Ok.getf (z := w (17 * a + 86) 8) rfl (lA0 (a := a) rfl g_a) rfl rfl ((j8 (17 * a + 86) 8 (by unfold kPm; omega)).trans rfl) (e_bq h16 (by decide) (by decide)) ?_
      refine e_Ok.if2 rfl (fun h17 => ?_) (fun h17 => ?_)
      · replace h17 : (y6 : Int) ≥ w (17 * a + 86) 8 := h17
        refine e_Ok.ps1 (x := (1, 17 * a + 86)) (q := 167) 1 rfl ?_
        refine e_Ok.getr (z := 17 * a + 88) rfl (lA0 (a := a) rfl g_a) rfl rfl ((j8 (17 * a + 86) 1 (by unfold kPm; omega)).trans (Eq.trans (e_Has.eq hT (kA_1 (a := a) rfl g_a)) (by omega))) (by omega) ?_
        refine e_Ok.ps1 (x := (1, 17 * a + 86)) (q := 171) 1 rfl ?_
        refine e_Ok.getf (z := w (17 * a + 86) 8) rfl (lA0 (a := a) rfl g_a) rfl rfl ((j8 (17 * a + 86) 8 (by unfold kPm; omega)).trans rfl) (by omega) ?_
        refine e_Ok.ps1 (x := (0, 1)) (q := 175) 1 rfl ?_
        refine e_Ok.add (z := w (17 * a + 86) 8 + 1) rfl rfl (by omega) ?_
        refine e_Ok.ps1 (x := (1, 17 * a + 86)) (q := 177) 1 rfl ?_
        refine e_Ok.getr (z := 17 * a + 88) rfl (lA0 (a := a) rfl g_a) rfl rfl ((j8 (17 * a + 86) 1 (by unfold kPm; omega)).trans (Eq.trans (e_Has.eq hT (kA_1 (a := a) rfl g_a)) (by omega))) (by omega) ?_
        refine e_Ok.ps1 (x := (1, 17 * a + 86)) (q := 181) 1 rfl ?_
        refine e_Ok.getf (z := w (17 * a + 86) 8) rfl (lA0 (a := a) rfl g_a) rfl rfl ((j8 (17 * a + 86) 8 (by unfold kPm; omega)).trans rfl) (by omega) ?_
        have h18 := (j10 (w (17 * a + 86) 8) (by omega) (by omega))
        refine e_Ok.ald (z := v1 (17 * a + 88) (w (17 * a + 86) 8)) rfl (lA2 (a := a) rfl g_a) rfl (by omega) rfl (by omega) ?_
        refine e_Ok.ast rfl (lA2 (a := a) rfl g_a) rfl rfl (by omega) ?_
        generalize hw19 : e_up v1 (17 * a + 88) (w (17 * a + 86) 8 + 1) (v1 (17 * a + 88) (w (17 * a + 86) 8)) = w19
        have f20 : e_fr (kPm a m) w w19 := e_fr.up j8 hw19 (by unfold kPm; omega)
        have l21 : w19 (17 * a + 86) 8 = w (17 * a + 86) 8 := f20 (17 * a + 86) 8 (by unfold kPm; omega)
        have hT22 : e_Has kTy w19 := e_Has.ups j9 hw19 (kA88 (a := a) _ rfl g_a)
        refine e_Ok.ps1 (x := (1, 17 * a + 86)) (q := 187) 1 rfl ?_
        refine e_Ok.getr (z := 17 * a + 89) rfl (lA0 (a := a) rfl g_a) rfl rfl (e_uq hw19 (Or.inl (e_neo (by decide))) ((j8 (17 * a + 86) 2 (by unfold kPm; omega)).trans (Eq.trans (e_Has.eq hT (kA_2 (a := a) rfl g_a)) (by omega)))) (by omega) ?_
        refine e_Ok.ps1 (x := (1, 17 * a + 86)) (q := 191) 1 rfl ?_
        refine e_Ok.getf (z := w (17 * a + 86) 8) rfl (lA0 (a := a) rfl g_a) rfl rfl (e_uq hw19 (Or.inl (e_neo (by decide))) ((j8 (17 * a + 86) 8 (by unfold kPm; omega)).trans rfl)) (by omega) ?_
        refine e_Ok.ps1 (x := (0, 1)) (q := 195) 1 rfl ?_
        refine e_Ok.add (z := w (17 * a + 86) 8 + 1) rfl rfl (by omega) ?_
        refine e_Ok.ps1 (x := (1, 17 * a + 86)) (q := 197) 1 rfl ?_
        refine e_Ok.getr (z := 17 * a + 89) rfl (lA0 (a := a) rfl g_a) rfl rfl (e_uq hw19 (Or.inl (e_neo (by decide))) ((j8 (17 * a + 86) 2 (by unfold kPm; omega)).trans (Eq.trans (e_Has.eq hT (kA_2 (a := a) rfl g_a)) (by omega)))) (by omega) ?_
        refine e_Ok.ps1 (x := (1, 17 * a + 86)) (q := 201) 1 rfl ?_
        refine e_Ok.getf (z := w (17 * a + 86) 8) rfl (lA0 (a := a) rfl g_a) rfl rfl (e_uq hw19 (Or.inl (e_neo (by decide))) ((j8 (17 * a + 86) 8 (by unfold kPm; omega)).trans rfl)) (by omega) ?_
        have h23 := (j11 (w (17 * a + 86) 8) (by omega) (by omega))
        refine e_Ok.ald (z := v1 (17 * a + 89) (w (17 * a + 86) 8)) rfl (lA3 (a := a) rfl g_a) rfl (by omega) (e_uq hw19 (Or.inl (e_neo (by decide))) rfl) (by omega) ?_
        refine e_Ok.ast rfl (lA3 (a := a) rfl g_a) rfl rfl (by omega) ?_
        generalize hw24 : e_up w19 (17 * a + 89) (w (17 * a + 86) 8 + 1) (v1 (17 * a + 89) (w (17 * a + 86) 8)) = w24
        have f25 : e_fr (kPm a m) w w24 := e_fr.up f20 hw24 (by unfold kPm; omega)
        have l26 : w24 (17 * a + 86) 8 = w (17 * a + 86) 8 := f25 (17 * a + 86) 8 (by unfold kPm; omega)
        have hT27 : e_Has kTy w24 := e_Has.ups hT22 hw24 (kA89 (a := a) _ rfl g_a)
        refine e_Ok.rets rfl rfl ?_
        exact ⟨rfl, f25, hT27, (by unfold aK; rw [(show w24 (17 * a + 86) 8 = w (17 * a + 86) 8 from f25 _ _ (by unfold kPm; omega))]; exact ⟨e_kn_sub (e_kn.oth (e_kn.ext (e_kn_sub (a' := 0) (b' := y6) j10 (by omega) (by omega)) hw19 (by omega) (by omega)) hw24 (by omega)) (by omega) (by omega), e_kn_sub (e_kn.ext (e_kn.oth (e_kn_sub (a' := 0) (b' := y6) j11 (by omega) (by omega)) hw19 (by omega)) hw24 (by omega) (by omega)) (by omega) (by omega)⟩)⟩
      · replace h17 : (y6 : Int) < w (17 * a + 86) 8 := Int.not_le.mp (show ¬ ((y6 : Int) ≥ w (17 * a + 86) 8) from h17)
        refine e_Ok.ps1 (x := (1, 17 * a + 86)) (q := 41) 1 rfl ?_
        refine e_Ok.getr (z := 17 * a + 87) rfl (lA0 (a := a) rfl g_a) rfl rfl ((j8 (17 * a + 86) 0 (by unfold kPm; omega)).trans (Eq.trans (e_Has.eq hT (kA_0 (a := a) rfl g_a)) (by omega))) (by omega) ?_
        refine e_Ok.ps1 (x := (0, y6)) (q := 46) 1 rfl ?_
        refine e_Ok.aald (z := 17 * a + y6 + 97) rfl (lA1 (a := a) rfl g_a) rfl (by omega) ((j8 (17 * a + 87) y6 (by unfold kPm; omega)).trans (Eq.trans (e_Has.eq hT (kA87 (a := a) rfl g_a (by omega))) (by omega))) (by omega) ?_
        have h28 := (e_Has.get hT (c := 17 * a + y6 + 97) (k := 3) (lo := (-2147483648)) (hi := 2147483647) (kJ_3 (a := a) (j := y6) (by omega) (by omega) (by omega)) (by decide))
        refine e_Ok.getf (z := w (17 * a + y6 + 97) 3) rfl (lJ (a := a) (j := y6) (by omega) (by omega) (by omega)) rfl rfl ((j8 (17 * a + y6 + 97) 3 (by unfold kPm; omega)).trans rfl) (e_bq h28 (by decide) (by decide)) ?_
        refine e_Ok.run (t' := (53, [(7, (0, w (17 * a + y6 + 97) 3)), (0, (1, 17 * a + 86)), (1, (4, y1)), (3, (4, y3)), (5, (0, y5)), (6, (0, y6))], [(1, 17 * a + 86)], v1)) 2 rfl ?_
        refine e_Ok.getr (z := 17 * a + 87) rfl (lA0 (a := a) rfl g_a) rfl rfl ((j8 (17 * a + 86) 0 (by unfold kPm; omega)).trans (Eq.trans (e_Has.eq hT (kA_0 (a := a) rfl g_a)) (by omega))) (by omega) ?_
        refine e_Ok.ps1 (x := (0, y6)) (q := 58) 1 rfl ?_
        refine e_Ok.aald (z := 17 * a + y6 + 97) rfl (lA1 (a := a) rfl g_a) rfl (by omega) ((j8 (17 * a + 87) y6 (by unfold kPm; omega)).trans (Eq.trans (e_Has.eq hT (kA87 (a := a) rfl g_a (by omega))) (by omega))) (by omega) ?_
        have h29 := (e_Has.get hT (c := 17 * a + y6 + 97) (k := 0) (lo := (-2147483648)) (hi := 2147483647) (kJ_0 (a := a) (j := y6) (by omega) (by omega) (by omega)) (by decide))
        refine e_Ok.getf (z := w (17 * a + y6 + 97) 0) rfl (lJ (a := a) (j := y6) (by omega) (by omega) (by omega)) rfl rfl ((j8 (17 * a + y6 + 97) 0 (by unfold kPm; omega)).trans rfl) (e_bq h29 (by decide) (by decide)) ?_
        refine e_Ok.if1 rfl (fun h30 => ?_) (fun h30 => ?_)
        · replace h30 : (w (17 * a + y6 + 97) 0 : Int) ≠ 0 := h30
          refine e_Ok.ps2 (x := (1, 17 * a + 86)) (y := (0, w (17 * a + y6 + 97) 3)) (q := 86) 2 rfl ?_
          refine e_Ok.getr (z := 17 * a + 87) rfl (lA0 (a := a) rfl g_a) rfl rfl ((j8 (17 * a + 86) 0 (by unfold kPm; omega)).trans (Eq.trans (e_Has.eq hT (kA_0 (a := a) rfl g_a)) (by omega))) (by omega) ?_
          refine e_Ok.ps1 (x := (0, y6)) (q := 91) 1 rfl ?_
          refine e_Ok.aald (z := 17 * a + y6 + 97) rfl (lA1 (a := a) rfl g_a) rfl (by omega) ((j8 (17 * a + 87) y6 (by unfold kPm; omega)).trans (Eq.trans (e_Has.eq hT (kA87 (a := a) rfl g_a (by omega))) (by omega))) (by omega) ?_
          have h31 := (e_Has.get hT (c := 17 * a + y6 + 97) (k := 7) (lo := (-2147483648)) (hi := 2147483647) (kJ_7 (a := a) (j := y6) (by omega) (by omega) (by omega)) (by decide))
          refine e_Ok.getf (z := w (17 * a + y6 + 97) 7) rfl (lJ (a := a) (j := y6) (by omega) (by omega) (by omega)) rfl rfl ((j8 (17 * a + y6 + 97) 7 (by unfold kPm; omega)).trans rfl) (e_bq h31 (by decide) (by decide)) ?_
          refine e_Ok.any rfl (eF_add_any _ _) (fun z32 z32a z32b => ?_)
          refine e_Ok.run (t' := (104, [(7, (0, z32)), (0, (1, 17 * a + 86)), (1, (4, y1)), (3, (4, y3)), (5, (0, y5)), (6, (0, y6))], [(0, y5), (4, z32), (4, y1)], v1)) 5 rfl ?_
          refine e_Ok.callS rfl (e_dq hd rfl) rfl rfl (c_250 (e_dq hd rfl) (by omega)) (fun r33 w34 h35 => ?_)
          obtain ⟨z37, rfl, rfl, q36r⟩ := h35
          refine e_Ok.nrm (q := 107) (st' := [(0, z37), (4, z32), (4, y1)]) rfl rfl ?_
          refine e_Ok.run (t' := (108, [(7, (0, z32)), (0, (1, 17 * a + 86)), (1, (4, y1)), (3, (4, y3)), (5, (0, y5)), (6, (0, y6))], [(4, z37), (4, z32), (4, y1)], v1)) 1 rfl ?_
          refine e_Ok.anyL rfl ⟨_, rfl⟩ (fun x38 => ?_)
          refine e_Ok.anyL rfl ⟨_, rfl⟩ (fun x40 => ?_)
          refine e_Ok.run (t' := (117, [(1, (4, x40)), (7, (0, z32)), (0, (1, 17 * a + 86)), (3, (4, y3)), (5, (0, y5)), (6, (0, y6))], [(0, y5), (4, z32), (4, y3)], v1)) 5 rfl ?_
          refine e_Ok.callS rfl (e_dq hd rfl) rfl rfl (c_249 (by omega)) (fun r41 w42 h43 => ?_)
          obtain ⟨z45, rfl, rfl, q44r⟩ := h43
          refine e_Ok.nrm (q := 120) (st' := [(0, z45), (4, z32), (4, y3)]) rfl rfl ?_
          refine e_Ok.run (t' := (121, [(1, (4, x40)), (7, (0, z32)), (0, (1, 17 * a + 86)), (3, (4, y3)), (5, (0, y5)), (6, (0, y6))], [(4, z45), (4, z32), (4, y3)], v1)) 1 rfl ?_
          refine e_Ok.anyL rfl ⟨_, rfl⟩ (fun x46 => ?_)
          refine e_Ok.anyL rfl ⟨_, rfl⟩ (fun x47 => ?_)
          refine e_Ok.run (t' := (125, [(3, (4, x47)), (1, (4, x40)), (7, (0, z32)), (0, (1, 17 * a + 86)), (5, (0, y5)), (6, (0, y6))], [(1, 17 * a + 86)], v1)) 2 rfl ?_
          refine e_Ok.getr (z := 17 * a + 88) rfl (lA0 (a := a) rfl g_a) rfl rfl ((j8 (17 * a + 86) 1 (by unfold kPm; omega)).trans (Eq.trans (e_Has.eq hT (kA_1 (a := a) rfl g_a)) (by omega))) (by omega) ?_
          refine e_Ok.ps2 (x := (0, 1)) (y := (0, y6)) (q := 131) 2 rfl ?_
          refine e_Ok.add (z := y6 + 1) rfl rfl (by omega) ?_
          refine e_Ok.ps2 (x := (4, 524288)) (y := (4, x40)) (q := 136) 2 rfl ?_
          refine e_Ok.anyL rfl ⟨_, rfl⟩ (fun x48 => ?_)
          refine e_Ok.ps1 (x := (0, 20)) (q := 139) 1 rfl ?_
          refine e_Ok.anyS rfl ⟨_, rfl⟩ (fun x49 => ?_)
          refine e_Ok.l2i rfl (fun z50 z50a z50b => ?_)
          refine e_Ok.ast rfl (lA2 (a := a) rfl g_a) rfl rfl (by omega) ?_
          generalize hw51 : e_up v1 (17 * a + 88) (y6 + 1) z50 = w51
          have f52 : e_fr (kPm a m) w w51 := e_fr.up j8 hw51 (by unfold kPm; omega)
          have l53 : w51 (17 * a + 86) 8 = w (17 * a + 86) 8 := f52 (17 * a + 86) 8 (by unfold kPm; omega)
          have hT54 : e_Has kTy w51 := e_Has.ups j9 hw51 (kA88 (a := a) _ rfl g_a)
          refine e_Ok.run (t' := (143, [(3, (4, x47)), (1, (4, x40)), (7, (0, z32)), (0, (1, 17 * a + 86)), (5, (0, y5)), (6, (0, y6))], [(1, 17 * a + 86)], w51)) 1 rfl ?_
          refine e_Ok.getr (z := 17 * a + 89) rfl (lA0 (a := a) rfl g_a) rfl rfl (e_uq hw51 (Or.inl (e_neo (by decide))) ((j8 (17 * a + 86) 2 (by unfold kPm; omega)).trans (Eq.trans (e_Has.eq hT (kA_2 (a := a) rfl g_a)) (by omega)))) (by omega) ?_
          refine e_Ok.ps2 (x := (0, 1)) (y := (0, y6)) (q := 149) 2 rfl ?_
          refine e_Ok.add (z := y6 + 1) rfl rfl (by omega) ?_
          refine e_Ok.ps2 (x := (4, 524288)) (y := (4, x47)) (q := 154) 2 rfl ?_
          refine e_Ok.anyL rfl ⟨_, rfl⟩ (fun x55 => ?_)
          refine e_Ok.ps1 (x := (0, 20)) (q := 157) 1 rfl ?_
          refine e_Ok.anyS rfl ⟨_, rfl⟩ (fun x56 => ?_)
          refine e_Ok.l2i rfl (fun z57 z57a z57b => ?_)
          refine e_Ok.ast rfl (lA3 (a := a) rfl g_a) rfl rfl (by omega) ?_
          generalize hw58 : e_up w51 (17 * a + 89) (y6 + 1) z57 = w58
          have f59 : e_fr (kPm a m) w w58 := e_fr.up f52 hw58 (by unfold kPm; omega)
          have l60 : w58 (17 * a + 86) 8 = w (17 * a + 86) 8 := f59 (17 * a + 86) 8 (by unfold kPm; omega)
          have hT61 : e_Has kTy w58 := e_Has.ups hT54 hw58 (kA89 (a := a) _ rfl g_a)
          refine e_Ok.inc (z := y6 + 1) rfl rfl (by first | with_reducible rfl | omega) (by omega) ?_
          show e_Ok 20 elay kcode eI (d + 1) 10 (163, [(6, (0, y6 + 1)), (3, (4, x47)), (1, (4, x40)), (7, (0, z32)), (0, (1, 17 * a + 86)), (5, (0, y5))], [], w58) _
          refine e_Ok.ps0 (q := 31) 1 rfl ?_
          refine e_Ok.sub kAlk (e_sub_of rfl ?_) (ih7 x40 x47 y5 (y6 + 1) w58 ⟨f59, hT61, (e_kn_sub (e_kn.oth (e_kn.ext j10 hw51 (by omega) (by omega)) hw58 (by omega)) (by omega) (by omega)), (e_kn_sub (e_kn.ext (e_kn.oth j11 hw51 (by omega)) hw58 (by omega) (by omega)) (by omega) (by omega)), by omega, by omega, by omega⟩ (by omega))
          exact ⟨rfl, rfl, rfl, rfl, rfl, trivial⟩
        · replace h30 : (w (17 * a + y6 + 97) 0 : Int) = 0 := Classical.not_not.mp (show ¬ ((w (17 * a + y6 + 97) 0 : Int) ≠ 0) from h30)
          refine e_Ok.ps2 (x := (1, 17 * a + 86)) (y := (0, y5)) (q := 68) 2 rfl ?_
          refine e_Ok.getr (z := 17 * a + 87) rfl (lA0 (a := a) rfl g_a) rfl rfl ((j8 (17 * a + 86) 0 (by unfold kPm; omega)).trans (Eq.trans (e_Has.eq hT (kA_0 (a := a) rfl g_a)) (by omega))) (by omega) ?_
          refine e_Ok.ps1 (x := (0, y6)) (q := 73) 1 rfl ?_
          refine e_Ok.aald (z := 17 * a + y6 + 97) rfl (lA1 (a := a) rfl g_a) rfl (by omega) ((j8 (17 * a + 87) y6 (by unfold kPm; omega)).trans (Eq.trans (e_Has.eq hT (kA87 (a := a) rfl g_a (by omega))) (by omega))) (by omega) ?_
          have h62 := (e_Has.get hT (c := 17 * a + y6 + 97) (k := 7) (lo := (-2147483648)) (hi := 2147483647) (kJ_7 (a := a) (j := y6) (by omega) (by omega) (by omega)) (by decide))
          refine e_Ok.getf (z := w (17 * a + y6 + 97) 7) rfl (lJ (a := a) (j := y6) (by omega) (by omega) (by omega)) rfl rfl ((j8 (17 * a + y6 + 97) 7 (by unfold kPm; omega)).trans rfl) (e_bq h62 (by decide) (by decide)) ?_
          refine e_Ok.any rfl (eF_add_any _ _) (fun z63 z63a z63b => ?_)
          refine e_Ok.run (t' := (104, [(5, (0, z63)), (7, (0, w (17 * a + y6 + 97) 3)), (0, (1, 17 * a + 86)), (1, (4, y1)), (3, (4, y3)), (6, (0, y6))], [(0, z63), (4, w (17 * a + y6 + 97) 3), (4, y1)], v1)) 6 rfl ?_
          refine e_Ok.callS rfl (e_dq hd rfl) rfl rfl (c_250 (e_dq hd rfl) (by omega)) (fun r64 w65 h66 => ?_)
          obtain ⟨z68, rfl, rfl, q67r⟩ := h66
          refine e_Ok.nrm (q := 107) (st' := [(0, z68), (4, w (17 * a + y6 + 97) 3), (4, y1)]) rfl rfl ?_
          refine e_Ok.run (t' := (108, [(5, (0, z63)), (7, (0, w (17 * a + y6 + 97) 3)), (0, (1, 17 * a + 86)), (1, (4, y1)), (3, (4, y3)), (6, (0, y6))], [(4, z68), (4, w (17 * a + y6 + 97) 3), (4, y1)], v1)) 1 rfl ?_
          refine e_Ok.anyL rfl ⟨_, rfl⟩ (fun x69 => ?_)
          refine e_Ok.anyL rfl ⟨_, rfl⟩ (fun x70 => ?_)
          refine e_Ok.run (t' := (117, [(1, (4, x70)), (5, (0, z63)), (7, (0, w (17 * a + y6 + 97) 3)), (0, (1, 17 * a + 86)), (3, (4, y3)), (6, (0, y6))], [(0, z63), (4, w (17 * a + y6 + 97) 3), (4, y3)], v1)) 5 rfl ?_
          refine e_Ok.callS rfl (e_dq hd rfl) rfl rfl (c_249 (by omega)) (fun r71 w72 h73 => ?_)
          obtain ⟨z75, rfl, rfl, q74r⟩ := h73
          refine e_Ok.nrm (q := 120) (st' := [(0, z75), (4, w (17 * a + y6 + 97) 3), (4, y3)]) rfl rfl ?_
          refine e_Ok.run (t' := (121, [(1, (4, x70)), (5, (0, z63)), (7, (0, w (17 * a + y6 + 97) 3)), (0, (1, 17 * a + 86)), (3, (4, y3)), (6, (0, y6))], [(4, z75), (4, w (17 * a + y6 + 97) 3), (4, y3)], v1)) 1 rfl ?_
          refine e_Ok.anyL rfl ⟨_, rfl⟩ (fun x76 => ?_)
          refine e_Ok.anyL rfl ⟨_, rfl⟩ (fun x77 => ?_)
          refine e_Ok.run (t' := (125, [(3, (4, x77)), (1, (4, x70)), (5, (0, z63)), (7, (0, w (17 * a + y6 + 97) 3)), (0, (1, 17 * a + 86)), (6, (0, y6))], [(1, 17 * a + 86)], v1)) 2 rfl ?_
          refine e_Ok.getr (z := 17 * a + 88) rfl (lA0 (a := a) rfl g_a) rfl rfl ((j8 (17 * a + 86) 1 (by unfold kPm; omega)).trans (Eq.trans (e_Has.eq hT (kA_1 (a := a) rfl g_a)) (by omega))) (by omega) ?_
          refine e_Ok.ps2 (x := (0, 1)) (y := (0, y6)) (q := 131) 2 rfl ?_
          refine e_Ok.add (z := y6 + 1) rfl rfl (by omega) ?_
          refine e_Ok.ps2 (x := (4, 524288)) (y := (4, x70)) (q := 136) 2 rfl ?_
          refine e_Ok.anyL rfl ⟨_, rfl⟩ (fun x78 => ?_)
          refine e_Ok.ps1 (x := (0, 20)) (q := 139) 1 rfl ?_
          refine e_Ok.anyS rfl ⟨_, rfl⟩ (fun x79 => ?_)
          refine e_Ok.l2i rfl (fun z80 z80a z80b => ?_)
          refine e_Ok.ast rfl (lA2 (a := a) rfl g_a) rfl rfl (by omega) ?_
          generalize hw81 : e_up v1 (17 * a + 88) (y6 + 1) z80 = w81
          have f82 : e_fr (kPm a m) w w81 := e_fr.up j8 hw81 (by unfold kPm; omega)
          have l83 : w81 (17 * a + 86) 8 = w (17 * a + 86) 8 := f82 (17 * a + 86) 8 (by unfold kPm; omega)
          have hT84 : e_Has kTy w81 := e_Has.ups j9 hw81 (kA88 (a := a) _ rfl g_a)
          refine e_Ok.run (t' := (143, [(3, (4, x77)), (1, (4, x70)), (5, (0, z63)), (7, (0, w (17 * a + y6 + 97) 3)), (0, (1, 17 * a + 86)), (6, (0, y6))], [(1, 17 * a + 86)], w81)) 1 rfl ?_
          refine e_Ok.getr (z := 17 * a + 89) rfl (lA0 (a := a) rfl g_a) rfl rfl (e_uq hw81 (Or.inl (e_neo (by decide))) ((j8 (17 * a + 86) 2 (by unfold kPm; omega)).trans (Eq.trans (e_Has.eq hT (kA_2 (a := a) rfl g_a)) (by omega)))) (by omega) ?_
          refine e_Ok.ps2 (x := (0, 1)) (y := (0, y6)) (q := 149) 2 rfl ?_
          refine e_Ok.add (z := y6 + 1) rfl rfl (by omega) ?_
          refine e_Ok.ps2 (x := (4, 524288)) (y := (4, x77)) (q := 154) 2 rfl ?_
          refine e_Ok.anyL rfl ⟨_, rfl⟩ (fun x85 => ?_)
          refine e_Ok.ps1 (x := (0, 20)) (q := 157) 1 rfl ?_
          refine e_Ok.anyS rfl ⟨_, rfl⟩ (fun x86 => ?_)
          refine e_Ok.l2i rfl (fun z87 z87a z87b => ?_)
          refine e_Ok.ast rfl (lA3 (a := a) rfl g_a) rfl rfl (by omega) ?_
          generalize hw88 : e_up w81 (17 * a + 89) (y6 + 1) z87 = w88
          have f89 : e_fr (kPm a m) w w88 := e_fr.up f82 hw88 (by unfold kPm; omega)
          have l90 : w88 (17 * a + 86) 8 = w (17 * a + 86) 8 := f89 (17 * a + 86) 8 (by unfold kPm; omega)
          have hT91 : e_Has kTy w88 := e_Has.ups hT84 hw88 (kA89 (a := a) _ rfl g_a)
          refine e_Ok.inc (z := y6 + 1) rfl rfl (by first | with_reducible rfl | omega) (by omega) ?_
          show e_Ok 20 elay kcode eI (d + 1) 10 (163, [(6, (0, y6 + 1)), (3, (4, x77)), (1, (4, x70)), (5, (0, z63)), (7, (0, w (17 * a + y6 + 97) 3)), (0, (1, 17 * a + 86))], [], w88) _
          refine e_Ok.ps0 (q := 31) 1 rfl ?_
          refine e_Ok.sub kAlk (e_sub_of rfl ?_) (ih7 x70 x77 z63 (y6 + 1) w88 ⟨f89, hT91, (e_kn_sub (e_kn.oth (e_kn.ext j10 hw81 (by omega) (by omega)) hw88 (by omega)) (by omega) (by omega)), (e_kn_sub (e_kn.ext (e_kn.oth j11 hw81 (by omega)) hw88 (by omega) (by omega)) (by omega) (by omega)), by omega, by omega, by omega⟩ (by omega))
          exact ⟨rfl, rfl, rfl, rfl, rfl, trivial⟩
  refine e_Ok.sub kAlk (e_sub_of rfl ?_) (hL6 (6 + 1 : Int).toNat x2 x4 (w (17 * a + 86) 9) 0 w ⟨(e_fr.refl w), hT, (fun i g1 g2 => by rw [show i = 0 by omega]; exact hx0), (fun i g1 g2 => by rw [show i = 0 by omega]; exact hy0), by omega, by omega, by omega⟩ (by omega))
  exact ⟨rfl, rfl, rfl, rfl, rfl, trivial⟩
theorem c_452_68 {d : Nat} {w : eW} (hT : e_Has kTy w) : e_Ok 20 elay kcode eI d 452 (0, [(0, (1, 268)), (1, (0, 0))], [], w) (fun r w' => r = [] ∧ e_fr kF68 w w' ∧ e_Has kTy w' ∧ (∀ k, 0 ≤ k → k < 1000 → w' 268 k = 0)) := by
  refine e_Ok.run (t' := (3, [(2, (0, 0)), (0, (1, 268)), (1, (0, 0))], [(1, 268)], w)) 3 rfl ?_
  refine e_Ok.alen rfl rfl rfl ?_
  refine e_Ok.run (t' := (5, [(3, (0, 1000)), (2, (0, 0)), (0, (1, 268)), (1, (0, 0))], [], w)) 1 rfl ?_
  have hL1 : ∀ (nn : Nat) (y2 : Int) (v1 : eW), e_fr kF68 w v1 ∧ e_Has kTy v1 ∧ (∀ i, 0 ≤ i → i < y2 → v1 268 i = 0) ∧ (0 ≤ y2 ∧ y2 ≤ 1000) → 1000 - y2 < nn → e_Ok 20 elay kcode eI d 452 (5, [(0, (1, 268)), (1, (0, 0)), (2, (0, y2)), (3, (0, 1000))], [], v1) (fun r w' => r = [] ∧ e_fr kF68 w w' ∧ e_Has kTy w' ∧ (∀ k, 0 ≤ k → k < 1000 → w' 268 k = 0)) := by
    intro nn
    induction nn with
    | zero => intro y2 v1 hj hm; obtain ⟨j3, j4, j5, j6⟩ := hj; exfalso; omega
    | succ nn ih2 =>
      intro y2 v1 hj hm
      obtain ⟨j3, j4, j5, j6⟩ := hj
      refine e_Ok.run (t' := (7, [(0, (1, 268)), (1, (0, 0)), (2, (0, y2)), (3, (0, 1000))], [(0, 1000), (0, y2)], v1)) 2 rfl ?_
      refine e_Ok.if2 rfl (fun h7 => ?_) (fun h7 => ?_)
      · replace h7 : (y2 : Int) ≥ 1000 := h7
        refine e_Ok.rets rfl rfl ?_
        exact ⟨rfl, j3, j4, fun k g1 g2 => j5 k g1 (by omega)⟩
      · replace h7 : (y2 : Int) < 1000 := Int.not_le.mp (show ¬ ((y2 : Int) ≥ 1000) from h7)
        refine e_Ok.ps3 (x := (0, 0)) (y := (0, y2)) (z := (1, 268)) (q := 13) 3 rfl ?_
        refine e_Ok.ast rfl (el_o rfl) rfl rfl (by omega) ?_
        generalize hw8 : e_up v1 268 y2 0 = w8
        have hT10 : e_Has kTy w8 := e_Has.ups j4 hw8 rfl
        refine e_Ok.inc (z := y2 + 1) rfl rfl (by first | with_reducible rfl | omega) (by omega) ?_
        show e_Ok 20 elay kcode eI d 452 (17, [(2, (0, y2 + 1)), (0, (1, 268)), (1, (0, 0)), (3, (0, 1000))], [], w8) _
        refine e_Ok.ps0 (q := 5) 1 rfl ?_
        refine e_Ok.sub kAlk (e_sub_of rfl ?_) (ih2 (y2 + 1) w8 ⟨(show e_fr kF68 w w8 from e_fr.up j3 hw8 (by first | exact rfl | (unfold kF68; omega))), hT10, (fun i g1 g2 => by rw [← hw8]; by_cases e : i = y2; (rw [e, e_up_eq]); (rw [e_up_ne _ _ (Or.inr e)]; exact j5 i g1 (by omega))), by omega⟩ (by omega))
        exact ⟨rfl, rfl, rfl, rfl, trivial⟩
  refine e_Ok.sub kAlk (e_sub_of rfl ?_) (hL1 (1000 + 1 : Int).toNat 0 w ⟨(e_fr.refl w), hT, (fun i g1 g2 => by omega), by omega⟩ (by omega))
  exact ⟨rfl, rfl, rfl, rfl, trivial⟩
theorem e_Ok.and {d M : Nat} {t : eS} {Q Q' : List eV → eW → Prop} (h : e_Ok 20 elay kcode eI d M t Q) (h' : e_Ok 20 elay kcode eI d M t Q') : e_Ok 20 elay kcode eI d M t (fun r v => Q r v ∧ Q' r v) := by
  obtain ⟨n, r, v, h1, h2⟩ := h
  obtain ⟨n', r', v', h3, h4⟩ := h'
  have e := e_go_one h1 h3
  have e1 : r = r' := congrArg Prod.fst e
  have e2 : v = v' := congrArg Prod.snd e
  exact ⟨n, r, v, h1, h2, by rw [e1, e2]; exact h4⟩
theorem c_10_pm {d : Nat} (hd : 22 ≤ d) {w : eW} (hT : e_Has kTy w) {a m : Int} (ga : 0 ≤ a ∧ a ≤ 3) (hm : w (17 * a + 86) 8 = m) (hx : kn1 (w (17 * a + 88) 0)) (hy : kn1 (w (17 * a + 89) 0)) : e_Ok 20 elay kcode eI d 10 (0, [(0, (1, 17 * a + 86))], [], w) (fun r w' => r = [] ∧ e_fr (kPm a m) w w' ∧ e_Has kTy w' ∧ aK w' a ∧ aP w' a) := by
  refine (e_Ok.and (c_10_p hd hT ga hx hy) (c_10_m hd hT ga hm hx hy)).imp (fun r v g => ?_)
  obtain ⟨⟨g1, -, g3, g4, g5⟩, -, g6, -⟩ := g
  exact ⟨g1, g6, g3, g4, g5⟩
section Db
variable {w w' : eW} {f : Int → Int} {m N t og : Int}
theorem aK.all {a : Int} (ga : 0 ≤ a ∧ a ≤ 3) {S : Int → Int → Prop} (fr : e_fr S w w') (hS : ∀ b c k, 0 ≤ b → b ≤ 3 → b ≠ a → S c k → c ≠ 17 * b + 88 ∧ c ≠ 17 * b + 89 ∧ ¬ (c = 17 * b + 86 ∧ k = 8)) (ka : ∀ b, 0 ≤ b → b ≤ 3 → aK w b) (h : aK w' a) : ∀ b, 0 ≤ b → b ≤ 3 → aK w' b := fun b g1 g2 => by
  by_cases e : b = a
  · rw [e]; exact h
  · exact (ka b g1 g2).eq (fun c k g => fr c k (fun g3 => by have z := hS b c k g1 g2 e g3; omega))
theorem aK.any {S : Int → Int → Prop} (fr : e_fr S w w') (hS : ∀ b c k, 0 ≤ b → b ≤ 3 → S c k → c ≠ 17 * b + 88 ∧ c ≠ 17 * b + 89 ∧ ¬ (c = 17 * b + 86 ∧ k = 8)) (ka : ∀ b, 0 ≤ b → b ≤ 3 → aK w b) : ∀ b, 0 ≤ b → b ≤ 3 → aK w' b := fun b g1 g2 => (ka b g1 g2).eq (fun c k g => fr c k (fun g3 => by have z := hS b c k g1 g2 g3; omega))
/-- how far the search has come: tail t, N nodes, from og -/
def BF (w : eW) (f : Int → Int) (m N t og : Int) : Prop := (1 ≤ t ∧ t ≤ 1000) ∧ (∀ i, 0 ≤ i → i < t → 0 ≤ w 267 i ∧ w 267 i < N) ∧ (w 267 0 = og ∧ w 268 og = 100) ∧ (∀ i, 1 ≤ i → i < t → (1 ≤ w 268 (w 267 i) ∧ w 268 (w 267 i) ≤ 2 * m) ∧ ∃ j, (0 ≤ j ∧ j < i) ∧ kln f (w 267 j) (w 267 i) (w 268 (w 267 i) - 1)) ∧ ∀ x, 0 ≤ x → x < N → w 268 x = -1 ∨ w 268 x = 0 ∨ ∃ i, (0 ≤ i ∧ i < t) ∧ w 267 i = x
theorem BF.pos (h : BF w f m N t og) {i : Int} (hi : 0 ≤ i ∧ i < t) : 1 ≤ w 268 (w 267 i) ∧ (i = 0 → w 268 (w 267 i) = 100) ∧ (1 ≤ i → w 268 (w 267 i) ≤ 2 * m) := by
  by_cases e : i = 0
  · rw [e, h.2.2.1.1, h.2.2.1.2]
    exact ⟨by omega, fun _ => rfl, fun g => by omega⟩
  · have z := (h.2.2.2.1 i (by omega) hi.2).1
    exact ⟨z.1, fun g => absurd g e, fun _ => z.2⟩
theorem BF.came (h : BF w f m N t og) (hm : m ≤ 6) {x : Int} (hx : 0 ≤ x ∧ x < N) : -1 ≤ w 268 x ∧ w 268 x ≤ 100 := by
  rcases h.2.2.2.2 x hx.1 hx.2 with g | g | ⟨i, hi, g⟩
  · omega
  · omega
  · have z := h.pos hi
    rw [g] at z
    by_cases e : i = 0
    · have := z.2.1 e; omega
    · have := z.2.2 (by omega); omega
theorem BF.eq (h : BF w f m N t og) (e : ∀ c k, (c = 267 ∨ c = 268) → w' c k = w c k) : BF w' f m N t og := by
  obtain ⟨h1, h2, h3, h4, h5⟩ := h
  have e7 : w' 267 = w 267 := funext (fun k => e 267 k (by omega))
  have e8 : w' 268 = w 268 := funext (fun k => e 268 k (by omega))
  unfold BF
  rw [e7, e8]
  exact ⟨h1, h2, h3, h4, h5⟩
/-- a node that was not come to is blocked, or not -/
theorem BF.blk (h : BF w f m N t og) {x : Int} (hx : 0 ≤ x ∧ x < N) (h0 : w 268 x = 0) (e7 : ∀ k, w' 267 k = w 267 k) (e8 : ∀ k, k ≠ x → w' 268 k = w 268 k) (e9 : w' 268 x = w 268 x ∨ w' 268 x = -1) : BF w' f m N t og := by
  have ne : ∀ i, 0 ≤ i → i < t → w 267 i ≠ x := fun i g1 g2 g3 => by
    have z := (h.pos ⟨g1, g2⟩).1
    rw [g3] at z
    omega
  obtain ⟨h1, h2, h3, h4, h5⟩ := h
  refine ⟨h1, fun i g1 g2 => by rw [e7]; exact h2 i g1 g2, ⟨by rw [e7]; exact h3.1, ?_⟩, fun i g1 g2 => ?_, fun y g1 g2 => ?_⟩
  · rw [e8 og (by have z := ne 0 (by omega) (by omega); rw [h3.1] at z; exact z)]
    exact h3.2
  · obtain ⟨z1, j, z2, z3⟩ := h4 i g1 g2
    rw [e7 i, e8 _ (ne i (by omega) g2)]
    exact ⟨z1, j, z2, by rw [e7]; exact z3⟩
  · by_cases e : y = x
    · rw [e]
      rcases e9 with g | g
      · right; left; rw [g]; exact h0
      · left; exact g
    · rw [e8 y e]
      rcases h5 y g1 g2 with g | g | ⟨i, hi, g⟩
      · exact Or.inl g
      · exact Or.inr (Or.inl g)
      · exact Or.inr (Or.inr ⟨i, hi, by rw [e7]; exact g⟩)
theorem BF.add (h : BF w f m N t og) {x s i : Int} {w1 : eW} (hx : 0 ≤ x ∧ x < N) (h0 : w 268 x < 1) (ht : t < 1000) (hs : 0 ≤ s ∧ s < 2 * m) (hi : 0 ≤ i ∧ i < t) (hl : kln f (w 267 i) x s) (k1 : e_up w 268 x (s + 1) = w1) (k2 : e_up w1 267 t x = w') : BF w' f m N (t + 1) og := by
  have ne : ∀ i, 0 ≤ i → i < t → w 267 i ≠ x := fun i g1 g2 g3 => by
    have z := (h.pos ⟨g1, g2⟩).1
    rw [g3] at z
    omega
  have e7 : ∀ k, k ≠ t → w' 267 k = w 267 k := fun k g => by rw [← k2, e_up_ne _ _ (by omega), ← k1, e_up_ne _ _ (by omega)]
  have e7t : w' 267 t = x := by rw [← k2, e_up_eq]
  have e8 : ∀ k, k ≠ x → w' 268 k = w 268 k := fun k g => by rw [← k2, e_up_ne _ _ (by omega), ← k1, e_up_ne _ _ (by omega)]
  have e8x : w' 268 x = s + 1 := by rw [← k2, e_up_ne _ _ (by omega), ← k1, e_up_eq]
  obtain ⟨h1, h2, h3, h4, h5⟩ := h
  refine ⟨by omega, fun i g1 g2 => ?_, ⟨by rw [e7 0 (by omega)]; exact h3.1, ?_⟩, fun i' g1 g2 => ?_, fun y g1 g2 => ?_⟩
  · by_cases e : i = t
    · rw [e, e7t]; exact hx
    · rw [e7 i e]; exact h2 i g1 (by omega)
  · rw [e8 og (by have z := ne 0 (by omega) (by omega); rw [h3.1] at z; exact z)]
    exact h3.2
  · by_cases e : i' = t
    · rw [e, e7t, e8x]
      exact ⟨by omega, i, by omega, by rw [e7 i (by omega), show s + 1 - 1 = s by omega]; exact hl⟩
    · obtain ⟨z1, j, z2, z3⟩ := h4 i' g1 (by omega)
      rw [e7 i' e, e8 _ (ne i' (by omega) (by omega))]
      exact ⟨z1, j, z2, by rw [e7 j (by omega)]; exact z3⟩
  · by_cases e : y = x
    · exact Or.inr (Or.inr ⟨t, by omega, by rw [e7t]; exact e.symm⟩)
    · rw [e8 y e]
      rcases h5 y g1 g2 with g | g | ⟨j, hj, g⟩
      · exact Or.inl g
      · exact Or.inr (Or.inl g)
      · exact Or.inr (Or.inr ⟨j, by omega, by rw [e7 j (by omega)]; exact g⟩)
theorem BF.start {w1 : eW} (ho : 0 ≤ og ∧ og < N) (h0 : ∀ k, 0 ≤ k → k < 1000 → w 268 k = 0) (hN : N ≤ 1000) (k1 : e_up w 268 og 100 = w1) (k2 : e_up w1 267 0 og = w') : BF w' f m N 1 og := by
  have e8 : ∀ k, k ≠ og → w' 268 k = w 268 k := fun k g => by rw [← k2, e_up_ne _ _ (by omega), ← k1, e_up_ne _ _ (by omega)]
  have e8o : w' 268 og = 100 := by rw [← k2, e_up_ne _ _ (by omega), ← k1, e_up_eq]
  have e7 : w' 267 0 = og := by rw [← k2, e_up_eq]
  refine ⟨by omega, fun i g1 g2 => by rw [show i = 0 by omega, e7]; exact ho, ⟨e7, e8o⟩, fun i g1 g2 => by omega, fun x g1 g2 => ?_⟩
  by_cases e : x = og
  · exact Or.inr (Or.inr ⟨0, by omega, by rw [e7]; exact e.symm⟩)
  · exact Or.inr (Or.inl (by rw [e8 x e]; exact h0 x g1 (by omega)))
theorem sr_nh {a m c k : Int} (ga : 0 ≤ a ∧ a ≤ 3) (hm : m ≤ 6) (h : kSr a m c k) : kNh c k := by
  unfold kSr at h
  rcases h with h | h | h | h | h
  · exact Or.inl (Or.inr (Or.inr (Or.inr (Or.inr (Or.inr (Or.inr (Or.inr (Or.inr (Or.inr (Or.inr (Or.inr (Or.inr (Or.inr (Or.inr (Or.inr (Or.inr ((by omega))))))))))))))))))
  · exact Or.inl (Or.inr (Or.inr (Or.inr (Or.inr (Or.inr (Or.inr (Or.inr (Or.inr (Or.inr (Or.inr (Or.inr (Or.inr (Or.inr (Or.inr (Or.inl (by omega))))))))))))))))
  · exact Or.inl (Or.inr (Or.inr (Or.inr (Or.inr (Or.inr (Or.inr (Or.inr (Or.inr (Or.inr (Or.inr (Or.inl (by omega))))))))))))
  · unfold kNh; omega
  · unfold kNh; omega
theorem aQ.sr {a m : Int} (ga : 0 ≤ a ∧ a ≤ 3) (hm : m ≤ 6) (fr : e_fr (kSr a m) w w') (hT : e_Has kTy w) (hT' : e_Has kTy w') (ha : aP w a → aP w' a) : aQ w w' := fun b g1 g2 h => by
  by_cases e : b = a
  · rw [e] at h ⊢
    exact ha h
  · have hjn := kn_joints hT (a := b) ⟨g1, g2⟩
    refine h.eq (fr _ _ (by unfold kSr; omega)) (fun c k q => ?_) (fun k g => ⟨fr _ _ (by unfold kSr; omega), fr _ _ (by unfold kSr; omega)⟩)
    rcases q with q | ⟨j, hj, rfl, rfl⟩
    · exact Kq.of (fr.mono (fun c k g => sr_nh ga hm g)) hT hT' c k q
    · exact fr _ _ (by unfold kSr; omega)
end Db
theorem no_db_0 {k : Int} : ¬ kTc 262 k := by unfold kTc; omega
theorem su_db_1 {a : Int} {m : Int} {c k : Int} (q : kPm a m c k) : kPs a m c k := by
  unfold kPm at q
  rcases q with ⟨(q | q), ⟨q, q⟩⟩
  · exact Or.inr (Or.inl ⟨Or.inl (by omega), ⟨(by omega), (by omega)⟩⟩)
  · exact Or.inr (Or.inl ⟨Or.inr (by omega), ⟨(by omega), (by omega)⟩⟩)
theorem su_db_2 {a : Int} {m : Int} {c k : Int} (q : kTc c k) : kPs a m c k := by
  unfold kTc at q
  rcases q with ⟨q, ⟨q, q⟩⟩
  · exact Or.inr (Or.inr (Or.inl ⟨(by omega), ⟨(by omega), (by omega)⟩⟩))
set_option maxHeartbeats 4000000 in
theorem c_104 {d : Nat} (hd : 24 ≤ d) {w : eW} (hT : e_Has kTy w) {a n m : Int} (hL : lyI w a n m) (ga : 0 ≤ a ∧ a ≤ 3) {cn s x : Int} (gc : 0 ≤ cn ∧ cn ≤ 4) (gs : 0 ≤ s ∧ s < 2 * m) (gx : 0 ≤ x ∧ x ≤ 999) (ka : ∀ b, 0 ≤ b → b ≤ 3 → aK w b) (hv : ∀ j, 0 ≤ j ∧ j < m → -100000 ≤ w (17 * a + j + 97) 7 ∧ w (17 * a + j + 97) 7 ≤ 100000) : e_Ok 20 elay kcode eI d 104 (0, [(0, (1, 262)), (1, (1, 9)), (2, (0, cn)), (3, (1, 250)), (4, (0, a)), (5, (0, s)), (6, (0, x))], [], w) (fun r w' => ∃ z : Int, r = [(0, z)] ∧ e_fr (kPs a m) w w' ∧ e_Has kTy w' ∧ (0 ≤ z ∧ z ≤ 1) ∧ (∀ b, 0 ≤ b → b ≤ 3 → aK w' b) ∧ (∀ j, 0 ≤ j → j ≤ 5 → w' (17 * a + j + 97) 7 = w (17 * a + j + 97) 7) ∧ (∀ k, k ≠ x → w' 268 k = w 268 k) ∧ (w' 268 x = w 268 x ∨ w' 268 x = -1)) := by
  obtain ⟨d, rfl⟩ : ∃ e, d = e + 1 := ⟨d - 1, by omega⟩
  have hm := hL.1.2.1
  have hm8 : w (17 * a + 86) 8 = m := hL.1.2.2.1
  have hn1 := hL.1.1
  have hw1 : w 262 1 = n := hL.1.2.2.2.1
  have hw2 := hL.1.2.2.2.2; unfold kn1 at hw2
  have hNk := hL.2.2.1
  refine e_Ok.ps2 (x := (0, a)) (y := (1, 9)) (q := 3) 2 rfl ?_
  refine e_Ok.aald (z := 17 * a + 86) rfl (el_o rfl) rfl (by omega) (Eq.trans (e_Has.eq hT (k9 (by omega))) (by omega)) (by omega) ?_
  refine e_Ok.getr (z := 17 * a + 87) rfl (lA0 (a := a) rfl ga) rfl rfl (Eq.trans (e_Has.eq hT (kA_0 (a := a) rfl ga)) (by omega)) (by omega) ?_
  refine e_Ok.ps2 (x := (0, 2)) (y := (0, s)) (q := 10) 2 rfl ?_
  refine e_Ok.divn (fun z1 hz1 => ?_) rfl (by omega) (by omega)
  replace hz1 : z1 = s / 2 := hz1
  have z1r : 0 ≤ z1 ∧ z1 ≤ 5 := by omega
  refine e_Ok.aald (z := 17 * a + z1 + 97) rfl (lA1 (a := a) rfl ga) rfl (by omega) (Eq.trans (e_Has.eq hT (kA87 (a := a) rfl ga (by omega))) (by omega)) (by omega) ?_
  refine e_Ok.run (t' := (14, [(7, (1, 17 * a + z1 + 97)), (0, (1, 262)), (1, (1, 9)), (2, (0, cn)), (3, (1, 250)), (4, (0, a)), (5, (0, s)), (6, (0, x))], [], w)) 1 rfl ?_
  have hvz : -100000 ≤ w (17 * a + z1 + 97) 7 ∧ w (17 * a + z1 + 97) 7 ≤ 100000 := hv z1 (by omega)
  refine e_Ok.ps1 (x := (1, 17 * a + z1 + 97)) (q := 16) 1 rfl ?_
  refine e_Ok.getf (z := w (17 * a + z1 + 97) 7) rfl (lJ (a := a) (j := z1) (by omega) (by omega) (by omega)) rfl rfl rfl (by omega) ?_
  refine e_Ok.run (t' := (25, [(9, (0, 1)), (8, (0, w (17 * a + z1 + 97) 7)), (7, (1, 17 * a + z1 + 97)), (0, (1, 262)), (1, (1, 9)), (2, (0, cn)), (3, (1, 250)), (4, (0, a)), (5, (0, s)), (6, (0, x))], [(1, 262)], w)) 4 rfl ?_
  refine e_Ok.getf (z := w 262 1) rfl (el_o rfl) rfl rfl rfl (by omega) ?_
  refine e_Ok.run (t' := (30, [(10, (0, w 262 1)), (9, (0, 1)), (8, (0, w (17 * a + z1 + 97) 7)), (7, (1, 17 * a + z1 + 97)), (0, (1, 262)), (1, (1, 9)), (2, (0, cn)), (3, (1, 250)), (4, (0, a)), (5, (0, s)), (6, (0, x))], [], w)) 1 rfl ?_
  have hL2 : ∀ (nn : Nat) (y9 : Int) (y10 : Int) (v1 : eW), e_fr (kPs a m) w v1 ∧ e_Has kTy v1 ∧ (∀ b, 0 ≤ b → b ≤ 3 → aK v1 b) ∧ (∀ j, 0 ≤ j → j ≤ 5 → j ≠ z1 → v1 (17 * a + j + 97) 7 = w (17 * a + j + 97) 7) ∧ (((∀ k, k ≠ x → v1 268 k = w 268 k) ∧ (v1 268 x = w 268 x ∨ v1 268 x = -1))) ∧ ((0 ≤ y9 ∧ y9 ≤ 1)) ∧ ((0 ≤ y10 ∧ y10 ≤ 16)) → y10 < nn → e_Ok 20 elay kcode eI (d + 1) 104 (30, [(0, (1, 262)), (1, (1, 9)), (2, (0, cn)), (3, (1, 250)), (4, (0, a)), (5, (0, s)), (6, (0, x)), (7, (1, 17 * a + z1 + 97)), (8, (0, w (17 * a + z1 + 97) 7)), (9, (0, y9)), (10, (0, y10))], [], v1) (fun r w' => ∃ z : Int, r = [(0, z)] ∧ e_fr (kPs a m) w w' ∧ e_Has kTy w' ∧ (0 ≤ z ∧ z ≤ 1) ∧ (∀ b, 0 ≤ b → b ≤ 3 → aK w' b) ∧ (∀ j, 0 ≤ j → j ≤ 5 → w' (17 * a + j + 97) 7 = w (17 * a + j + 97) 7) ∧ (∀ k, k ≠ x → w' 268 k = w 268 k) ∧ (w' 268 x = w 268 x ∨ w' 268 x = -1)) := by
    intro nn
    induction nn with
    | zero => intro y9 y10 v1 hj hm; obtain ⟨j4, j5, j6, j7, j8, j9, j10⟩ := hj; exfalso; omega
    | succ nn ih3 =>
      intro y9 y10 v1 hj hm
      obtain ⟨j4, j5, j6, j7, j8, j9, j10⟩ := hj
      refine e_Ok.run (t' := (32, [(0, (1, 262)), (1, (1, 9)), (2, (0, cn)), (3, (1, 250)), (4, (0, a)), (5, (0, s)), (6, (0, x)), (7, (1, 17 * a + z1 + 97)), (8, (0, w (17 * a + z1 + 97) 7)), (9, (0, y9)), (10, (0, y10))], [(0, y10)], v1)) 1 rfl ?_
      refine e_Ok.if1 rfl (fun h11 => ?_) (fun h11 => ?_)
      · replace h11 : (y10 : Int) ≤ 0 := h11
        refine e_Ok.ps2 (x := (0, w (17 * a + z1 + 97) 7)) (y := (1, 17 * a + z1 + 97)) (q := 127) 2 rfl ?_
        refine e_Ok.putf rfl (lJ (a := a) (j := z1) (by omega) (by omega) (by omega)) rfl rfl ?_
        generalize hw12 : e_up v1 (17 * a + z1 + 97) 7 (w (17 * a + z1 + 97) 7) = w12
        have hT14 : e_Has kTy w12 := e_Has.upr j5 hw12 (kJ_7 (a := a) (j := z1) (by omega) (by omega) (by omega)) (by omega)
        refine e_Ok.ps1 (x := (0, y9)) (q := 132) 1 rfl ?_
        refine e_Ok.retb rfl (by omega) ?_
        exact ⟨_, rfl, (show e_fr (kPs a m) w w12 from e_fr.up j4 hw12 (by unfold kPs; omega)), hT14, by omega, (fun b g1 g2 => (j6 b g1 g2).up hw12 (by omega) (by omega) (by omega)), (fun j g1 g2 => by by_cases e : j = z1; (rw [e, ← hw12, e_up_eq]); (rw [← hw12, e_up_ne _ _ (by omega)]; exact j7 j g1 g2 e)), (fun k g => by rw [← hw12, e_up_ne _ _ (by omega)]; exact j8.1 k g), (by rw [← hw12, e_up_ne _ _ (by omega)]; exact j8.2)⟩
      · replace h11 : (y10 : Int) > 0 := Int.not_le.mp (show ¬ ((y10 : Int) ≤ 0) from h11)
        refine e_Ok.ps1 (x := (0, y9)) (q := 37) 1 rfl ?_
        refine e_Ok.if1 rfl (fun h15 => ?_) (fun h15 => ?_)
        · replace h15 : (y9 : Int) = 0 := h15
          refine e_Ok.ps2 (x := (0, w (17 * a + z1 + 97) 7)) (y := (1, 17 * a + z1 + 97)) (q := 127) 2 rfl ?_
          refine e_Ok.putf rfl (lJ (a := a) (j := z1) (by omega) (by omega) (by omega)) rfl rfl ?_
          generalize hw16 : e_up v1 (17 * a + z1 + 97) 7 (w (17 * a + z1 + 97) 7) = w16
          have hT18 : e_Has kTy w16 := e_Has.upr j5 hw16 (kJ_7 (a := a) (j := z1) (by omega) (by omega) (by omega)) (by omega)
          refine e_Ok.ps1 (x := (0, y9)) (q := 132) 1 rfl ?_
          refine e_Ok.retb rfl (by omega) ?_
          exact ⟨_, rfl, (show e_fr (kPs a m) w w16 from e_fr.up j4 hw16 (by unfold kPs; omega)), hT18, by omega, (fun b g1 g2 => (j6 b g1 g2).up hw16 (by omega) (by omega) (by omega)), (fun j g1 g2 => by by_cases e : j = z1; (rw [e, ← hw16, e_up_eq]); (rw [← hw16, e_up_ne _ _ (by omega)]; exact j7 j g1 g2 e)), (fun k g => by rw [← hw16, e_up_ne _ _ (by omega)]; exact j8.1 k g), (by rw [← hw16, e_up_ne _ _ (by omega)]; exact j8.2)⟩
        · replace h15 : (y9 : Int) ≠ 0 := (show ¬ ((y9 : Int) = 0) from h15)
          refine e_Ok.ps3 (x := (0, 2)) (y := (0, s)) (z := (1, 17 * a + z1 + 97)) (q := 45) 3 rfl ?_
          refine e_Ok.remn (fun z19 hz19 => ?_) rfl (by omega) (by omega)
          replace hz19 : z19 = s % 2 := hz19
          have z19r : 0 ≤ z19 ∧ z19 ≤ 1 := by omega
          refine e_Ok.if1 rfl (fun h20 => ?_) (fun h20 => ?_)
          · replace h20 : (z19 : Int) ≠ 0 := h20
            refine e_Ok.ps2 (x := (0, y10)) (y := (0, w (17 * a + z1 + 97) 7)) (q := 61) 2 rfl ?_
            refine e_Ok.sub' (z := w (17 * a + z1 + 97) 7 - y10) rfl rfl (by omega) ?_
            refine e_Ok.putf rfl (lJ (a := a) (j := z1) (by omega) (by omega) (by omega)) rfl rfl ?_
            generalize hw21 : e_up v1 (17 * a + z1 + 97) 7 (w (17 * a + z1 + 97) 7 - y10) = w21
            have f22 : e_fr (kPs a m) w w21 := e_fr.up j4 hw21 (by unfold kPs; omega)
            have hT23 : e_Has kTy w21 := e_Has.upr j5 hw21 (kJ_7 (a := a) (j := z1) (by omega) (by omega) (by omega)) (by omega)
            refine e_Ok.ps2 (x := (0, a)) (y := (1, 9)) (q := 68) 2 rfl ?_
            refine e_Ok.aald (z := 17 * a + 86) rfl (el_o rfl) rfl (by omega) (e_uq hw21 (Or.inl (by omega)) ((j4 9 a (by unfold kPs; omega)).trans (Eq.trans (e_Has.eq hT (k9 (by omega))) (by omega)))) (by omega) ?_
            have kAw21 : ∀ b, 0 ≤ b → b ≤ 3 → aK w21 b := fun b g1 g2 => (j6 b g1 g2).up hw21 (by omega) (by omega) (by omega)
            have eMw21 : w21 (17 * a + 86) 8 = m := (f22 _ _ (by unfold kPs; omega)).trans hm8
            refine e_Ok.callV rfl (e_dq hd rfl) rfl (lA0 (a := a) rfl ga) rfl rfl (c_10_pm (e_dq hd rfl) (a := a) hT23 ga eMw21 ((kAw21 a ga.1 ga.2).1 0 (by omega) (by omega)) ((kAw21 a ga.1 ga.2).2 0 (by omega) (by omega))) (fun r24 w25 h26 => ?_)
            obtain ⟨rfl, q27f, q27T, q27x, q27p⟩ := h26
            have kBw25 := aK.all ga q27f (fun b c k g1 g2 g3 g4 => by unfold kPm at g4; omega) kAw21 q27x
            refine e_Ok.nrm (q := 72) (st' := []) rfl rfl ?_
            refine e_Ok.run (t' := (79, [(0, (1, 262)), (1, (1, 9)), (2, (0, cn)), (3, (1, 250)), (4, (0, a)), (5, (0, s)), (6, (0, x)), (7, (1, 17 * a + z1 + 97)), (8, (0, w (17 * a + z1 + 97) 7)), (9, (0, y9)), (10, (0, y10))], [(1, 262), (0, 0), (0, a), (0, cn), (1, 9), (1, 250)], w25)) 6 rfl ?_
            refine e_Ok.getf (z := w 262 2) rfl (el_o rfl) rfl rfl ((q27f 262 2 (by unfold kPm; omega)).trans (e_uq hw21 (Or.inr (by decide)) ((j4 262 2 (by unfold kPs; omega)).trans rfl))) (by omega) ?_
            refine e_Ok.callV rfl (e_dq hd rfl) rfl rfl rfl rfl (c_171 (e_dq hd rfl) q27T (by omega) (by omega) (by omega) (by omega) kBw25) (fun r29 w30 h31 => ?_)
            obtain ⟨z32, rfl, q33f, q33T, q33r⟩ := h31
            have f34 : e_fr (kPs a m) w w30 := e_fr.trans (show e_fr (kPs a m) w w25 from e_fr.trans f22 (e_fr.mono q27f (fun c k q => by first | exact su_db_1 q | (unfold kPm at q; unfold kPs; omega)))) (e_fr.mono q33f (fun c k q => by first | exact su_db_2 q | (unfold kTc at q; unfold kPs; omega)))
            have kD := aK.any q33f (fun b c k g1 g2 g3 => by unfold kTc at g3; omega) kBw25
            have eD : ∀ c k, ¬ (c = 17 * a + z1 + 97 ∧ k = 7) → c ≠ 17 * a + 88 → c ≠ 17 * a + 89 → c ≠ 250 → w30 c k = v1 c k := fun c k g1 g2 g3 g4 => by rw [q33f c k (by unfold kTc; omega), q27f c k (by unfold kPm; omega), ← hw21, e_up_ne _ _ (by omega)]
            refine e_Ok.nrm (q := 85) (st' := [(0, z32)]) rfl rfl ?_
            refine e_Ok.if1 rfl (fun h35 => ?_) (fun h35 => ?_)
            · replace h35 : (z32 : Int) ≠ 0 := h35
              refine e_Ok.run (t' := (97, [(9, (0, 0)), (0, (1, 262)), (1, (1, 9)), (2, (0, cn)), (3, (1, 250)), (4, (0, a)), (5, (0, s)), (6, (0, x)), (7, (1, 17 * a + z1 + 97)), (8, (0, w (17 * a + z1 + 97) 7)), (10, (0, y10))], [(0, 0)], w30)) 3 rfl ?_
              refine e_Ok.if1 rfl (fun h36 => ?_) (fun h36 => ?_)
              · replace h36 : (0 : Int) ≠ 0 := h36
                exfalso; omega
              · replace h36 : (0 : Int) = 0 := Classical.not_not.mp (show ¬ ((0 : Int) ≠ 0) from h36)
                refine e_Ok.ps2 (x := (1, 262)) (y := (0, y10)) (q := 103) 2 rfl ?_
                refine e_Ok.getf (z := w 262 1) rfl (el_o rfl) rfl rfl ((q33f 262 1 no_db_0).trans ((q27f 262 1 (by unfold kPm; omega)).trans (e_uq hw21 (Or.inr (by decide)) ((j4 262 1 (by unfold kPs; omega)).trans rfl)))) (by omega) ?_
                refine e_Ok.if2 rfl (fun h37 => ?_) (fun h37 => ?_)
                · replace h37 : (y10 : Int) ≠ w 262 1 := h37
                  refine e_Ok.inc (z := y10 - 1) rfl rfl (by first | with_reducible rfl | omega) (by omega) ?_
                  show e_Ok 20 elay kcode eI (d + 1) 104 (120, [(10, (0, y10 - 1)), (9, (0, 0)), (0, (1, 262)), (1, (1, 9)), (2, (0, cn)), (3, (1, 250)), (4, (0, a)), (5, (0, s)), (6, (0, x)), (7, (1, 17 * a + z1 + 97)), (8, (0, w (17 * a + z1 + 97) 7))], [], w30) _
                  refine e_Ok.ps0 (q := 30) 1 rfl ?_
                  refine e_Ok.sub kAlk (e_sub_of rfl ?_) (ih3 0 (y10 - 1) w30 ⟨f34, q33T, kD, (fun j g1 g2 g3 => by rw [eD _ _ (by omega) (by omega) (by omega) (by omega)]; exact j7 j g1 g2 g3), ⟨fun k g => by rw [eD _ _ (by omega) (by omega) (by omega) (by omega)]; exact j8.1 k g, by rw [eD _ _ (by omega) (by omega) (by omega) (by omega)]; exact j8.2⟩, by omega, by omega⟩ (by omega))
                  exact ⟨rfl, rfl, rfl, rfl, rfl, rfl, rfl, rfl, rfl, rfl, rfl, trivial⟩
                · replace h37 : (y10 : Int) = w 262 1 := Classical.not_not.mp (show ¬ ((y10 : Int) ≠ w 262 1) from h37)
                  refine e_Ok.ps1 (x := (1, 262)) (q := 110) 1 rfl ?_
                  refine e_Ok.getr (z := 268) rfl (el_o rfl) rfl rfl ((q33f 262 9 no_db_0).trans ((q27f 262 9 (by unfold kPm; omega)).trans (e_uq hw21 (Or.inr (by decide)) ((j4 262 9 (by unfold kPs; omega)).trans (e_Has.eq hT (kt_o rfl)))))) ⟨by decide, by decide⟩ ?_
                  refine e_Ok.ps2 (x := (0, (-1))) (y := (0, x)) (q := 116) 2 rfl ?_
                  refine e_Ok.ast rfl (el_o rfl) rfl rfl (by omega) ?_
                  generalize hw38 : e_up w30 268 x (-1) = w38
                  have hT41 : e_Has kTy w38 := e_Has.ups q33T hw38 (kt_o rfl)
                  refine e_Ok.inc (z := y10 - 1) rfl rfl (by first | with_reducible rfl | omega) (by omega) ?_
                  show e_Ok 20 elay kcode eI (d + 1) 104 (120, [(10, (0, y10 - 1)), (9, (0, 0)), (0, (1, 262)), (1, (1, 9)), (2, (0, cn)), (3, (1, 250)), (4, (0, a)), (5, (0, s)), (6, (0, x)), (7, (1, 17 * a + z1 + 97)), (8, (0, w (17 * a + z1 + 97) 7))], [], w38) _
                  refine e_Ok.ps0 (q := 30) 1 rfl ?_
                  refine e_Ok.sub kAlk (e_sub_of rfl ?_) (ih3 0 (y10 - 1) w38 ⟨(show e_fr (kPs a m) w w38 from e_fr.up f34 hw38 (by first | exact Or.inr (Or.inr (Or.inr rfl)) | (unfold kPs; omega))), hT41, (fun b g1 g2 => (kD b g1 g2).up hw38 (by omega) (by omega) (by omega)), (fun j g1 g2 g3 => by rw [← hw38, e_up_ne _ _ (by omega), eD _ _ (by omega) (by omega) (by omega) (by omega)]; exact j7 j g1 g2 g3), ⟨fun k g => by rw [← hw38, e_up_ne _ _ (by omega), eD _ _ (by omega) (by omega) (by omega) (by omega)]; exact j8.1 k g, Or.inr (by rw [← hw38, e_up_eq])⟩, by omega, by omega⟩ (by omega))
                  exact ⟨rfl, rfl, rfl, rfl, rfl, rfl, rfl, rfl, rfl, rfl, rfl, trivial⟩
            · replace h35 : (z32 : Int) = 0 := Classical.not_not.mp (show ¬ ((z32 : Int) ≠ 0) from h35)
              refine e_Ok.run (t' := (97, [(9, (0, 1)), (0, (1, 262)), (1, (1, 9)), (2, (0, cn)), (3, (1, 250)), (4, (0, a)), (5, (0, s)), (6, (0, x)), (7, (1, 17 * a + z1 + 97)), (8, (0, w (17 * a + z1 + 97) 7)), (10, (0, y10))], [(0, 1)], w30)) 4 rfl ?_
              refine e_Ok.if1 rfl (fun h42 => ?_) (fun h42 => ?_)
              · replace h42 : (1 : Int) ≠ 0 := h42
                refine e_Ok.inc (z := y10 - 1) rfl rfl (by first | with_reducible rfl | omega) (by omega) ?_
                show e_Ok 20 elay kcode eI (d + 1) 104 (120, [(10, (0, y10 - 1)), (9, (0, 1)), (0, (1, 262)), (1, (1, 9)), (2, (0, cn)), (3, (1, 250)), (4, (0, a)), (5, (0, s)), (6, (0, x)), (7, (1, 17 * a + z1 + 97)), (8, (0, w (17 * a + z1 + 97) 7))], [], w30) _
                refine e_Ok.ps0 (q := 30) 1 rfl ?_
                refine e_Ok.sub kAlk (e_sub_of rfl ?_) (ih3 1 (y10 - 1) w30 ⟨f34, q33T, kD, (fun j g1 g2 g3 => by rw [eD _ _ (by omega) (by omega) (by omega) (by omega)]; exact j7 j g1 g2 g3), ⟨fun k g => by rw [eD _ _ (by omega) (by omega) (by omega) (by omega)]; exact j8.1 k g, by rw [eD _ _ (by omega) (by omega) (by omega) (by omega)]; exact j8.2⟩, by omega, by omega⟩ (by omega))
                exact ⟨rfl, rfl, rfl, rfl, rfl, rfl, rfl, rfl, rfl, rfl, rfl, trivial⟩
              · replace h42 : (1 : Int) = 0 := Classical.not_not.mp (show ¬ ((1 : Int) ≠ 0) from h42)
                exfalso; omega
          · replace h20 : (z19 : Int) = 0 := Classical.not_not.mp (show ¬ ((z19 : Int) ≠ 0) from h20)
            refine e_Ok.ps2 (x := (0, y10)) (y := (0, w (17 * a + z1 + 97) 7)) (q := 53) 2 rfl ?_
            refine e_Ok.add (z := w (17 * a + z1 + 97) 7 + y10) rfl rfl (by omega) ?_
            refine e_Ok.ps0 (q := 62) 1 rfl ?_
            refine e_Ok.putf rfl (lJ (a := a) (j := z1) (by omega) (by omega) (by omega)) rfl rfl ?_
            generalize hw43 : e_up v1 (17 * a + z1 + 97) 7 (w (17 * a + z1 + 97) 7 + y10) = w43
            have f44 : e_fr (kPs a m) w w43 := e_fr.up j4 hw43 (by unfold kPs; omega)
            have hT45 : e_Has kTy w43 := e_Has.upr j5 hw43 (kJ_7 (a := a) (j := z1) (by omega) (by omega) (by omega)) (by omega)
            refine e_Ok.ps2 (x := (0, a)) (y := (1, 9)) (q := 68) 2 rfl ?_
            refine e_Ok.aald (z := 17 * a + 86) rfl (el_o rfl) rfl (by omega) (e_uq hw43 (Or.inl (by omega)) ((j4 9 a (by unfold kPs; omega)).trans (Eq.trans (e_Has.eq hT (k9 (by omega))) (by omega)))) (by omega) ?_
            have kAw43 : ∀ b, 0 ≤ b → b ≤ 3 → aK w43 b := fun b g1 g2 => (j6 b g1 g2).up hw43 (by omega) (by omega) (by omega)
            have eMw43 : w43 (17 * a + 86) 8 = m := (f44 _ _ (by unfold kPs; omega)).trans hm8
            refine e_Ok.callV rfl (e_dq hd rfl) rfl (lA0 (a := a) rfl ga) rfl rfl (c_10_pm (e_dq hd rfl) (a := a) hT45 ga eMw43 ((kAw43 a ga.1 ga.2).1 0 (by omega) (by omega)) ((kAw43 a ga.1 ga.2).2 0 (by omega) (by omega))) (fun r46 w47 h48 => ?_)
            obtain ⟨rfl, q49f, q49T, q49x, q49p⟩ := h48
            have kBw47 := aK.all ga q49f (fun b c k g1 g2 g3 g4 => by unfold kPm at g4; omega) kAw43 q49x
            refine e_Ok.nrm (q := 72) (st' := []) rfl rfl ?_
            refine e_Ok.run (t' := (79, [(0, (1, 262)), (1, (1, 9)), (2, (0, cn)), (3, (1, 250)), (4, (0, a)), (5, (0, s)), (6, (0, x)), (7, (1, 17 * a + z1 + 97)), (8, (0, w (17 * a + z1 + 97) 7)), (9, (0, y9)), (10, (0, y10))], [(1, 262), (0, 0), (0, a), (0, cn), (1, 9), (1, 250)], w47)) 6 rfl ?_
            refine e_Ok.getf (z := w 262 2) rfl (el_o rfl) rfl rfl ((q49f 262 2 (by unfold kPm; omega)).trans (e_uq hw43 (Or.inr (by decide)) ((j4 262 2 (by unfold kPs; omega)).trans rfl))) (by omega) ?_
            refine e_Ok.callV rfl (e_dq hd rfl) rfl rfl rfl rfl (c_171 (e_dq hd rfl) q49T (by omega) (by omega) (by omega) (by omega) kBw47) (fun r51 w52 h53 => ?_)
            obtain ⟨z54, rfl, q55f, q55T, q55r⟩ := h53
            have f56 : e_fr (kPs a m) w w52 := e_fr.trans (show e_fr (kPs a m) w w47 from e_fr.trans f44 (e_fr.mono q49f (fun c k q => by first | exact su_db_1 q | (unfold kPm at q; unfold kPs; omega)))) (e_fr.mono q55f (fun c k q => by first | exact su_db_2 q | (unfold kTc at q; unfold kPs; omega)))
            have kD := aK.any q55f (fun b c k g1 g2 g3 => by unfold kTc at g3; omega) kBw47
            have eD : ∀ c k, ¬ (c = 17 * a + z1 + 97 ∧ k = 7) → c ≠ 17 * a + 88 → c ≠ 17 * a + 89 → c ≠ 250 → w52 c k = v1 c k := fun c k g1 g2 g3 g4 => by rw [q55f c k (by unfold kTc; omega), q49f c k (by unfold kPm; omega), ← hw43, e_up_ne _ _ (by omega)]
            refine e_Ok.nrm (q := 85) (st' := [(0, z54)]) rfl rfl ?_
            refine e_Ok.if1 rfl (fun h57 => ?_) (fun h57 => ?_)
            · replace h57 : (z54 : Int) ≠ 0 := h57
              refine e_Ok.run (t' := (97, [(9, (0, 0)), (0, (1, 262)), (1, (1, 9)), (2, (0, cn)), (3, (1, 250)), (4, (0, a)), (5, (0, s)), (6, (0, x)), (7, (1, 17 * a + z1 + 97)), (8, (0, w (17 * a + z1 + 97) 7)), (10, (0, y10))], [(0, 0)], w52)) 3 rfl ?_
              refine e_Ok.if1 rfl (fun h58 => ?_) (fun h58 => ?_)
              · replace h58 : (0 : Int) ≠ 0 := h58
                exfalso; omega
              · replace h58 : (0 : Int) = 0 := Classical.not_not.mp (show ¬ ((0 : Int) ≠ 0) from h58)
                refine e_Ok.ps2 (x := (1, 262)) (y := (0, y10)) (q := 103) 2 rfl ?_
                refine e_Ok.getf (z := w 262 1) rfl (el_o rfl) rfl rfl ((q55f 262 1 no_db_0).trans ((q49f 262 1 (by unfold kPm; omega)).trans (e_uq hw43 (Or.inr (by decide)) ((j4 262 1 (by unfold kPs; omega)).trans rfl)))) (by omega) ?_
                refine e_Ok.if2 rfl (fun h59 => ?_) (fun h59 => ?_)
                · replace h59 : (y10 : Int) ≠ w 262 1 := h59
                  refine e_Ok.inc (z := y10 - 1) rfl rfl (by first | with_reducible rfl | omega) (by omega) ?_
                  show e_Ok 20 elay kcode eI (d + 1) 104 (120, [(10, (0, y10 - 1)), (9, (0, 0)), (0, (1, 262)), (1, (1, 9)), (2, (0, cn)), (3, (1, 250)), (4, (0, a)), (5, (0, s)), (6, (0, x)), (7, (1, 17 * a + z1 + 97)), (8, (0, w (17 * a + z1 + 97) 7))], [], w52) _
                  refine e_Ok.ps0 (q := 30) 1 rfl ?_
                  refine e_Ok.sub kAlk (e_sub_of rfl ?_) (ih3 0 (y10 - 1) w52 ⟨f56, q55T, kD, (fun j g1 g2 g3 => by rw [eD _ _ (by omega) (by omega) (by omega) (by omega)]; exact j7 j g1 g2 g3), ⟨fun k g => by rw [eD _ _ (by omega) (by omega) (by omega) (by omega)]; exact j8.1 k g, by rw [eD _ _ (by omega) (by omega) (by omega) (by omega)]; exact j8.2⟩, by omega, by omega⟩ (by omega))
                  exact ⟨rfl, rfl, rfl, rfl, rfl, rfl, rfl, rfl, rfl, rfl, rfl, trivial⟩
                · replace h59 : (y10 : Int) = w 262 1 := Classical.not_not.mp (show ¬ ((y10 : Int) ≠ w 262 1) from h59)
                  refine e_Ok.ps1 (x := (1, 262)) (q := 110) 1 rfl ?_
                  refine e_Ok.getr (z := 268) rfl (el_o rfl) rfl rfl ((q55f 262 9 no_db_0).trans ((q49f 262 9 (by unfold kPm; omega)).trans (e_uq hw43 (Or.inr (by decide)) ((j4 262 9 (by unfold kPs; omega)).trans (e_Has.eq hT (kt_o rfl)))))) ⟨by decide, by decide⟩ ?_
                  refine e_Ok.ps2 (x := (0, (-1))) (y := (0, x)) (q := 116) 2 rfl ?_
                  refine e_Ok.ast rfl (el_o rfl) rfl rfl (by omega) ?_
                  generalize hw60 : e_up w52 268 x (-1) = w60
                  have hT62 : e_Has kTy w60 := e_Has.ups q55T hw60 (kt_o rfl)
                  refine e_Ok.inc (z := y10 - 1) rfl rfl (by first | with_reducible rfl | omega) (by omega) ?_
                  show e_Ok 20 elay kcode eI (d + 1) 104 (120, [(10, (0, y10 - 1)), (9, (0, 0)), (0, (1, 262)), (1, (1, 9)), (2, (0, cn)), (3, (1, 250)), (4, (0, a)), (5, (0, s)), (6, (0, x)), (7, (1, 17 * a + z1 + 97)), (8, (0, w (17 * a + z1 + 97) 7))], [], w60) _
                  refine e_Ok.ps0 (q := 30) 1 rfl ?_
                  refine e_Ok.sub kAlk (e_sub_of rfl ?_) (ih3 0 (y10 - 1) w60 ⟨(show e_fr (kPs a m) w w60 from e_fr.up f56 hw60 (by first | exact Or.inr (Or.inr (Or.inr rfl)) | (unfold kPs; omega))), hT62, (fun b g1 g2 => (kD b g1 g2).up hw60 (by omega) (by omega) (by omega)), (fun j g1 g2 g3 => by rw [← hw60, e_up_ne _ _ (by omega), eD _ _ (by omega) (by omega) (by omega) (by omega)]; exact j7 j g1 g2 g3), ⟨fun k g => by rw [← hw60, e_up_ne _ _ (by omega), eD _ _ (by omega) (by omega) (by omega) (by omega)]; exact j8.1 k g, Or.inr (by rw [← hw60, e_up_eq])⟩, by omega, by omega⟩ (by omega))
                  exact ⟨rfl, rfl, rfl, rfl, rfl, rfl, rfl, rfl, rfl, rfl, rfl, trivial⟩
            · replace h57 : (z54 : Int) = 0 := Classical.not_not.mp (show ¬ ((z54 : Int) ≠ 0) from h57)
              refine e_Ok.run (t' := (97, [(9, (0, 1)), (0, (1, 262)), (1, (1, 9)), (2, (0, cn)), (3, (1, 250)), (4, (0, a)), (5, (0, s)), (6, (0, x)), (7, (1, 17 * a + z1 + 97)), (8, (0, w (17 * a + z1 + 97) 7)), (10, (0, y10))], [(0, 1)], w52)) 4 rfl ?_
              refine e_Ok.if1 rfl (fun h63 => ?_) (fun h63 => ?_)
              · replace h63 : (1 : Int) ≠ 0 := h63
                refine e_Ok.inc (z := y10 - 1) rfl rfl (by first | with_reducible rfl | omega) (by omega) ?_
                show e_Ok 20 elay kcode eI (d + 1) 104 (120, [(10, (0, y10 - 1)), (9, (0, 1)), (0, (1, 262)), (1, (1, 9)), (2, (0, cn)), (3, (1, 250)), (4, (0, a)), (5, (0, s)), (6, (0, x)), (7, (1, 17 * a + z1 + 97)), (8, (0, w (17 * a + z1 + 97) 7))], [], w52) _
                refine e_Ok.ps0 (q := 30) 1 rfl ?_
                refine e_Ok.sub kAlk (e_sub_of rfl ?_) (ih3 1 (y10 - 1) w52 ⟨f56, q55T, kD, (fun j g1 g2 g3 => by rw [eD _ _ (by omega) (by omega) (by omega) (by omega)]; exact j7 j g1 g2 g3), ⟨fun k g => by rw [eD _ _ (by omega) (by omega) (by omega) (by omega)]; exact j8.1 k g, by rw [eD _ _ (by omega) (by omega) (by omega) (by omega)]; exact j8.2⟩, by omega, by omega⟩ (by omega))
                exact ⟨rfl, rfl, rfl, rfl, rfl, rfl, rfl, rfl, rfl, rfl, rfl, trivial⟩
              · replace h63 : (1 : Int) = 0 := Classical.not_not.mp (show ¬ ((1 : Int) ≠ 0) from h63)
                exfalso; omega
  refine e_Ok.sub kAlk (e_sub_of rfl ?_) (hL2 (16 + 1 : Int).toNat 1 (w 262 1) w ⟨(e_fr.refl w), hT, ka, (fun _ _ _ _ => rfl), ⟨fun _ _ => rfl, Or.inl rfl⟩, by omega, by omega⟩ (by omega))
  exact ⟨rfl, rfl, rfl, rfl, rfl, rfl, rfl, rfl, rfl, rfl, rfl, trivial⟩
end
end
