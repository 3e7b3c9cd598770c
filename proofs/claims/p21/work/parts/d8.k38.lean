noncomputable section
/-! the class: run, back -/
def kNt (c k : Int) : Prop := kNw c k ∨ (c = 0 ∧ (k = 12 ∨ k = 14))
section D8
variable {w v s : eW} {OP OD CL : Int → Int → Int} {S : Int → eW}
theorem e_Ok.dp {d d' M : Nat} {t : eS} {Q : List eV → eW → Prop} (h : e_Ok 20 elay kcode eI d M t Q) (hd : d ≤ d') : e_Ok 20 elay kcode eI d' M t Q := by
  obtain ⟨n, r, w, h1, h2⟩ := h
  obtain ⟨k, rfl⟩ := Nat.exists_eq_add_of_le hd
  exact ⟨n, r, w, e_go_ups h1, h2⟩
theorem nKc12 : ¬ Kc 0 12 := fun h => by
  rcases h.2 with h | h | h
  · exact h (by unfold kNh; omega)
  · exact absurd h (by decide : ¬ (1 : Int) = 0)
  · have z := h.2.2 0 11 15 rfl
    omega
theorem nKc14 : ¬ Kc 0 14 := fun h => by
  rcases h.2 with h | h | h
  · exact h (by unfold kNh; omega)
  · exact absurd h (by decide : ¬ (1 : Int) = 0)
  · have z := h.2.2 0 11 15 rfl
    omega
theorem rx_pjw (h : e_rx s v) (h262 : v 262 0 = w 262 0) (hY : ∀ c k, 269 ≤ c → c ≤ 271 → v c k = w c k) : e_rf (pj w s) v := fun c k g => by
  by_cases q : isX c k
  · by_cases y : kYs (w 262 0) c k
    · rw [pj_y y]
      exact hY c k (by unfold kYs at y; omega) (by unfold kYs at y; omega)
    · rw [pj_o q y] at g
      exact absurd g (by decide)
  · rw [pj_n q] at g ⊢
    exact h c k q g
theorem row_b {d : Nat} (hd : 27 ≤ d) {U : eW} {h x a b c : Int} (hw : e_rf U v) (q : kI U OP OD CL h (-1)) (h0 : 0 ≤ h) (he : U 74 1 ≤ 2147000000) (hR : rwC U x a b c) (ga : kn1 a) (gb : kn1 b) (gc : kn1 c) (hr : e_Ok 20 elay kcode eI 27 256 (0, l5 x a b c, [], U) (fun r v => (∃ z, r = [(0, z)]) ∧ e_rx s v)) :
    e_Ok 20 elay kcode eI d 256 (0, l5 x a b c, [], v) (fun r v' => ((∃ z : Int, r = [(0, z)]) ∧ e_fr kNw v v' ∧ e_Has kTy v' ∧ e_rx s v' ∧ aQ v v') ∧ ∀ c k, e_out elay c k → v' c k = v c k) := by
  have e741 := q.1.kq hw (c := 74) (k := 1) (lo := 0) (hi := 2147483647) rfl (by decide) (by decide) (by decide)
  have hl := c_256 (d := d) (by omega) (q.rf hw).1 ga gb gc (q.rf hw) h0 (by omega) (hR.up q hw)
  refine (k_rel (l5_nd x a b c) hw (hr.dp hd) hl).imp (fun r v' g => ?_)
  obtain ⟨⟨⟨z, g1, g2, ⟨g3, -⟩, -, -, -, g6⟩, -, g4⟩, g5⟩ := g
  exact ⟨⟨⟨z, g1⟩, g3, g2, (k_phi_ok hr).2.rf g4, g6⟩, g5⟩
theorem tick_b {d : Nat} (hd : 29 ≤ d) {U u' : eW} (hw : e_rf U v) (hg : gd U OP OD CL) (ht : tk1 U u') :
    e_Ok 20 elay kcode eI d 259 (0, [(0, (1, 0))], [], v) (fun r v' => (r = [] ∧ e_fr kNw v v' ∧ e_Has kTy v' ∧ e_rf u' v' ∧ aQ v v') ∧ ∀ c k, e_out elay c k → v' c k = v c k) := by
  obtain ⟨⟨hh, q1, q⟩, q3, q4⟩ := hg
  have e740 := q.1.kq hw (c := 74) (k := 0) (lo := 0) (hi := 6000) rfl (by decide) (by decide) (by decide)
  have e741 := q.1.kq hw (c := 74) (k := 1) (lo := 0) (hi := 2147483647) rfl (by decide) (by decide) (by decide)
  have hl := c_259 (d := d) hd (q.rf hw).1 (q.rf hw) q1 (by omega) (by omega)
  refine (k_rel (nd1 _ _) hw (e_Ok.dp ht hd) hl).imp (fun r v' g => ?_)
  obtain ⟨⟨⟨g1, g2, ⟨g3, -⟩, h9, -, -, -, -, g6⟩, -, g4⟩, g5⟩ := g
  have e := (k_phi_ok ht).2
  rw [e] at g4
  exact ⟨⟨g1, g3, g2, g4, g6⟩, g5⟩
theorem nt_nh {c k : Int} (h : kNt c k) : kNh c k := by
  rcases h with h | h
  · exact Or.inl h
  · exact Or.inr (Or.inr (Or.inl ⟨h.1, by omega⟩))
theorem aP.up0 {w' : eW} {a z : Int} (hw : e_up w 0 14 z = w') (hT : e_Has kTy w) (hT' : e_Has kTy w') (ga : 0 ≤ a ∧ a ≤ 3) (h : aP w a) : aP w' a := by
  have hjn := kn_joints hT ga
  have e : ∀ c k, ¬ (c = 0 ∧ k = 14) → w' c k = w c k := fun c k g => by rw [← hw]; exact e_up_ne _ _ (by omega)
  refine h.eq (e _ _ (by omega)) (fun c k q => ?_) (fun k g => ⟨e _ _ (by omega), e _ _ (by omega)⟩)
  rcases q with q | ⟨j, hj, rfl, rfl⟩
  · exact Kq.of (w := w) (fun c k g => e c k (fun g2 => g (by unfold kNh; omega))) hT hT' c k q
  · exact e _ _ (by omega)
def opB (w w' : eW) : Prop := w' = w ∨ (w 0 13 = 1 ∧ e_fr kNt w w' ∧ w' 0 14 = 1 ∧ ∃ OP OD CL S, kB w' OP OD CL S)
end D8
set_option maxHeartbeats 4000000 in
theorem c_214 {d : Nat} (hd : 31 ≤ d) {w : eW} (hT : e_Has kTy w) (hO : 0 ≤ w 0 13 ∧ w 0 13 ≤ 1) (hC : ∀ a, 0 ≤ a → a ≤ 3 → isCd (w (17 * a + 86) 7)) (hB : w 0 13 = 1 → ∃ OP OD CL S, kB w OP OD CL S) {n : Int} (g_n : -2147483648 ≤ n ∧ n ≤ 2147483647) (h12 : 0 ≤ w 0 12 ∧ w 0 12 ≤ 2000) : e_Ok 20 elay kcode eI d 214 (0, [(0, (1, 0)), (1, (0, n))], [], w) (fun r w' => ∃ z : Int, r = [(0, z)] ∧ e_Has kTy w' ∧ opK w w') := by
  obtain ⟨d, rfl⟩ : ∃ e, d = e + 1 := ⟨d - 1, by omega⟩
  have hw0 := e_Has.get hT (c := 0) (k := 11) (lo := 0) (hi := 4) rfl (by decide)
  have h740 := e_Has.get hT (c := 74) (k := 0) (lo := 0) (hi := 6000) rfl (by decide)
  refine e_Ok.run (t' := (5, [(0, (1, 0)), (1, (0, n))], [(0, 1000), (0, 1), (0, n)], w)) 3 rfl ?_
  refine e_Ok.callS rfl (by omega) rfl rfl (c_242 (by omega) (by omega) (by omega)) (fun r1 w2 h3 => ?_)
  obtain ⟨z4, rfl, rfl, q5⟩ := h3
  obtain ⟨rfl, q5⟩ | ⟨rfl, q5⟩ := q5
  · show e_Ok 20 elay kcode eI (d + 1) 214 (8, [(0, (1, 0)), (1, (0, n))], [(0, 1)], w) _
    refine e_Ok.if1 rfl (fun h6 => ?_) (fun h6 => ?_)
    · replace h6 : (1 : Int) ≠ 0 := h6
      refine e_Ok.run (t' := (14, [(0, (1, 0)), (1, (0, n))], [(1, 0)], w)) 1 rfl ?_
      refine e_Ok.getf (z := w 0 13) rfl (el_o rfl) rfl rfl rfl (by omega) ?_
      refine e_Ok.if1 rfl (fun h7 => ?_) (fun h7 => ?_)
      · replace h7 : (w 0 13 : Int) ≠ 0 := h7
        refine e_Ok.run (t' := (28, [(0, (1, 0)), (1, (0, n))], [(1, 0), (0, 6000), (0, n)], w)) 3 rfl ?_
        refine e_Ok.getr (z := 74) rfl (el_o rfl) rfl rfl (Eq.trans (e_Has.eq hT rfl) (by omega)) (by omega) ?_
        have h8 := (e_Has.get hT (c := 74) (k := 0) (lo := 0) (hi := 6000) rfl (by decide))
        refine e_Ok.getf (z := w 74 0) rfl (el_o rfl) rfl rfl rfl (by omega) ?_
        refine e_Ok.sub' (z := -w 74 0 + 6000) rfl (by omega) (by omega) ?_
        refine e_Ok.mmin rfl rfl (fun z9 hz9 => ?_)
        replace hz9 : ((-w 74 0 + 6000) < n ∧ z9 = -w 74 0 + 6000) ∨ (n ≤ -w 74 0 + 6000 ∧ z9 = n) := hz9
        refine e_Ok.run (t' := (40, [(2, (0, z9)), (0, (1, 0)), (1, (0, n))], [(0, z9)], w)) 2 rfl ?_
        refine e_Ok.if1 rfl (fun h10 => ?_) (fun h10 => ?_)
        · replace h10 : (z9 : Int) ≤ 0 := h10
          refine e_Ok.run (t' := (52, [(2, (0, z9)), (0, (1, 0)), (1, (0, n))], [(0, (-3))], w)) 1 rfl ?_
          refine e_Ok.rets rfl rfl ?_
          exact ⟨_, rfl, hT, Or.inl rfl⟩
        · replace h10 : (z9 : Int) > 0 := by have q : ¬ ((z9 : Int) ≤ 0) := h10; omega
          refine e_Ok.run (t' := (44, [(2, (0, z9)), (0, (1, 0)), (1, (0, n))], [(1, 0)], w)) 1 rfl ?_
          refine e_Ok.callV rfl (by omega) rfl rfl rfl rfl (c_253 h12) (fun r11 w12 h13 => ?_)
          obtain ⟨z15, rfl, rfl, q14r, q14x⟩ := h13
          show e_Ok 20 elay kcode eI (d + 1) 214 (47, [(2, (0, z9)), (0, (1, 0)), (1, (0, n))], [(0, z15)], w) _
          refine e_Ok.if1 rfl (fun h16 => ?_) (fun h16 => ?_)
          · replace h16 : (z15 : Int) ≠ 0 := h16
            refine e_Ok.run (t' := (58, [(2, (0, z9)), (0, (1, 0)), (1, (0, n))], [(0, 0), (0, 0), (0, z9), (0, 1), (1, 0)], w)) 5 rfl ?_
            refine e_Ok.callV rfl (by omega) rfl rfl rfl rfl (e_Ok.out kAlk (c_254 hT (by omega) (by omega) (by omega) (by omega) (by omega))) (fun r17 w18 h19 => ?_)
            obtain ⟨⟨rfl, q20f, q20T, q20x⟩, q20o⟩ := h19
            have f21 : e_fr kNv w w18 := e_fr.trans (e_fr.refl w) (e_fr.mono q20f (fun c k q => by exact Or.inr q))
            obtain ⟨OP, OD, CL, S, hK⟩ := hB (by omega)
            obtain ⟨hIU, hev, he0, he1⟩ := hK.ev (i := w 0 12) (by omega)
            have hUw := hK.2.2.2.1.pj
            have hU1 : e_rf (pj w (S (w 0 12))) w18 := pj.rfo hUw (fun c k g => q20f c k (fun g2 => by have z := bo_x g2; rcases g with g | g; exact g z.1; exact z.2 g))
            have eU0 : w 74 0 = pj w (S (w 0 12)) 74 0 := by obtain ⟨hh, -, z⟩ := hIU; exact z.1.kq hUw (lo := 0) (hi := 6000) rfl (by decide) (by decide) (by decide)
            show e_Ok 20 elay kcode eI (d + 1) 214 (61, [(2, (0, z9)), (0, (1, 0)), (1, (0, n))], [], w18) _
            refine e_Ok.run (t' := (63, [(3, (0, 0)), (2, (0, z9)), (0, (1, 0)), (1, (0, n))], [], w18)) 2 rfl ?_
            have hL22 : ∀ (nn : Nat) (y3 : Int) (v1 : eW) (V1 : eW), e_fr kNv w v1 ∧ e_Has kTy v1 ∧ e_fr kNw w18 v1 ∧ (∀ c k, e_out elay c k → v1 c k = w18 c k) ∧ e_rf V1 v1 ∧ tkE OP OD CL y3.toNat (pj w (S (w 0 12))) V1 ∧ ((∃ hh, 0 ≤ hh ∧ kI V1 OP OD CL hh (-1))) ∧ e_fr kNw (pj w (S (w 0 12))) V1 ∧ ((V1 74 0 = pj w (S (w 0 12)) 74 0 + y3 ∧ V1 74 1 ≤ pj w (S (w 0 12)) 74 1 + 900 * y3)) ∧ ((0 ≤ y3 ∧ y3 ≤ z9)) ∧ aQ w18 v1 → 1000 - y3 < nn → e_Ok 20 elay kcode eI (d + 1) 214 (63, [(0, (1, 0)), (2, (0, z9)), (3, (0, y3))], [], v1) (fun r w' => ∃ z : Int, r = [(0, z)] ∧ e_Has kTy w' ∧ opK w w') := by
              intro nn
              induction nn with
              | zero => intro y3 v1 V1 hj hm; obtain ⟨j24, j25, j26, j27, j28, j29, j30, j31, j32, j33, j34⟩ := hj; exfalso; omega
              | succ nn ih23 =>
                intro y3 v1 V1 hj hm
                obtain ⟨j24, j25, j26, j27, j28, j29, j30, j31, j32, j33, j34⟩ := hj
                refine e_Ok.run (t' := (65, [(0, (1, 0)), (2, (0, z9)), (3, (0, y3))], [(0, z9), (0, y3)], v1)) 2 rfl ?_
                refine e_Ok.if2 rfl (fun h35 => ?_) (fun h35 => ?_)
                · replace h35 : (y3 : Int) ≥ z9 := h35
                  refine e_Ok.run (t' := (79, [(0, (1, 0)), (2, (0, z9)), (3, (0, y3))], [(0, z9)], v1)) 1 rfl ?_
                  refine e_Ok.rets rfl rfl ?_
                  obtain ⟨hh, hh0, hIV⟩ := j30
                  have hq : y3 = z9 := by omega
                  have hE := j29
                  rw [hq] at hE
                  have hBv := kB.wr hK hT j25 (by omega) q20T q20f q20o q20x j26 j27 ⟨(by unfold kn1; omega), (by unfold kn1; omega), (by unfold kn1; omega), (by unfold kn1; omega)⟩ hh0 hIV j31 (by omega) (e_rf.rx j28) j34 (Or.inr ⟨rfl, by omega, tkE.tkW _ hE (e_rf.refl V1).rx⟩)
                  exact ⟨_, rfl, j25, Or.inr ⟨by omega, j24, OP, OD, CL, hBv⟩⟩
                · replace h35 : (y3 : Int) < z9 := by have q : ¬ ((y3 : Int) ≥ z9) := h35; omega
                  refine e_Ok.run (t' := (69, [(0, (1, 0)), (2, (0, z9)), (3, (0, y3))], [(1, 0)], v1)) 1 rfl ?_
                  refine e_Ok.callV rfl (by omega) rfl rfl rfl rfl (tick_r (by omega) (U := V1) j28 ⟨j30, by omega, by omega⟩) (fun r36 w37 h38 => ?_)
                  obtain ⟨⟨rfl, q40f, q40T, V2, t1, t2, t3, t4, t5, t6, t7⟩, q40o⟩ := h38
                  have f41 : e_fr kNv w w37 := e_fr.trans j24 (e_fr.mono q40f (fun c k q => by exact Or.inl q))
                  show e_Ok 20 elay kcode eI (d + 1) 214 (72, [(0, (1, 0)), (2, (0, z9)), (3, (0, y3))], [], w37) _
                  refine e_Ok.inc (z := y3 + 1) rfl rfl (by omega) (by omega) ?_
                  show e_Ok 20 elay kcode eI (d + 1) 214 (75, [(3, (0, y3 + 1)), (0, (1, 0)), (2, (0, z9))], [], w37) _
                  refine e_Ok.run (t' := (63, [(3, (0, y3 + 1)), (0, (1, 0)), (2, (0, z9))], [], w37)) 1 rfl ?_
                  refine e_Ok.sub kAlk (e_sub_of rfl ?_) (ih23 (y3 + 1) w37 V2 ⟨f41, q40T, (e_fr.trans j26 q40f), (fun c k g => (q40o c k g).trans (j27 c k g)), t1, (by rw [show (y3 + 1).toNat = y3.toNat + 1 by omega]; exact tkE.snoc _ j29 ⟨j30, by omega, by omega⟩ t2), t3, (e_fr.trans j31 t4), (by omega), by omega, (aQ.trans j34 t7)⟩ (by omega))
                  exact ⟨rfl, rfl, rfl, trivial⟩
            refine e_Ok.sub kAlk (e_sub_of rfl ?_) (hL22 (1000 + 1 : Int).toNat 0 w18 (pj w (S (w 0 12))) ⟨f21, q20T, (e_fr.refl _), (fun _ _ _ => rfl), hU1, rfl, hIU, (e_fr.refl _), (by omega), by omega, (aQ.refl _)⟩ (by omega))
            exact ⟨rfl, rfl, rfl, trivial⟩
          · replace h16 : (z15 : Int) = 0 := by have q : ¬ ((z15 : Int) ≠ 0) := h16; omega
            refine e_Ok.run (t' := (52, [(2, (0, z9)), (0, (1, 0)), (1, (0, n))], [(0, (-3))], w)) 1 rfl ?_
            refine e_Ok.rets rfl rfl ?_
            exact ⟨_, rfl, hT, Or.inl rfl⟩
      · replace h7 : (w 0 13 : Int) = 0 := by have q : ¬ ((w 0 13 : Int) ≠ 0) := h7; omega
        refine e_Ok.run (t' := (22, [(0, (1, 0)), (1, (0, n))], [(0, (-2))], w)) 1 rfl ?_
        refine e_Ok.rets rfl rfl ?_
        exact ⟨_, rfl, hT, Or.inl rfl⟩
    · replace h6 : (1 : Int) = 0 := by have q : ¬ ((1 : Int) ≠ 0) := h6; omega
      exfalso; omega
  · show e_Ok 20 elay kcode eI (d + 1) 214 (8, [(0, (1, 0)), (1, (0, n))], [(0, 0)], w) _
    refine e_Ok.if1 rfl (fun h42 => ?_) (fun h42 => ?_)
    · replace h42 : (0 : Int) ≠ 0 := h42
      exfalso; omega
    · replace h42 : (0 : Int) = 0 := by have q : ¬ ((0 : Int) ≠ 0) := h42; omega
      refine e_Ok.run (t' := (12, [(0, (1, 0)), (1, (0, n))], [(0, (-1))], w)) 1 rfl ?_
      refine e_Ok.rets rfl rfl ?_
      exact ⟨_, rfl, hT, Or.inl rfl⟩
set_option maxHeartbeats 4000000 in
theorem c_225 {d : Nat} (hd : 32 ≤ d) {w : eW} (hT : e_Has kTy w) (hO : 0 ≤ w 0 13 ∧ w 0 13 ≤ 1) (hC : ∀ a, 0 ≤ a → a ≤ 3 → isCd (w (17 * a + 86) 7)) (hB : w 0 13 = 1 → ∃ OP OD CL S, kB w OP OD CL S) {n : Int} (g_n : -2147483648 ≤ n ∧ n ≤ 2147483647) (h12 : 0 ≤ w 0 12 ∧ w 0 12 ≤ 2000) : e_Ok 20 elay kcode eI d 225 (0, [(0, (1, 0)), (1, (0, n))], [], w) (fun r w' => ∃ z : Int, r = [(0, z)] ∧ e_Has kTy w' ∧ opB w w') := by
  obtain ⟨d, rfl⟩ : ∃ e, d = e + 1 := ⟨d - 1, by omega⟩
  have hw0 := e_Has.get hT (c := 0) (k := 11) (lo := 0) (hi := 4) rfl (by decide)
  refine e_Ok.run (t' := (3, [(0, (1, 0)), (1, (0, n))], [(1, 0), (0, 0), (0, n)], w)) 3 rfl ?_
  refine e_Ok.getf (z := w 0 12) rfl (el_o rfl) rfl rfl rfl (by omega) ?_
  refine e_Ok.callS rfl (by omega) rfl rfl (c_242 (by omega) (by omega) (by omega)) (fun r1 w2 h3 => ?_)
  obtain ⟨z4, rfl, rfl, q5⟩ := h3
  obtain ⟨rfl, q5⟩ | ⟨rfl, q5⟩ := q5
  · show e_Ok 20 elay kcode eI (d + 1) 225 (9, [(0, (1, 0)), (1, (0, n))], [(0, 1)], w) _
    refine e_Ok.if1 rfl (fun h6 => ?_) (fun h6 => ?_)
    · replace h6 : (1 : Int) ≠ 0 := h6
      refine e_Ok.run (t' := (15, [(0, (1, 0)), (1, (0, n))], [(1, 0)], w)) 1 rfl ?_
      refine e_Ok.getf (z := w 0 13) rfl (el_o rfl) rfl rfl rfl (by omega) ?_
      refine e_Ok.if1 rfl (fun h7 => ?_) (fun h7 => ?_)
      · replace h7 : (w 0 13 : Int) ≠ 0 := h7
        refine e_Ok.run (t' := (26, [(0, (1, 0)), (1, (0, n))], [(1, 0), (0, n)], w)) 2 rfl ?_
        refine e_Ok.getf (z := w 0 12) rfl (el_o rfl) rfl rfl rfl (by omega) ?_
        refine e_Ok.if2 rfl (fun h8 => ?_) (fun h8 => ?_)
        · replace h8 : (n : Int) ≠ w 0 12 := h8
          refine e_Ok.run (t' := (42, [(0, (1, 0)), (1, (0, n))], [(0, n), (1, 0)], w)) 2 rfl ?_
          refine e_Ok.putf rfl (el_o rfl) rfl rfl ?_
          generalize hw9 : e_up w 0 12 n = w9
          have f10 : e_fr kNt w w9 := e_fr.up (e_fr.refl w) hw9 (by unfold kNt kNw; omega)
          have hT11 : e_Has kTy w9 := e_Has.ups hT hw9 rfl
          refine e_Ok.run (t' := (47, [(0, (1, 0)), (1, (0, n))], [(0, 0), (1, 0)], w9)) 2 rfl ?_
          refine e_Ok.putb rfl (el_o rfl) rfl rfl (by omega) ?_
          generalize hw12 : e_up w9 0 14 0 = w12
          have f13 : e_fr kNt w w12 := e_fr.up f10 hw12 (by unfold kNt kNw; omega)
          have hT14 : e_Has kTy w12 := e_Has.ups hT11 hw12 rfl
          refine e_Ok.run (t' := (51, [(0, (1, 0)), (1, (0, n))], [(1, 0)], w12)) 1 rfl ?_
          obtain ⟨OP, OD, CL, S, hK⟩ := hB (by omega)
          have eB : ∀ c k, ¬ (c = 0 ∧ (k = 12 ∨ k = 14)) → w12 c k = w c k := fun c k g => by rw [← hw12, e_up_ne _ _ (by omega), ← hw9, e_up_ne _ _ (by omega)]
          have oB : ∀ c k, e_out elay c k → w12 c k = w c k := fun c k g => eB c k (fun g2 => by obtain ⟨rfl, g3⟩ := g2; have z := g.2.2 0 11 15 rfl; omega)
          have kB0 : ∀ c k, Kc c k → w12 c k = w c k := fun c k g => eB c k (fun g2 => by obtain ⟨rfl, rfl | rfl⟩ := g2; exact nKc12 g; exact nKc14 g)
          have e12 : w12 0 12 = n := (by rw [← hw12]; exact (e_up_ne _ _ (Or.inr (by omega))).trans (by rw [← hw9]; exact e_up_eq _ _ _ _))
          refine e_Ok.callV rfl (by omega) rfl rfl rfl rfl ((hK.2.2.1 w12 kB0 hT14).dp (by omega)) (fun r15 w16 h17 => ?_)
          obtain ⟨rfl, q18f, q18T, q18o, q18x, q18a⟩ := h17
          have f19 : e_fr kNt w w16 := e_fr.trans f13 (e_fr.mono q18f (fun c k q => by exact Or.inl q))
          show e_Ok 20 elay kcode eI (d + 1) 225 (54, [(0, (1, 0)), (1, (0, n))], [], w16) _
          refine e_Ok.run (t' := (56, [(2, (0, 0)), (0, (1, 0)), (1, (0, n))], [], w16)) 2 rfl ?_
          have hL20 : ∀ (nn : Nat) (y2 : Int) (v1 : eW), e_fr kNt w v1 ∧ e_Has kTy v1 ∧ (∀ c k, e_out elay c k → v1 c k = w c k) ∧ v1 0 12 = n ∧ e_rx (S y2) v1 ∧ ((0 ≤ y2 ∧ y2 ≤ n)) ∧ (∀ a, 0 ≤ a → a ≤ 3 → aP v1 a) → 2000 - y2 < nn → e_Ok 20 elay kcode eI (d + 1) 225 (56, [(0, (1, 0)), (1, (0, n)), (2, (0, y2))], [], v1) (fun r w' => ∃ z : Int, r = [(0, z)] ∧ e_Has kTy w' ∧ opB w w') := by
            intro nn
            induction nn with
            | zero => intro y2 v1 hj hm; obtain ⟨j22, j23, j24, j25, j26, j27, j28⟩ := hj; exfalso; omega
            | succ nn ih21 =>
              intro y2 v1 hj hm
              obtain ⟨j22, j23, j24, j25, j26, j27, j28⟩ := hj
              refine e_Ok.run (t' := (58, [(0, (1, 0)), (1, (0, n)), (2, (0, y2))], [(0, n), (0, y2)], v1)) 2 rfl ?_
              refine e_Ok.if2 rfl (fun h29 => ?_) (fun h29 => ?_)
              · replace h29 : (y2 : Int) ≥ n := h29
                refine e_Ok.run (t' := (147, [(0, (1, 0)), (1, (0, n)), (2, (0, y2))], [(0, 1), (1, 0)], v1)) 2 rfl ?_
                refine e_Ok.putb rfl (el_o rfl) rfl rfl (by omega) ?_
                generalize hw30 : e_up v1 0 14 1 = w30
                have f31 : e_fr kNt w w30 := e_fr.up j22 hw30 (by unfold kNt kNw; omega)
                have hT32 : e_Has kTy w30 := e_Has.ups j23 hw30 rfl
                refine e_Ok.run (t' := (151, [(0, (1, 0)), (1, (0, n)), (2, (0, y2))], [(1, 0)], w30)) 1 rfl ?_
                refine e_Ok.getr (z := 74) rfl (el_o rfl) rfl rfl (by rw [← hw30]; exact (e_up_ne _ _ (Or.inr (by omega))).trans ((j22 0 5 (by unfold kNt kNw; omega)).trans (Eq.trans (e_Has.eq hT rfl) (by omega)))) (by omega) ?_
                have h33 := (e_Has.get j23 (c := 74) (k := 0) (lo := 0) (hi := 6000) rfl (by decide))
                refine e_Ok.getf (z := v1 74 0) rfl (el_o rfl) rfl rfl (by rw [← hw30]; exact (e_up_ne _ _ (Or.inl (by omega))).trans rfl) (by omega) ?_
                refine e_Ok.rets rfl rfl ?_
                have hy : y2 = n := by omega
                have eX : ∀ c k, ¬ (c = 0 ∧ k = 14) → w30 c k = v1 c k := fun c k g => by rw [← hw30]; exact e_up_ne _ _ (by omega)
                have oX : ∀ c k, e_out elay c k → w30 c k = w c k := fun c k g => (eX c k (fun g2 => by obtain ⟨rfl, g3⟩ := g2; have z := g.2.2 0 11 15 rfl; omega)).trans (j24 c k g)
                have fX : e_fr kNh w w30 := e_fr.mono f31 (fun c k g => nt_nh g)
                have eY : ∀ c k, ((262 ≤ c ∧ c ≤ 271) ∨ c = 273) → w30 c k = w c k := fun c k g => f31 c k (by unfold kNt kNw; omega)
                have hBv := hK.back (n := n) (by omega) (Kc.of fX hT hT32 oX) (by rw [eX _ _ (by omega)]; exact j25) (eY _ _ (by omega)) (fun c k g1 g2 => eY c k (by omega)) (fun k => eY _ _ (by omega)) (fun c k g1 g2 => by rw [eX c k (fun g3 => g1 (Or.inl ⟨by omega, by obtain ⟨rfl, rfl⟩ := g3; exact (by decide : (1 : Int) ≠ 0)⟩))]; have z := j26; rw [hy] at z; exact z c k g1 g2) (fun a g1 g2 => aP.up0 hw30 j23 hT32 ⟨g1, g2⟩ (j28 a g1 g2))
                exact ⟨_, rfl, hT32, Or.inr ⟨by omega, f31, (by rw [← hw30]; exact e_up_eq _ _ _ _), OP, OD, CL, S, hBv⟩⟩
              · replace h29 : (y2 : Int) < n := by have q : ¬ ((y2 : Int) ≥ n) := h29; omega
                refine e_Ok.run (t' := (63, [(0, (1, 0)), (1, (0, n)), (2, (0, y2))], [(0, 4), (0, y2)], v1)) 2 rfl ?_
                refine e_Ok.mul (z := 4 * y2) rfl (by omega) (by omega) ?_
                refine e_Ok.run (t' := (65, [(3, (0, 4 * y2)), (0, (1, 0)), (1, (0, n)), (2, (0, y2))], [], v1)) 1 rfl ?_
                obtain ⟨hkn, hrw⟩ := hK.2.2.2.2.2 y2 (by omega) (by omega)
                have hb0 := hkn (4 * y2) (by omega) (by omega); unfold kn1 at hb0
                have hb1 := hkn (4 * y2 + 1) (by omega) (by omega); unfold kn1 at hb1
                have hb2 := hkn (4 * y2 + 2) (by omega) (by omega); unfold kn1 at hb2
                have hb3 := hkn (4 * y2 + 3) (by omega) (by omega); unfold kn1 at hb3
                have eWp : ∀ c k, (262 ≤ c ∧ c ≤ 271) → v1 c k = w c k := fun c k g => j22 c k (by unfold kNt kNw; omega)
                have hU : e_rf (pj w (S y2)) v1 := rx_pjw j26 (eWp _ _ (by omega)) (fun c k g1 g2 => eWp c k (by omega))
                obtain ⟨⟨hh, hh0, hI⟩, hev, he0, he1⟩ := hK.ev (i := y2) (by omega)
                refine e_Ok.run (t' := (66, [(3, (0, 4 * y2)), (0, (1, 0)), (1, (0, n)), (2, (0, y2))], [(1, 0)], v1)) 1 rfl ?_
                refine e_Ok.getr (z := 273) rfl (el_o rfl) rfl rfl ((j22 0 9 (by unfold kNt kNw; omega)).trans (Eq.trans (e_Has.eq hT rfl) (by omega))) (by omega) ?_
                refine e_Ok.run (t' := (70, [(3, (0, 4 * y2)), (0, (1, 0)), (1, (0, n)), (2, (0, y2))], [(0, 4 * y2), (1, 273)], v1)) 1 rfl ?_
                refine e_Ok.ald (z := w 273 (4 * y2)) rfl (el_o rfl) rfl (by omega) ((j22 273 (4 * y2) (by unfold kNt kNw; omega)).trans rfl) (by omega) ?_
                refine e_Ok.run (t' := (72, [(3, (0, 4 * y2)), (0, (1, 0)), (1, (0, n)), (2, (0, y2))], [(0, 1), (0, w 273 (4 * y2))], v1)) 1 rfl ?_
                refine e_Ok.if2 rfl (fun h34 => ?_) (fun h34 => ?_)
                · replace h34 : (w 273 (4 * y2) : Int) = 1 := h34
                  refine e_Ok.run (t' := (116, [(4, (0, 0)), (3, (0, 4 * y2)), (0, (1, 0)), (1, (0, n)), (2, (0, y2))], [], v1)) 2 rfl ?_
                  have hL35 : ∀ (nn : Nat) (y4 : Int) (v2 : eW) (U1 : eW), e_fr kNt w v2 ∧ e_Has kTy v2 ∧ (∀ c k, e_out elay c k → v2 c k = w c k) ∧ v2 0 12 = n ∧ e_rf U1 v2 ∧ tkW OP OD CL (w 273 (4 * y2 + 1) - y4).toNat U1 (S (y2 + 1)) ∧ ((0 ≤ y4 ∧ y4 ≤ w 273 (4 * y2 + 1) ∧ w 273 (4 * y2 + 1) ≤ 1000)) ∧ (∀ a, 0 ≤ a → a ≤ 3 → aP v2 a) → 1000 - y4 < nn → e_Ok 20 elay kcode eI (d + 1) 225 (116, [(0, (1, 0)), (1, (0, n)), (2, (0, y2)), (3, (0, 4 * y2)), (4, (0, y4))], [], v2) (fun r w' => ∃ z : Int, r = [(0, z)] ∧ e_Has kTy w' ∧ opB w w') := by
                    intro nn
                    induction nn with
                    | zero => intro y4 v2 U1 hj hm; obtain ⟨j37, j38, j40, j41, j42, j43, j44, j45⟩ := hj; exfalso; omega
                    | succ nn ih36 =>
                      intro y4 v2 U1 hj hm
                      obtain ⟨j37, j38, j40, j41, j42, j43, j44, j45⟩ := hj
                      refine e_Ok.run (t' := (119, [(0, (1, 0)), (1, (0, n)), (2, (0, y2)), (3, (0, 4 * y2)), (4, (0, y4))], [(1, 0), (0, y4)], v2)) 2 rfl ?_
                      refine e_Ok.getr (z := 273) rfl (el_o rfl) rfl rfl ((j37 0 9 (by unfold kNt kNw; omega)).trans (Eq.trans (e_Has.eq hT rfl) (by omega))) (by omega) ?_
                      refine e_Ok.run (t' := (124, [(0, (1, 0)), (1, (0, n)), (2, (0, y2)), (3, (0, 4 * y2)), (4, (0, y4))], [(0, 1), (0, 4 * y2), (1, 273), (0, y4)], v2)) 2 rfl ?_
                      refine e_Ok.add (z := 4 * y2 + 1) rfl (by omega) (by omega) ?_
                      refine e_Ok.ald (z := w 273 (4 * y2 + 1)) rfl (el_o rfl) rfl (by omega) ((j37 273 (4 * y2 + 1) (by unfold kNt kNw; omega)).trans rfl) (by omega) ?_
                      refine e_Ok.if2 rfl (fun h46 => ?_) (fun h46 => ?_)
                      · replace h46 : (y4 : Int) ≥ w 273 (4 * y2 + 1) := h46
                        have hts := j43
                        rw [show (w 273 (4 * y2 + 1) - y4).toNat = 0 by omega] at hts
                        have hrx : e_rx (S (y2 + 1)) v2 := e_rx.rf hts j42
                        refine e_Ok.inc (z := y2 + 1) rfl rfl (by omega) (by omega) ?_
                        show e_Ok 20 elay kcode eI (d + 1) 225 (142, [(2, (0, y2 + 1)), (0, (1, 0)), (1, (0, n)), (3, (0, 4 * y2)), (4, (0, y4))], [], v2) _
                        refine e_Ok.run (t' := (56, [(2, (0, y2 + 1)), (0, (1, 0)), (1, (0, n)), (3, (0, 4 * y2)), (4, (0, y4))], [], v2)) 1 rfl ?_
                        refine e_Ok.sub kAlk (e_sub_of rfl ?_) (ih21 (y2 + 1) v2 ⟨j37, j38, j40, j41, hrx, by omega, j45⟩ (by omega))
                        exact ⟨rfl, rfl, rfl, trivial⟩
                      · replace h46 : (y4 : Int) < w 273 (4 * y2 + 1) := by have q : ¬ ((y4 : Int) ≥ w 273 (4 * y2 + 1)) := h46; omega
                        refine e_Ok.run (t' := (130, [(0, (1, 0)), (1, (0, n)), (2, (0, y2)), (3, (0, 4 * y2)), (4, (0, y4))], [(1, 0)], v2)) 1 rfl ?_
                        obtain ⟨m, hm⟩ : ∃ m : Nat, (w 273 (4 * y2 + 1) - y4).toNat = m + 1 := ⟨(w 273 (4 * y2 + 1) - y4).toNat - 1, by omega⟩
                        have hts := j43
                        rw [hm] at hts
                        obtain ⟨hg, u2, ht1, hts2⟩ := hts
                        refine e_Ok.callV rfl (by omega) rfl rfl rfl rfl (tick_b (by omega) (U := U1) j42 hg ht1) (fun r47 w48 h49 => ?_)
                        obtain ⟨⟨rfl, q50f, q50T, q50x, q50a⟩, q50o⟩ := h49
                        have f51 : e_fr kNt w w48 := e_fr.trans j37 (e_fr.mono q50f (fun c k q => by exact Or.inl q))
                        show e_Ok 20 elay kcode eI (d + 1) 225 (133, [(0, (1, 0)), (1, (0, n)), (2, (0, y2)), (3, (0, 4 * y2)), (4, (0, y4))], [], w48) _
                        refine e_Ok.inc (z := y4 + 1) rfl rfl (by omega) (by omega) ?_
                        show e_Ok 20 elay kcode eI (d + 1) 225 (136, [(4, (0, y4 + 1)), (0, (1, 0)), (1, (0, n)), (2, (0, y2)), (3, (0, 4 * y2))], [], w48) _
                        refine e_Ok.run (t' := (116, [(4, (0, y4 + 1)), (0, (1, 0)), (1, (0, n)), (2, (0, y2)), (3, (0, 4 * y2))], [], w48)) 1 rfl ?_
                        refine e_Ok.sub kAlk (e_sub_of rfl ?_) (ih36 (y4 + 1) w48 u2 ⟨f51, q50T, (fun c k g => (q50o c k g).trans (j40 c k g)), (by rw [q50f _ _ (by unfold kNw; omega)]; exact j41), q50x, (by rw [show (w 273 (4 * y2 + 1) - (y4 + 1)).toNat = m by omega]; exact hts2), by omega, (fun a g1 g2 => q50a a g1 g2 (j45 a g1 g2))⟩ (by omega))
                        exact ⟨rfl, rfl, rfl, rfl, rfl, trivial⟩
                  refine e_Ok.sub kAlk (e_sub_of rfl ?_) (hL35 (1000 + 1 : Int).toNat 0 v1 (pj w (S y2)) ⟨j22, j23, j24, j25, hU, (by rcases hrw with g | g; exact absurd (show w 273 (4 * y2) = 1 by omega) g.1; exact (by rw [show (w 273 (4 * y2 + 1) - 0).toNat = (w 273 (4 * y2 + 1)).toNat by omega]; exact g.2.2)), (by rcases hrw with g | g; exact absurd (show w 273 (4 * y2) = 1 by omega) g.1; (have g2 := g.2.1; omega)), j28⟩ (by omega))
                  exact ⟨rfl, rfl, rfl, rfl, rfl, trivial⟩
                · replace h34 : (w 273 (4 * y2) : Int) ≠ 1 := by have q : ¬ ((w 273 (4 * y2) : Int) = 1) := h34; omega
                  refine e_Ok.run (t' := (77, [(3, (0, 4 * y2)), (0, (1, 0)), (1, (0, n)), (2, (0, y2))], [(1, 0), (1, 0)], v1)) 2 rfl ?_
                  refine e_Ok.getr (z := 273) rfl (el_o rfl) rfl rfl ((j22 0 9 (by unfold kNt kNw; omega)).trans (Eq.trans (e_Has.eq hT rfl) (by omega))) (by omega) ?_
                  refine e_Ok.run (t' := (81, [(3, (0, 4 * y2)), (0, (1, 0)), (1, (0, n)), (2, (0, y2))], [(0, 4 * y2), (1, 273), (1, 0)], v1)) 1 rfl ?_
                  refine e_Ok.ald (z := w 273 (4 * y2)) rfl (el_o rfl) rfl (by omega) ((j22 273 (4 * y2) (by unfold kNt kNw; omega)).trans rfl) (by omega) ?_
                  refine e_Ok.run (t' := (83, [(3, (0, 4 * y2)), (0, (1, 0)), (1, (0, n)), (2, (0, y2))], [(1, 0), (0, w 273 (4 * y2)), (1, 0)], v1)) 1 rfl ?_
                  refine e_Ok.getr (z := 273) rfl (el_o rfl) rfl rfl ((j22 0 9 (by unfold kNt kNw; omega)).trans (Eq.trans (e_Has.eq hT rfl) (by omega))) (by omega) ?_
                  refine e_Ok.run (t' := (88, [(3, (0, 4 * y2)), (0, (1, 0)), (1, (0, n)), (2, (0, y2))], [(0, 1), (0, 4 * y2), (1, 273), (0, w 273 (4 * y2)), (1, 0)], v1)) 2 rfl ?_
                  refine e_Ok.add (z := 4 * y2 + 1) rfl (by omega) (by omega) ?_
                  refine e_Ok.ald (z := w 273 (4 * y2 + 1)) rfl (el_o rfl) rfl (by omega) ((j22 273 (4 * y2 + 1) (by unfold kNt kNw; omega)).trans rfl) (by omega) ?_
                  refine e_Ok.run (t' := (91, [(3, (0, 4 * y2)), (0, (1, 0)), (1, (0, n)), (2, (0, y2))], [(1, 0), (0, w 273 (4 * y2 + 1)), (0, w 273 (4 * y2)), (1, 0)], v1)) 1 rfl ?_
                  refine e_Ok.getr (z := 273) rfl (el_o rfl) rfl rfl ((j22 0 9 (by unfold kNt kNw; omega)).trans (Eq.trans (e_Has.eq hT rfl) (by omega))) (by omega) ?_
                  refine e_Ok.run (t' := (96, [(3, (0, 4 * y2)), (0, (1, 0)), (1, (0, n)), (2, (0, y2))], [(0, 2), (0, 4 * y2), (1, 273), (0, w 273 (4 * y2 + 1)), (0, w 273 (4 * y2)), (1, 0)], v1)) 2 rfl ?_
                  refine e_Ok.add (z := 4 * y2 + 2) rfl (by omega) (by omega) ?_
                  refine e_Ok.ald (z := w 273 (4 * y2 + 2)) rfl (el_o rfl) rfl (by omega) ((j22 273 (4 * y2 + 2) (by unfold kNt kNw; omega)).trans rfl) (by omega) ?_
                  refine e_Ok.run (t' := (99, [(3, (0, 4 * y2)), (0, (1, 0)), (1, (0, n)), (2, (0, y2))], [(1, 0), (0, w 273 (4 * y2 + 2)), (0, w 273 (4 * y2 + 1)), (0, w 273 (4 * y2)), (1, 0)], v1)) 1 rfl ?_
                  refine e_Ok.getr (z := 273) rfl (el_o rfl) rfl rfl ((j22 0 9 (by unfold kNt kNw; omega)).trans (Eq.trans (e_Has.eq hT rfl) (by omega))) (by omega) ?_
                  refine e_Ok.run (t' := (104, [(3, (0, 4 * y2)), (0, (1, 0)), (1, (0, n)), (2, (0, y2))], [(0, 3), (0, 4 * y2), (1, 273), (0, w 273 (4 * y2 + 2)), (0, w 273 (4 * y2 + 1)), (0, w 273 (4 * y2)), (1, 0)], v1)) 2 rfl ?_
                  refine e_Ok.add (z := 4 * y2 + 3) rfl (by omega) (by omega) ?_
                  refine e_Ok.ald (z := w 273 (4 * y2 + 3)) rfl (el_o rfl) rfl (by omega) ((j22 273 (4 * y2 + 3) (by unfold kNt kNw; omega)).trans rfl) (by omega) ?_
                  obtain ⟨hx1, hrc, hru⟩ : (w 273 (4 * y2) ≠ 1) ∧ rwC (pj w (S y2)) _ _ _ _ ∧ _ := by rcases hrw with g | g; exact g; exact absurd g.1 (by omega)
                  refine e_Ok.callV rfl (by omega) rfl rfl rfl rfl (row_b (by omega) hU hI hh0 (by omega) hrc hb1 hb2 hb3 hru) (fun r52 w53 h54 => ?_)
                  obtain ⟨⟨⟨z, rfl⟩, q55f, q55T, q55x, q55a⟩, q55o⟩ := h54
                  have f56 : e_fr kNt w w53 := e_fr.trans j22 (e_fr.mono q55f (fun c k q => by exact Or.inl q))
                  show e_Ok 20 elay kcode eI (d + 1) 225 (109, [(3, (0, 4 * y2)), (0, (1, 0)), (1, (0, n)), (2, (0, y2))], [(0, z)], w53) _
                  refine e_Ok.run (t' := (139, [(3, (0, 4 * y2)), (0, (1, 0)), (1, (0, n)), (2, (0, y2))], [], w53)) 2 rfl ?_
                  refine e_Ok.inc (z := y2 + 1) rfl rfl (by omega) (by omega) ?_
                  show e_Ok 20 elay kcode eI (d + 1) 225 (142, [(2, (0, y2 + 1)), (3, (0, 4 * y2)), (0, (1, 0)), (1, (0, n))], [], w53) _
                  refine e_Ok.run (t' := (56, [(2, (0, y2 + 1)), (3, (0, 4 * y2)), (0, (1, 0)), (1, (0, n))], [], w53)) 1 rfl ?_
                  refine e_Ok.sub kAlk (e_sub_of rfl ?_) (ih21 (y2 + 1) w53 ⟨f56, q55T, (fun c k g => (q55o c k g).trans (j24 c k g)), (by rw [q55f _ _ (by unfold kNw; omega)]; exact j25), q55x, by omega, (fun a g1 g2 => q55a a g1 g2 (j28 a g1 g2))⟩ (by omega))
                  exact ⟨rfl, rfl, rfl, trivial⟩
          refine e_Ok.sub kAlk (e_sub_of rfl ?_) (hL20 (2000 + 1 : Int).toNat 0 w16 ⟨f19, q18T, (fun c k g => (q18o c k g).trans (oB c k g)), (by rw [q18f _ _ (by unfold kNw; omega)]; exact e12), q18x.rx, by omega, q18a⟩ (by omega))
          exact ⟨rfl, rfl, rfl, trivial⟩
        · replace h8 : (n : Int) = w 0 12 := by have q : ¬ ((n : Int) ≠ w 0 12) := h8; omega
          refine e_Ok.run (t' := (33, [(0, (1, 0)), (1, (0, n))], [(1, 0)], w)) 1 rfl ?_
          refine e_Ok.getr (z := 74) rfl (el_o rfl) rfl rfl (Eq.trans (e_Has.eq hT rfl) (by omega)) (by omega) ?_
          have h57 := (e_Has.get hT (c := 74) (k := 0) (lo := 0) (hi := 6000) rfl (by decide))
          refine e_Ok.getf (z := w 74 0) rfl (el_o rfl) rfl rfl rfl (by omega) ?_
          refine e_Ok.rets rfl rfl ?_
          exact ⟨_, rfl, hT, Or.inl rfl⟩
      · replace h7 : (w 0 13 : Int) = 0 := by have q : ¬ ((w 0 13 : Int) ≠ 0) := h7; omega
        refine e_Ok.run (t' := (23, [(0, (1, 0)), (1, (0, n))], [(0, (-2))], w)) 1 rfl ?_
        refine e_Ok.rets rfl rfl ?_
        exact ⟨_, rfl, hT, Or.inl rfl⟩
    · replace h6 : (1 : Int) = 0 := by have q : ¬ ((1 : Int) ≠ 0) := h6; omega
      exfalso; omega
  · show e_Ok 20 elay kcode eI (d + 1) 225 (9, [(0, (1, 0)), (1, (0, n))], [(0, 0)], w) _
    refine e_Ok.if1 rfl (fun h58 => ?_) (fun h58 => ?_)
    · replace h58 : (0 : Int) ≠ 0 := h58
      exfalso; omega
    · replace h58 : (0 : Int) = 0 := by have q : ¬ ((0 : Int) ≠ 0) := h58; omega
      refine e_Ok.run (t' := (13, [(0, (1, 0)), (1, (0, n))], [(0, (-1))], w)) 1 rfl ?_
      refine e_Ok.rets rfl rfl ?_
      exact ⟨_, rfl, hT, Or.inl rfl⟩
end
