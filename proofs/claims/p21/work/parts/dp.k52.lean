noncomputable section
/-! the class: the reader, texts -/
def kRv (cd : Int) (c k : Int) : Prop := (c = 1 ∧ (k = 1 ∨ k = 2 ∨ (5 ≤ k ∧ k ≤ 10))) ∨ (c = cd ∧ k = 2) ∨ c = 6
def kRr (cd : Int) (c k : Int) : Prop := (c = 1 ∧ (k = 1 ∨ k = 2 ∨ (5 ≤ k ∧ k ≤ 14))) ∨ (c = cd ∧ 0 ≤ k ∧ k ≤ 2) ∨ c = cd + 1 ∨ c = cd + 2 ∨ c = 6 ∨ c = 7
def kRf (cd : Int) (c k : Int) : Prop := (c = 1 ∧ (k = 9 ∨ k = 10)) ∨ (c = cd ∧ k = 1) ∨ c = cd + 2
def kCl0 (cd : Int) (c k : Int) : Prop := c = cd ∧ 0 ≤ k ∧ k ≤ 2
def kXc (a : Int) (c k : Int) : Prop := c = 17 * a + 86 ∧ k = 7
def kPg (cd a : Int) (c k : Int) : Prop := kRr cd c k ∨ (c = 1 ∧ (k = 0 ∨ k = 3)) ∨ (c = 17 * a + 86 ∧ k = 7)
set_option maxHeartbeats 4000000 in
theorem c_141 {d : Nat} (hd : 27 ≤ d) {w : eW} {cd : Int} (hS : rS w cd) : e_Ok 20 elay kcode eI d 141 (0, [(0, (1, 1))], [], w) (fun r w' => r = [] ∧ e_fr (kRv cd) w w' ∧ rS w' cd ∧ (nF w' → nF w ∧ w 1 6 ≤ w' 1 6)) := by
  obtain ⟨d, rfl⟩ : ∃ e, d = e + 1 := ⟨d - 1, by omega⟩
  obtain ⟨hT, hH, hc, hcd, hk⟩ := hS
  have hcd2 := hcd; unfold isCd at hcd2
  have hcd3 : 2 ≤ cd ∧ cd ≤ 145 := by omega
  have p1 := e_Has.get hH (c := 1) (k := 1) (lo := (-2147483648)) (hi := 2147483647) rfl (by decide)
  have p5 := e_Has.get hH (c := 1) (k := 5) (lo := 0) (hi := 53) rfl (by decide)
  have p6 := e_Has.get hH (c := 1) (k := 6) (lo := 0) (hi := 4000) rfl (by decide)
  have p9 := e_Has.get hH (c := 1) (k := 9) (lo := (-2147483648)) (hi := 2147483647) rfl (by decide)
  have p14 := e_Has.get hH (c := 1) (k := 14) (lo := 0) (hi := 500) rfl (by decide)
  have n0 : nF w → nF w ∧ w 1 6 ≤ w 1 6 := fun n => ⟨n, Int.le_refl _⟩
  have pV := e_Has.get hT (c := cd) (k := 2) (lo := 0) (hi := 32) (kD_2 hcd) (by decide)
  refine e_Ok.run (t' := (1, [(0, (1, 1))], [(1, 1)], w)) 1 rfl ?_
  have h1 := (e_Has.get hH (c := 1) (k := 5) (lo := 0) (hi := 53) rfl (by decide))
  refine e_Ok.getf (z := w 1 5) rfl (el_o rfl) rfl rfl rfl (by omega) ?_
  refine e_Ok.run (t' := (5, [(0, (1, 1))], [(0, 1), (0, w 1 5)], w)) 1 rfl ?_
  refine e_Ok.if2 rfl (fun h2 => ?_) (fun h2 => ?_)
  · replace h2 : (w 1 5 : Int) ≠ 1 := h2
    refine e_Ok.run (t' := (68, [(0, (1, 1))], [(0, 1), (1, 1)], w)) 2 rfl ?_
    refine e_Ok.callV rfl (by omega) rfl rfl rfl rfl (c_129 (by omega) hT hH hk (by omega)) (fun r3 w4 h5 => ?_)
    obtain ⟨rfl, q6f, q6T, q6H, q6k, q6x⟩ := h5
    have f7 : e_fr (kRv cd) w w4 := e_fr.trans (e_fr.refl w) (e_fr.mono q6f (fun c k q => by unfold kRk at q; unfold kRv; omega))
    have n8 : nF w4 → nF w ∧ w 1 6 ≤ w4 1 6 := fun n => by have m := hk.a0; have h := q6x n; have g := n0 h.1; exact ⟨g.1, by omega⟩
    show e_Ok 20 elay kcode eI (d + 1) 141 (71, [(0, (1, 1))], [], w4) _
    refine e_Ok.rets rfl rfl ?_
    exact ⟨rfl, f7, ⟨q6T, q6H, ((q6f 1 3 (by unfold kRk; omega)).trans hc), hcd, q6k⟩, n8⟩
  · replace h2 : (w 1 5 : Int) = 1 := by have q : ¬ ((w 1 5 : Int) ≠ 1) := h2; omega
    refine e_Ok.run (t' := (9, [(0, (1, 1))], [(1, 1)], w)) 1 rfl ?_
    refine e_Ok.callV rfl (by omega) rfl rfl rfl rfl (c_139 (by omega) hT hH hk hc hcd) (fun r9 w10 h11 => ?_)
    obtain ⟨rfl, q12f, q12T, q12H, q12k, q12x⟩ := h11
    have f14 : e_fr (kRv cd) w w10 := e_fr.trans (e_fr.refl w) (e_fr.mono q12f (fun c k q => by unfold kRc at q; unfold kRv; omega))
    have n15 : nF w10 → nF w ∧ w 1 6 ≤ w10 1 6 := fun n => by have g := n0 (q12x n); exact ⟨g.1, by rw [q12f 1 6 (by unfold kRc; omega)]; exact g.2⟩
    show e_Ok 20 elay kcode eI (d + 1) 141 (12, [(0, (1, 1))], [], w10) _
    refine e_Ok.run (t' := (13, [(0, (1, 1))], [(1, 1)], w10)) 1 rfl ?_
    refine e_Ok.getr (z := cd) rfl (el_o rfl) rfl rfl ((q12f 1 3 (by unfold kRc; omega)).trans hc) (by omega) ?_
    have h16 := (e_Has.get hT (c := cd) (k := 2) (lo := 0) (hi := 32) (kD_2 hcd) (by decide))
    refine e_Ok.getf (z := w cd 2) rfl (lD0 hcd) rfl rfl ((q12f cd 2 (by unfold kRc; omega)).trans rfl) (by omega) ?_
    refine e_Ok.run (t' := (21, [(0, (1, 1))], [(0, 32), (0, w cd 2)], w10)) 1 rfl ?_
    refine e_Ok.if2 rfl (fun h17 => ?_) (fun h17 => ?_)
    · replace h17 : (w cd 2 : Int) ≥ 32 := h17
      refine e_Ok.run (t' := (60, [(0, (1, 1))], [(1, 1), (0, 7), (1, 1)], w10)) 3 rfl ?_
      have h18 := (e_Has.get hH (c := 1) (k := 6) (lo := 0) (hi := 4000) rfl (by decide))
      refine e_Ok.getf (z := w 1 6) rfl (el_o rfl) rfl rfl ((q12f 1 6 (by unfold kRc; omega)).trans rfl) (by omega) ?_
      refine e_Ok.callV rfl (by omega) rfl rfl rfl rfl (c_133 q12T q12H q12k (by omega) (by omega)) (fun r19 w20 h21 => ?_)
      obtain ⟨rfl, q22f, q22T, q22H, q22k, q22n⟩ := h21
      have f23 : e_fr (kRv cd) w w20 := e_fr.trans f14 (e_fr.mono q22f (fun c k q => by unfold kRc at q; unfold kRv; omega))
      have n24 : nF w20 → nF w ∧ w 1 6 ≤ w20 1 6 := fun n => absurd n q22n
      show e_Ok 20 elay kcode eI (d + 1) 141 (66, [(0, (1, 1))], [], w20) _
      refine e_Ok.run (t' := (68, [(0, (1, 1))], [(0, 1), (1, 1)], w20)) 2 rfl ?_
      refine e_Ok.callV rfl (by omega) rfl rfl rfl rfl (c_129 (by omega) q22T q22H q22k (by omega)) (fun r25 w26 h27 => ?_)
      obtain ⟨rfl, q28f, q28T, q28H, q28k, q28x⟩ := h27
      have f29 : e_fr (kRv cd) w w26 := e_fr.trans f23 (e_fr.mono q28f (fun c k q => by unfold kRk at q; unfold kRv; omega))
      have n30 : nF w26 → nF w ∧ w 1 6 ≤ w26 1 6 := fun n => by have m := q22k.a0; have h := q28x n; have g := n24 h.1; exact ⟨g.1, by omega⟩
      show e_Ok 20 elay kcode eI (d + 1) 141 (71, [(0, (1, 1))], [], w26) _
      refine e_Ok.rets rfl rfl ?_
      exact ⟨rfl, f29, ⟨q28T, q28H, ((q28f 1 3 (by unfold kRk; omega)).trans ((q22f 1 3 (by unfold kRc; omega)).trans ((q12f 1 3 (by unfold kRc; omega)).trans hc))), hcd, q28k⟩, n30⟩
    · replace h17 : (w cd 2 : Int) < 32 := by have q : ¬ ((w cd 2 : Int) ≥ 32) := h17; omega
      refine e_Ok.run (t' := (25, [(0, (1, 1))], [(1, 1)], w10)) 1 rfl ?_
      refine e_Ok.getr (z := 6) rfl (el_o rfl) rfl rfl ((q12f 1 15 (by unfold kRc; omega)).trans (Eq.trans (e_Has.eq hT rfl) (by omega))) (by omega) ?_
      refine e_Ok.run (t' := (29, [(0, (1, 1))], [(1, 1), (1, 6)], w10)) 1 rfl ?_
      refine e_Ok.getr (z := cd) rfl (el_o rfl) rfl rfl ((q12f 1 3 (by unfold kRc; omega)).trans hc) (by omega) ?_
      refine e_Ok.getf (z := w cd 2) rfl (lD0 hcd) rfl rfl ((q12f cd 2 (by unfold kRc; omega)).trans rfl) (by omega) ?_
      refine e_Ok.run (t' := (36, [(0, (1, 1))], [(1, 1), (0, w cd 2), (1, 6)], w10)) 1 rfl ?_
      have h31 := (e_Has.get hH (c := 1) (k := 6) (lo := 0) (hi := 4000) rfl (by decide))
      refine e_Ok.getf (z := w 1 6) rfl (el_o rfl) rfl rfl ((q12f 1 6 (by unfold kRc; omega)).trans rfl) (by omega) ?_
      refine e_Ok.ast rfl (el_o rfl) rfl rfl (by omega) ?_
      generalize hw32 : e_up w10 6 (w cd 2) (w 1 6) = w32
      have f33 : e_fr (kRv cd) w w32 := e_fr.up f14 hw32 (by unfold kRv; omega)
      have hT34 : e_Has kTy w32 := e_Has.ups q12T hw32 rfl
      have hH35 : e_Has kRy w32 := e_Has.upr q12H hw32 rfl (by omega)
      have t36 : tkR w32 := q12k.eq (fun k g => by rw [← hw32]; exact e_up_ne _ _ (by omega))
      have n37 : nF w32 → nF w ∧ w 1 6 ≤ w32 1 6 := fun n => by have g := n15 ⟨by rw [← (show w32 1 1 = w10 1 1 from by rw [← hw32]; exact e_up_ne _ _ (by omega))]; exact n.1, by rw [← (show w32 1 9 = w10 1 9 from by rw [← hw32]; exact e_up_ne _ _ (by omega))]; exact n.2⟩; exact ⟨g.1, by rw [show w32 1 6 = w10 1 6 from by rw [← hw32]; exact e_up_ne _ _ (by omega)]; exact g.2⟩
      refine e_Ok.run (t' := (41, [(0, (1, 1))], [(1, 1)], w32)) 1 rfl ?_
      refine e_Ok.getr (z := cd) rfl (el_o rfl) rfl rfl (by rw [← hw32]; exact (e_up_ne _ _ (Or.inl (by omega))).trans ((q12f 1 3 (by unfold kRc; omega)).trans hc)) (by omega) ?_
      refine e_Ok.run (t' := (45, [(0, (1, 1))], [(1, cd), (1, cd)], w32)) 1 rfl ?_
      refine e_Ok.getf (z := w cd 2) rfl (lD0 hcd) rfl rfl (by rw [← hw32]; exact (e_up_ne _ _ (Or.inl (by omega))).trans ((q12f cd 2 (by unfold kRc; omega)).trans rfl)) (by omega) ?_
      refine e_Ok.run (t' := (49, [(0, (1, 1))], [(0, 1), (0, w cd 2), (1, cd)], w32)) 1 rfl ?_
      refine e_Ok.add (z := w cd 2 + 1) rfl (by omega) (by omega) ?_
      refine e_Ok.putf rfl (lD0 hcd) rfl rfl ?_
      generalize hw38 : e_up w32 cd 2 (w cd 2 + 1) = w38
      have f40 : e_fr (kRv cd) w w38 := e_fr.up f33 hw38 (by unfold kRv; omega)
      have hT41 : e_Has kTy w38 := e_Has.upr hT34 hw38 (kD_2 hcd) (by omega)
      have hH42 : e_Has kRy w38 := e_Has.ups hH35 hw38 (kRy_D (by omega) (by omega))
      have t43 : tkR w38 := t36.eq (fun k g => by rw [← hw38]; exact e_up_ne _ _ (by omega))
      have n44 : nF w38 → nF w ∧ w 1 6 ≤ w38 1 6 := fun n => by have g := n37 ⟨by rw [← (show w38 1 1 = w32 1 1 from by rw [← hw38]; exact e_up_ne _ _ (by omega))]; exact n.1, by rw [← (show w38 1 9 = w32 1 9 from by rw [← hw38]; exact e_up_ne _ _ (by omega))]; exact n.2⟩; exact ⟨g.1, by rw [show w38 1 6 = w32 1 6 from by rw [← hw38]; exact e_up_ne _ _ (by omega)]; exact g.2⟩
      refine e_Ok.run (t' := (68, [(0, (1, 1))], [(0, 1), (1, 1)], w38)) 3 rfl ?_
      refine e_Ok.callV rfl (by omega) rfl rfl rfl rfl (c_129 (by omega) hT41 hH42 t43 (by omega)) (fun r45 w46 h47 => ?_)
      obtain ⟨rfl, q48f, q48T, q48H, q48k, q48x⟩ := h47
      have f49 : e_fr (kRv cd) w w46 := e_fr.trans f40 (e_fr.mono q48f (fun c k q => by unfold kRk at q; unfold kRv; omega))
      have n50 : nF w46 → nF w ∧ w 1 6 ≤ w46 1 6 := fun n => by have m := t43.a0; have h := q48x n; have g := n44 h.1; exact ⟨g.1, by omega⟩
      show e_Ok 20 elay kcode eI (d + 1) 141 (71, [(0, (1, 1))], [], w46) _
      refine e_Ok.rets rfl rfl ?_
      exact ⟨rfl, f49, ⟨q48T, q48H, ((q48f 1 3 (by unfold kRk; omega)).trans (by rw [← hw38]; exact (e_up_ne _ _ (Or.inr (by omega))).trans (by rw [← hw32]; exact (e_up_ne _ _ (Or.inl (by omega))).trans ((q12f 1 3 (by unfold kRc; omega)).trans hc)))), hcd, q48k⟩, n50⟩
set_option maxHeartbeats 4000000 in
theorem c_140 {d : Nat} (hd : 28 ≤ d) {w : eW} {cd : Int} (hS : rS w cd) : e_Ok 20 elay kcode eI d 140 (0, [(0, (1, 1))], [], w) (fun r w' => r = [] ∧ e_fr (kRv cd) w w' ∧ rS w' cd ∧ (nF w' → nF w ∧ w 1 6 ≤ w' 1 6)) := by
  obtain ⟨d, rfl⟩ : ∃ e, d = e + 1 := ⟨d - 1, by omega⟩
  obtain ⟨hT, hH, hc, hcd, hk⟩ := hS
  have hcd2 := hcd; unfold isCd at hcd2
  have hcd3 : 2 ≤ cd ∧ cd ≤ 145 := by omega
  have p1 := e_Has.get hH (c := 1) (k := 1) (lo := (-2147483648)) (hi := 2147483647) rfl (by decide)
  have p5 := e_Has.get hH (c := 1) (k := 5) (lo := 0) (hi := 53) rfl (by decide)
  have p6 := e_Has.get hH (c := 1) (k := 6) (lo := 0) (hi := 4000) rfl (by decide)
  have p9 := e_Has.get hH (c := 1) (k := 9) (lo := (-2147483648)) (hi := 2147483647) rfl (by decide)
  have p14 := e_Has.get hH (c := 1) (k := 14) (lo := 0) (hi := 500) rfl (by decide)
  have n0 : nF w → nF w ∧ w 1 6 ≤ w 1 6 := fun n => ⟨n, Int.le_refl _⟩
  have pV := e_Has.get hT (c := cd) (k := 2) (lo := 0) (hi := 32) (kD_2 hcd) (by decide)
  refine e_Ok.run (t' := (1, [(0, (1, 1))], [(1, 1)], w)) 1 rfl ?_
  refine e_Ok.callV rfl (by omega) rfl rfl rfl rfl (c_123 (by omega) hT hH hk.1.2) (fun r1 w2 h3 => ?_)
  obtain ⟨rfl, q4f, q4T, q4H, q4k, q4x, q44⟩ := h3
  have f5 : e_fr (kRv cd) w w2 := e_fr.trans (e_fr.refl w) (e_fr.mono q4f (fun c k q => by unfold kRa at q; unfold kRv; omega))
  have n6 : nF w2 → nF w ∧ w 1 6 ≤ w2 1 6 := fun n => by have m := hk.a0; have g := n0 ⟨by rw [← q4f 1 1 (by unfold kRa; omega)]; exact n.1, by rw [← q4f 1 9 (by unfold kRa; omega)]; exact n.2⟩; exact ⟨g.1, by omega⟩
  show e_Ok 20 elay kcode eI (d + 1) 140 (4, [(0, (1, 1))], [], w2) _
  refine e_Ok.run (t' := (5, [(0, (1, 1))], [(1, 1)], w2)) 1 rfl ?_
  refine e_Ok.callV rfl (by omega) rfl rfl rfl rfl (c_141 (by omega) ⟨q4T, q4H, ((q4f 1 3 (by unfold kRa; omega)).trans hc), hcd, q4k⟩) (fun r7 w8 h9 => ?_)
  obtain ⟨rfl, q10f, ⟨q10T, q10H, q10c, -, q10k⟩, q10x⟩ := h9
  have f11 : e_fr (kRv cd) w w8 := e_fr.trans f5 (e_fr.mono q10f (fun c k q => by exact q))
  have n12 : nF w8 → nF w ∧ w 1 6 ≤ w8 1 6 := fun n => by have h := q10x n; have g := n6 h.1; exact ⟨g.1, by omega⟩
  show e_Ok 20 elay kcode eI (d + 1) 140 (8, [(0, (1, 1))], [], w8) _
  refine e_Ok.run (t' := (10, [(1, (0, 0)), (0, (1, 1))], [], w8)) 2 rfl ?_
  have hL13 : ∀ (nn : Nat) (y1 : Int) (v1 : eW), e_fr (kRv cd) w v1 ∧ e_Has kTy v1 ∧ e_Has kRy v1 ∧ tkR v1 ∧ ((nF v1 → nF w ∧ w 1 6 ≤ v1 1 6)) ∧ ((0 ≤ y1 ∧ y1 ≤ 4000)) → 4001 - y1 < nn → e_Ok 20 elay kcode eI (d + 1) 140 (10, [(0, (1, 1)), (1, (0, y1))], [], v1) (fun r w' => r = [] ∧ e_fr (kRv cd) w w' ∧ rS w' cd ∧ (nF w' → nF w ∧ w 1 6 ≤ w' 1 6)) := by
    intro nn
    induction nn with
    | zero => intro y1 v1 hj hm; obtain ⟨j15, j16, j17, j18, j19, j20⟩ := hj; exfalso; omega
    | succ nn ih14 =>
      intro y1 v1 hj hm
      obtain ⟨j15, j16, j17, j18, j19, j20⟩ := hj
      refine e_Ok.run (t' := (14, [(0, (1, 1)), (1, (0, y1))], [(0, 4000), (0, y1)], v1)) 2 rfl ?_
      refine e_Ok.if2 rfl (fun h21 => ?_) (fun h21 => ?_)
      · replace h21 : (y1 : Int) ≥ 4000 := h21
        refine e_Ok.run (t' := (43, [(0, (1, 1)), (1, (0, y1))], [(0, 19), (1, 1)], v1)) 2 rfl ?_
        refine e_Ok.callV rfl (by omega) rfl rfl rfl rfl (c_129 (by omega) j16 j17 j18 (by omega)) (fun r22 w23 h24 => ?_)
        obtain ⟨rfl, q25f, q25T, q25H, q25k, q25x⟩ := h24
        have f26 : e_fr (kRv cd) w w23 := e_fr.trans j15 (e_fr.mono q25f (fun c k q => by unfold kRk at q; unfold kRv; omega))
        have n27 : nF w23 → nF w ∧ w 1 6 ≤ w23 1 6 := fun n => by have m := j18.a0; have h := q25x n; have g := j19 h.1; exact ⟨g.1, by omega⟩
        show e_Ok 20 elay kcode eI (d + 1) 140 (46, [(0, (1, 1)), (1, (0, y1))], [], w23) _
        refine e_Ok.rets rfl rfl ?_
        exact ⟨rfl, f26, ⟨q25T, q25H, ((q25f 1 3 (by unfold kRk; omega)).trans ((j15 1 3 (by unfold kRv; omega)).trans hc)), hcd, q25k⟩, n27⟩
      · replace h21 : (y1 : Int) < 4000 := by have q : ¬ ((y1 : Int) ≥ 4000) := h21; omega
        refine e_Ok.run (t' := (18, [(0, (1, 1)), (1, (0, y1))], [(1, 1)], v1)) 1 rfl ?_
        have h28 := (e_Has.get j17 (c := 1) (k := 5) (lo := 0) (hi := 53) rfl (by decide))
        refine e_Ok.getf (z := v1 1 5) rfl (el_o rfl) rfl rfl rfl (by omega) ?_
        refine e_Ok.run (t' := (23, [(0, (1, 1)), (1, (0, y1))], [(0, 18), (0, v1 1 5)], v1)) 1 rfl ?_
        refine e_Ok.if2 rfl (fun h29 => ?_) (fun h29 => ?_)
        · replace h29 : (v1 1 5 : Int) ≠ 18 := h29
          refine e_Ok.run (t' := (43, [(0, (1, 1)), (1, (0, y1))], [(0, 19), (1, 1)], v1)) 2 rfl ?_
          refine e_Ok.callV rfl (by omega) rfl rfl rfl rfl (c_129 (by omega) j16 j17 j18 (by omega)) (fun r30 w31 h32 => ?_)
          obtain ⟨rfl, q33f, q33T, q33H, q33k, q33x⟩ := h32
          have f34 : e_fr (kRv cd) w w31 := e_fr.trans j15 (e_fr.mono q33f (fun c k q => by unfold kRk at q; unfold kRv; omega))
          have n35 : nF w31 → nF w ∧ w 1 6 ≤ w31 1 6 := fun n => by have m := j18.a0; have h := q33x n; have g := j19 h.1; exact ⟨g.1, by omega⟩
          show e_Ok 20 elay kcode eI (d + 1) 140 (46, [(0, (1, 1)), (1, (0, y1))], [], w31) _
          refine e_Ok.rets rfl rfl ?_
          exact ⟨rfl, f34, ⟨q33T, q33H, ((q33f 1 3 (by unfold kRk; omega)).trans ((j15 1 3 (by unfold kRv; omega)).trans hc)), hcd, q33k⟩, n35⟩
        · replace h29 : (v1 1 5 : Int) = 18 := by have q : ¬ ((v1 1 5 : Int) ≠ 18) := h29; omega
          refine e_Ok.run (t' := (27, [(0, (1, 1)), (1, (0, y1))], [(1, 1)], v1)) 1 rfl ?_
          refine e_Ok.callV rfl (by omega) rfl rfl rfl rfl (c_123 (by omega) j16 j17 j18.1.2) (fun r36 w37 h38 => ?_)
          obtain ⟨rfl, q40f, q40T, q40H, q40k, q40x, q404⟩ := h38
          have f41 : e_fr (kRv cd) w w37 := e_fr.trans j15 (e_fr.mono q40f (fun c k q => by unfold kRa at q; unfold kRv; omega))
          have n42 : nF w37 → nF w ∧ w 1 6 ≤ w37 1 6 := fun n => by have m := j18.a0; have g := j19 ⟨by rw [← q40f 1 1 (by unfold kRa; omega)]; exact n.1, by rw [← q40f 1 9 (by unfold kRa; omega)]; exact n.2⟩; exact ⟨g.1, by omega⟩
          show e_Ok 20 elay kcode eI (d + 1) 140 (30, [(0, (1, 1)), (1, (0, y1))], [], w37) _
          refine e_Ok.run (t' := (31, [(0, (1, 1)), (1, (0, y1))], [(1, 1)], w37)) 1 rfl ?_
          refine e_Ok.callV rfl (by omega) rfl rfl rfl rfl (c_141 (by omega) ⟨q40T, q40H, ((q40f 1 3 (by unfold kRa; omega)).trans ((j15 1 3 (by unfold kRv; omega)).trans hc)), hcd, q40k⟩) (fun r43 w44 h45 => ?_)
          obtain ⟨rfl, q46f, ⟨q46T, q46H, q46c, -, q46k⟩, q46x⟩ := h45
          have f47 : e_fr (kRv cd) w w44 := e_fr.trans f41 (e_fr.mono q46f (fun c k q => by exact q))
          have n48 : nF w44 → nF w ∧ w 1 6 ≤ w44 1 6 := fun n => by have h := q46x n; have g := n42 h.1; exact ⟨g.1, by omega⟩
          show e_Ok 20 elay kcode eI (d + 1) 140 (34, [(0, (1, 1)), (1, (0, y1))], [], w44) _
          refine e_Ok.inc (z := y1 + 1) rfl rfl (by omega) (by omega) ?_
          show e_Ok 20 elay kcode eI (d + 1) 140 (37, [(1, (0, y1 + 1)), (0, (1, 1))], [], w44) _
          refine e_Ok.run (t' := (10, [(1, (0, y1 + 1)), (0, (1, 1))], [], w44)) 1 rfl ?_
          refine e_Ok.sub kAlk (e_sub_of rfl ?_) (ih14 (y1 + 1) w44 ⟨f47, q46T, q46H, q46k, n48, (by omega)⟩ (by omega))
          exact ⟨rfl, rfl, trivial⟩
  refine e_Ok.sub kAlk (e_sub_of rfl ?_) (hL13 (4001 + 1 : Int).toNat 0 w8 ⟨f11, q10T, q10H, q10k, n12, (by omega)⟩ (by omega))
  exact ⟨rfl, rfl, trivial⟩
set_option maxHeartbeats 4000000 in
theorem c_142 {d : Nat} (hd : 444 ≤ d) {w : eW} {cd o : Int} (hS : rS w cd) (ho : w 1 11 = o) (hor : 0 ≤ o ∧ o ≤ 30) (h5 : w 1 5 = 22) : e_Ok 20 elay kcode eI d 142 (0, [(0, (1, 1))], [], w) (fun r w' => r = [] ∧ e_fr (kRr cd) w w' ∧ rS w' cd ∧ w' 1 11 = o ∧ gS w w' cd (-1) 0 0 0 0) := by
  obtain ⟨d, rfl⟩ : ∃ e, d = e + 1 := ⟨d - 1, by omega⟩
  obtain ⟨hT, hH, hc, hcd, hk⟩ := hS
  have hcd2 := hcd; unfold isCd at hcd2
  have hcd3 : 2 ≤ cd ∧ cd ≤ 145 := by omega
  have pL := e_Has.get hT (c := cd) (k := 0) (lo := 0) (hi := 4000) (kD_0 hcd) (by decide)
  have p1 := e_Has.get hH (c := 1) (k := 1) (lo := (-2147483648)) (hi := 2147483647) rfl (by decide)
  have p5 := e_Has.get hH (c := 1) (k := 5) (lo := 0) (hi := 53) rfl (by decide)
  have p6 := e_Has.get hH (c := 1) (k := 6) (lo := 0) (hi := 4000) rfl (by decide)
  have p9 := e_Has.get hH (c := 1) (k := 9) (lo := (-2147483648)) (hi := 2147483647) rfl (by decide)
  have p7 := e_Has.get hH (c := 1) (k := 7) (lo := 0) (hi := 4000) rfl (by decide)
  have p12 := e_Has.get hH (c := 1) (k := 12) (lo := 0) (hi := 30) rfl (by decide)
  have p13 := e_Has.get hH (c := 1) (k := 13) (lo := (-1)) (hi := 4000) rfl (by decide)
  have p14 := e_Has.get hH (c := 1) (k := 14) (lo := 0) (hi := 500) rfl (by decide)
  have x0 : gS w w cd 0 0 0 0 0 := gS.refl pL.1
  refine e_Ok.run (t' := (1, [(0, (1, 1))], [(1, 1)], w)) 1 rfl ?_
  refine e_Ok.callV rfl (by omega) rfl rfl rfl rfl (c_123 (by omega) hT hH hk.1.2) (fun r1 w2 h3 => ?_)
  obtain ⟨rfl, q4f, q4T, q4H, q4k, q4x, q44⟩ := h3
  have f5 : e_fr (kRr cd) w w2 := e_fr.trans (e_fr.refl w) (e_fr.mono q4f (fun c k q => by unfold kRa at q; unfold kRr; omega))
  have s6 : gS w w2 cd (-2) 0 0 0 0 := gS.adv hcd ((e_Has.get hT (c := cd) (k := 0) (lo := 0) (hi := 4000) (kD_0 hcd) (by decide)).1) (by omega) q4f q4x (hk.a2 (by omega))
  have x7 : gS w w2 cd (-2) 0 0 0 0 := gS.trans x0 s6 (by omega)
  show e_Ok 20 elay kcode eI (d + 1) 142 (4, [(0, (1, 1))], [], w2) _
  refine e_Ok.run (t' := (5, [(0, (1, 1))], [(1, 1)], w2)) 1 rfl ?_
  have h8 := (e_Has.get q4H (c := 1) (k := 5) (lo := 0) (hi := 53) rfl (by decide))
  refine e_Ok.getf (z := w2 1 5) rfl (el_o rfl) rfl rfl rfl (by omega) ?_
  refine e_Ok.run (t' := (9, [(0, (1, 1))], [(0, 1), (0, w2 1 5)], w2)) 1 rfl ?_
  refine e_Ok.if2 rfl (fun h9 => ?_) (fun h9 => ?_)
  · replace h9 : (w2 1 5 : Int) ≠ 1 := h9
    refine e_Ok.run (t' := (92, [(0, (1, 1))], [(0, 1), (1, 1)], w2)) 2 rfl ?_
    refine e_Ok.callV rfl (by omega) rfl rfl rfl rfl (c_129 (by omega) q4T q4H q4k (by omega)) (fun r10 w11 h12 => ?_)
    obtain ⟨rfl, q13f, q13T, q13H, q13k, q13x⟩ := h12
    have f14 : e_fr (kRr cd) w w11 := e_fr.trans f5 (e_fr.mono q13f (fun c k q => by unfold kRk at q; unfold kRr; omega))
    have s15 : gS w2 w11 cd (-1) 0 0 0 0 := gS.acc hcd ((e_Has.get q4T (c := cd) (k := 0) (lo := 0) (hi := 4000) (kD_0 hcd) (by decide)).1) (by omega) q13f q13x (fun g => q4k.a1 (by omega))
    have x16 : gS w w11 cd (-3) 0 0 0 0 := gS.trans x7 s15 (by omega)
    show e_Ok 20 elay kcode eI (d + 1) 142 (95, [(0, (1, 1))], [], w11) _
    refine e_Ok.run (t' := (98, [(0, (1, 1))], [(0, 20), (1, 1)], w11)) 2 rfl ?_
    refine e_Ok.callV rfl (by omega) rfl rfl rfl rfl (c_129 (by omega) q13T q13H q13k (by omega)) (fun r17 w18 h19 => ?_)
    obtain ⟨rfl, q20f, q20T, q20H, q20k, q20x⟩ := h19
    have f21 : e_fr (kRr cd) w w18 := e_fr.trans f14 (e_fr.mono q20f (fun c k q => by unfold kRk at q; unfold kRr; omega))
    have s22 : gS w11 w18 cd (-1) 0 0 0 0 := gS.acc hcd ((e_Has.get q13T (c := cd) (k := 0) (lo := 0) (hi := 4000) (kD_0 hcd) (by decide)).1) (by omega) q20f q20x (fun g => q13k.a1 (by omega))
    have x23 : gS w w18 cd (-4) 0 0 0 0 := gS.trans x16 s22 (by omega)
    show e_Ok 20 elay kcode eI (d + 1) 142 (101, [(0, (1, 1))], [], w18) _
    refine e_Ok.run (t' := (103, [(0, (1, 1))], [(0, 0), (1, 1)], w18)) 2 rfl ?_
    refine e_Ok.putf rfl (el_o rfl) rfl rfl ?_
    generalize hw24 : e_up w18 1 12 0 = w24
    have f25 : e_fr (kRr cd) w w24 := e_fr.up f21 hw24 (by unfold kRr; omega)
    have hT26 : e_Has kTy w24 := e_Has.ups q20T hw24 rfl
    have hH27 : e_Has kRy w24 := e_Has.upr q20H hw24 rfl (by omega)
    have t28 : tkR w24 := q20k.eq (fun k g => by rw [← hw24]; exact e_up_ne _ _ (by omega))
    have g29 : e_fr (fun c k => c = 1 ∧ 11 ≤ k ∧ k ≤ 13) w18 w24 := fun c k g => by have g2 : ¬ (c = 1 ∧ 11 ≤ k ∧ k ≤ 13) := g; rw [← hw24]; exact e_up_ne _ _ (by omega)
    have s30 : gS w18 w24 cd 0 0 0 0 0 := gS.wr hcd ((e_Has.get q20T (c := cd) (k := 0) (lo := 0) (hi := 4000) (kD_0 hcd) (by decide)).1) (by omega) g29
    have x31 : gS w w24 cd (-4) 0 0 0 0 := gS.trans x23 s30 (by omega)
    refine e_Ok.run (t' := (108, [(0, (1, 1))], [(0, (-1)), (1, 1)], w24)) 2 rfl ?_
    refine e_Ok.putf rfl (el_o rfl) rfl rfl ?_
    generalize hw32 : e_up w24 1 13 (-1) = w32
    have f33 : e_fr (kRr cd) w w32 := e_fr.up f25 hw32 (by unfold kRr; omega)
    have hT34 : e_Has kTy w32 := e_Has.ups hT26 hw32 rfl
    have hH35 : e_Has kRy w32 := e_Has.upr hH27 hw32 rfl (by omega)
    have t36 : tkR w32 := t28.eq (fun k g => by rw [← hw32]; exact e_up_ne _ _ (by omega))
    have g37 : e_fr (fun c k => c = 1 ∧ 11 ≤ k ∧ k ≤ 13) w24 w32 := fun c k g => by have g2 : ¬ (c = 1 ∧ 11 ≤ k ∧ k ≤ 13) := g; rw [← hw32]; exact e_up_ne _ _ (by omega)
    have s38 : gS w24 w32 cd 0 0 0 0 0 := gS.wr hcd ((e_Has.get hT26 (c := cd) (k := 0) (lo := 0) (hi := 4000) (kD_0 hcd) (by decide)).1) (by omega) g37
    have x40 : gS w w32 cd (-4) 0 0 0 0 := gS.trans x31 s38 (by omega)
    refine e_Ok.run (t' := (112, [(0, (1, 1))], [(1, 1)], w32)) 1 rfl ?_
    refine e_Ok.callV rfl (by omega) rfl rfl rfl rfl (g_blk (o := o) (by omega) (by omega) w32 cd 0 (-1) ⟨hT34, hH35, (by rw [← hw32]; exact (e_up_ne _ _ (Or.inr (by omega))).trans (by rw [← hw24]; exact (e_up_ne _ _ (Or.inr (by omega))).trans ((q20f 1 3 (by unfold kRk; omega)).trans ((q13f 1 3 (by unfold kRk; omega)).trans ((q4f 1 3 (by unfold kRa; omega)).trans hc))))), hcd, t36⟩ (by rw [← hw32]; exact (e_up_ne _ _ (Or.inr (by omega))).trans (by rw [← hw24]; exact (e_up_ne _ _ (Or.inr (by omega))).trans ((q20f 1 11 (by unfold kRk; omega)).trans ((q13f 1 11 (by unfold kRk; omega)).trans ((q4f 1 11 (by unfold kRa; omega)).trans ho))))) (by rw [← hw32]; exact (e_up_ne _ _ (Or.inr (by omega))).trans (by rw [← hw24]; exact e_up_eq _ _ _ _)) (by omega) (by rw [← hw32]; exact e_up_eq _ _ _ _) (Or.inl rfl) trivial) (fun r41 w42 h43 => ?_)
    obtain ⟨rfl, q44f, ⟨q44T, q44H, q44c, -, q44k⟩, ⟨q44o, q44t, q44l⟩, q44x⟩ := h43
    have f45 : e_fr (kRr cd) w w42 := e_fr.trans f33 (e_fr.mono q44f (fun c k q => by unfold kRt at q; unfold kRr; omega))
    have s46 : gS w32 w42 cd 0 0 0 0 0 := q44x
    have x47 : gS w w42 cd (-4) 0 0 0 0 := gS.trans x40 s46 (by omega)
    show e_Ok 20 elay kcode eI (d + 1) 142 (115, [(0, (1, 1))], [], w42) _
    refine e_Ok.run (t' := (118, [(0, (1, 1))], [(0, 23), (1, 1)], w42)) 2 rfl ?_
    refine e_Ok.callV rfl (by omega) rfl rfl rfl rfl (c_129 (by omega) q44T q44H q44k (by omega)) (fun r48 w49 h50 => ?_)
    obtain ⟨rfl, q51f, q51T, q51H, q51k, q51x⟩ := h50
    have f52 : e_fr (kRr cd) w w49 := e_fr.trans f45 (e_fr.mono q51f (fun c k q => by unfold kRk at q; unfold kRr; omega))
    have s53 : gS w42 w49 cd (-3) 0 0 0 0 := gS.acc hcd ((e_Has.get q44T (c := cd) (k := 0) (lo := 0) (hi := 4000) (kD_0 hcd) (by decide)).1) (by omega) q51f q51x (fun g => q44k.a3 (by omega))
    have x54 : gS w w49 cd (-7) 0 0 0 0 := gS.trans x47 s53 (by omega)
    show e_Ok 20 elay kcode eI (d + 1) 142 (121, [(0, (1, 1))], [], w49) _
    refine e_Ok.run (t' := (122, [(0, (1, 1))], [(1, 1)], w49)) 1 rfl ?_
    refine e_Ok.getr (z := cd) rfl (el_o rfl) rfl rfl ((q51f 1 3 (by unfold kRk; omega)).trans ((q44f 1 3 (by unfold kRt; omega)).trans (by rw [← hw32]; exact (e_up_ne _ _ (Or.inr (by omega))).trans (by rw [← hw24]; exact (e_up_ne _ _ (Or.inr (by omega))).trans ((q20f 1 3 (by unfold kRk; omega)).trans ((q13f 1 3 (by unfold kRk; omega)).trans ((q4f 1 3 (by unfold kRa; omega)).trans hc))))))) (by omega) ?_
    refine e_Ok.run (t' := (128, [(0, (1, 1))], [(0, 0), (0, 43), (1, cd)], w49)) 2 rfl ?_
    refine e_Ok.callV rfl (by omega) rfl (lD0 hcd) rfl rfl (c_21 q51T hcd (by omega) (by omega)) (fun r55 w56 h57 => ?_)
    obtain ⟨z59, rfl, q58f, q58T, q58x⟩ := h57
    have q58H : e_Has kRy w56 := H_fr q58f (fun c k g => by unfold kEm at g; omega) q51H
    have q58k : tkR w56 := (q51k.fr q58f (fun k g => by unfold kEm; omega))
    have q58z : 0 ≤ z59 ∧ z59 ≤ 4000 := by have g := e_Has.get q51T (c := cd) (k := 0) (lo := 0) (hi := 4000) (kD_0 hcd) (by decide); unfold emQ at q58x; omega
    have f60 : e_fr (kRr cd) w w56 := e_fr.trans f52 (e_fr.mono q58f (fun c k q => by unfold kEm at q; unfold kRr; omega))
    have s61 : gS w49 w56 cd 1 0 0 0 0 := gS.big hcd ((e_Has.get q51T (c := cd) (k := 0) (lo := 0) (hi := 4000) (kD_0 hcd) (by decide)).1) (by omega) q58f q58x (by omega) (by omega) (fun g => by omega) (fun g => by omega)
    have x62 : gS w w56 cd (-6) 0 0 0 0 := gS.trans x54 s61 (by omega)
    show e_Ok 20 elay kcode eI (d + 1) 142 (131, [(0, (1, 1))], [(0, z59)], w56) _
    refine e_Ok.run (t' := (132, [(0, (1, 1))], [], w56)) 1 rfl ?_
    refine e_Ok.rets rfl rfl ?_
    have yo : w56 1 11 = o := ((q58f 1 11 (by unfold kEm; omega)).trans ((q51f 1 11 (by unfold kRk; omega)).trans (q44o.trans (by rw [← hw32]; exact (e_up_ne _ _ (Or.inr (by omega))).trans (by rw [← hw24]; exact (e_up_ne _ _ (Or.inr (by omega))).trans ((q20f 1 11 (by unfold kRk; omega)).trans ((q13f 1 11 (by unfold kRk; omega)).trans ((q4f 1 11 (by unfold kRa; omega)).trans ho))))))))
    exact ⟨rfl, f60, ⟨q58T, q58H, ((q58f 1 3 (by unfold kEm; omega)).trans ((q51f 1 3 (by unfold kRk; omega)).trans ((q44f 1 3 (by unfold kRt; omega)).trans (by rw [← hw32]; exact (e_up_ne _ _ (Or.inr (by omega))).trans (by rw [← hw24]; exact (e_up_ne _ _ (Or.inr (by omega))).trans ((q20f 1 3 (by unfold kRk; omega)).trans ((q13f 1 3 (by unfold kRk; omega)).trans ((q4f 1 3 (by unfold kRa; omega)).trans hc)))))))), hcd, q58k⟩, yo, x62.le (by omega)⟩
  · replace h9 : (w2 1 5 : Int) = 1 := by have q : ¬ ((w2 1 5 : Int) ≠ 1) := h9; omega
    refine e_Ok.run (t' := (13, [(0, (1, 1))], [(1, 1)], w2)) 1 rfl ?_
    refine e_Ok.callV rfl (by omega) rfl rfl rfl rfl (c_139 (by omega) q4T q4H q4k ((q4f 1 3 (by unfold kRa; omega)).trans hc) hcd) (fun r63 w64 h65 => ?_)
    obtain ⟨rfl, q66f, q66T, q66H, q66k, q66x⟩ := h65
    have f68 : e_fr (kRr cd) w w64 := e_fr.trans f5 (e_fr.mono q66f (fun c k q => by unfold kRc at q; unfold kRr; omega))
    have s69 : gS w2 w64 cd 0 0 0 0 0 := gS.cmp hcd ((e_Has.get q4T (c := cd) (k := 0) (lo := 0) (hi := 4000) (kD_0 hcd) (by decide)).1) (by omega) q66f q66x
    have x70 : gS w w64 cd (-2) 0 0 0 0 := gS.trans x7 s69 (by omega)
    show e_Ok 20 elay kcode eI (d + 1) 142 (16, [(0, (1, 1))], [], w64) _
    refine e_Ok.run (t' := (17, [(0, (1, 1))], [(1, 1)], w64)) 1 rfl ?_
    have h71 := (e_Has.get hH (c := 1) (k := 14) (lo := 0) (hi := 500) rfl (by decide))
    refine e_Ok.getf (z := w 1 14) rfl (el_o rfl) rfl rfl ((q66f 1 14 (by unfold kRc; omega)).trans ((q4f 1 14 (by unfold kRa; omega)).trans rfl)) (by omega) ?_
    refine e_Ok.run (t' := (22, [(0, (1, 1))], [(0, 32), (0, w 1 14)], w64)) 1 rfl ?_
    refine e_Ok.if2 rfl (fun h72 => ?_) (fun h72 => ?_)
    · replace h72 : (w 1 14 : Int) ≥ 32 := h72
      refine e_Ok.run (t' := (51, [(0, (1, 1))], [(1, 1), (0, 7), (1, 1)], w64)) 3 rfl ?_
      have h73 := (e_Has.get q4H (c := 1) (k := 6) (lo := 0) (hi := 4000) rfl (by decide))
      refine e_Ok.getf (z := w2 1 6) rfl (el_o rfl) rfl rfl ((q66f 1 6 (by unfold kRc; omega)).trans rfl) (by omega) ?_
      refine e_Ok.callV rfl (by omega) rfl rfl rfl rfl (c_133 q66T q66H q66k (by omega) (by omega)) (fun r74 w75 h76 => ?_)
      obtain ⟨rfl, q77f, q77T, q77H, q77k, q77n⟩ := h76
      have f78 : e_fr (kRr cd) w w75 := e_fr.trans f68 (e_fr.mono q77f (fun c k q => by unfold kRc at q; unfold kRr; omega))
      have s79 : gS w64 w75 cd 0 0 0 0 0 := gS.dead q77n
      have x80 : gS w w75 cd (-2) 0 0 0 0 := gS.trans x70 s79 (by omega)
      show e_Ok 20 elay kcode eI (d + 1) 142 (57, [(0, (1, 1))], [], w75) _
      refine e_Ok.run (t' := (58, [(0, (1, 1))], [(1, 1)], w75)) 1 rfl ?_
      refine e_Ok.getf (z := w 1 14) rfl (el_o rfl) rfl rfl ((q77f 1 14 (by unfold kRc; omega)).trans ((q66f 1 14 (by unfold kRc; omega)).trans ((q4f 1 14 (by unfold kRa; omega)).trans rfl))) (by omega) ?_
      refine e_Ok.run (t' := (64, [(0, (1, 1))], [(0, 500), (0, w 1 14)], w75)) 1 rfl ?_
      refine e_Ok.if2 rfl (fun h81 => ?_) (fun h81 => ?_)
      · replace h81 : (w 1 14 : Int) ≥ 500 := h81
        refine e_Ok.run (t' := (92, [(0, (1, 1))], [(0, 1), (1, 1)], w75)) 2 rfl ?_
        refine e_Ok.callV rfl (by omega) rfl rfl rfl rfl (c_129 (by omega) q77T q77H q77k (by omega)) (fun r82 w83 h84 => ?_)
        obtain ⟨rfl, q85f, q85T, q85H, q85k, q85x⟩ := h84
        have f86 : e_fr (kRr cd) w w83 := e_fr.trans f78 (e_fr.mono q85f (fun c k q => by unfold kRk at q; unfold kRr; omega))
        have s87 : gS w75 w83 cd (-1) 0 0 0 0 := gS.acc hcd ((e_Has.get q77T (c := cd) (k := 0) (lo := 0) (hi := 4000) (kD_0 hcd) (by decide)).1) (by omega) q85f q85x (fun g => q77k.a1 (by omega))
        have x88 : gS w w83 cd (-3) 0 0 0 0 := gS.trans x80 s87 (by omega)
        have d89 : ¬ nF w83 := fun n => q77n (s87 n).1
        show e_Ok 20 elay kcode eI (d + 1) 142 (95, [(0, (1, 1))], [], w83) _
        refine e_Ok.run (t' := (98, [(0, (1, 1))], [(0, 20), (1, 1)], w83)) 2 rfl ?_
        refine e_Ok.callV rfl (by omega) rfl rfl rfl rfl (c_129 (by omega) q85T q85H q85k (by omega)) (fun r90 w91 h92 => ?_)
        obtain ⟨rfl, q93f, q93T, q93H, q93k, q93x⟩ := h92
        have f94 : e_fr (kRr cd) w w91 := e_fr.trans f86 (e_fr.mono q93f (fun c k q => by unfold kRk at q; unfold kRr; omega))
        have s95 : gS w83 w91 cd (-1) 0 0 0 0 := gS.acc hcd ((e_Has.get q85T (c := cd) (k := 0) (lo := 0) (hi := 4000) (kD_0 hcd) (by decide)).1) (by omega) q93f q93x (fun g => q85k.a1 (by omega))
        have x101 : gS w w91 cd (-4) 0 0 0 0 := gS.trans x88 s95 (by omega)
        have d103 : ¬ nF w91 := fun n => d89 (s95 n).1
        show e_Ok 20 elay kcode eI (d + 1) 142 (101, [(0, (1, 1))], [], w91) _
        refine e_Ok.run (t' := (103, [(0, (1, 1))], [(0, 0), (1, 1)], w91)) 2 rfl ?_
        refine e_Ok.putf rfl (el_o rfl) rfl rfl ?_
        generalize hw104 : e_up w91 1 12 0 = w104
        have f105 : e_fr (kRr cd) w w104 := e_fr.up f94 hw104 (by unfold kRr; omega)
        have hT106 : e_Has kTy w104 := e_Has.ups q93T hw104 rfl
        have hH107 : e_Has kRy w104 := e_Has.upr q93H hw104 rfl (by omega)
        have t108 : tkR w104 := q93k.eq (fun k g => by rw [← hw104]; exact e_up_ne _ _ (by omega))
        have g109 : e_fr (fun c k => c = 1 ∧ 11 ≤ k ∧ k ≤ 13) w91 w104 := fun c k g => by have g2 : ¬ (c = 1 ∧ 11 ≤ k ∧ k ≤ 13) := g; rw [← hw104]; exact e_up_ne _ _ (by omega)
        have s110 : gS w91 w104 cd 0 0 0 0 0 := gS.wr hcd ((e_Has.get q93T (c := cd) (k := 0) (lo := 0) (hi := 4000) (kD_0 hcd) (by decide)).1) (by omega) g109
        have x111 : gS w w104 cd (-4) 0 0 0 0 := gS.trans x101 s110 (by omega)
        have d112 : ¬ nF w104 := fun n => d103 (s110 n).1
        refine e_Ok.run (t' := (108, [(0, (1, 1))], [(0, (-1)), (1, 1)], w104)) 2 rfl ?_
        refine e_Ok.putf rfl (el_o rfl) rfl rfl ?_
        generalize hw113 : e_up w104 1 13 (-1) = w113
        have f114 : e_fr (kRr cd) w w113 := e_fr.up f105 hw113 (by unfold kRr; omega)
        have hT115 : e_Has kTy w113 := e_Has.ups hT106 hw113 rfl
        have hH116 : e_Has kRy w113 := e_Has.upr hH107 hw113 rfl (by omega)
        have t117 : tkR w113 := t108.eq (fun k g => by rw [← hw113]; exact e_up_ne _ _ (by omega))
        have g118 : e_fr (fun c k => c = 1 ∧ 11 ≤ k ∧ k ≤ 13) w104 w113 := fun c k g => by have g2 : ¬ (c = 1 ∧ 11 ≤ k ∧ k ≤ 13) := g; rw [← hw113]; exact e_up_ne _ _ (by omega)
        have s119 : gS w104 w113 cd 0 0 0 0 0 := gS.wr hcd ((e_Has.get hT106 (c := cd) (k := 0) (lo := 0) (hi := 4000) (kD_0 hcd) (by decide)).1) (by omega) g118
        have x120 : gS w w113 cd (-4) 0 0 0 0 := gS.trans x111 s119 (by omega)
        have d121 : ¬ nF w113 := fun n => d112 (s119 n).1
        refine e_Ok.run (t' := (112, [(0, (1, 1))], [(1, 1)], w113)) 1 rfl ?_
        refine e_Ok.callV rfl (by omega) rfl rfl rfl rfl (g_blk (o := o) (by omega) (by omega) w113 cd 0 (-1) ⟨hT115, hH116, (by rw [← hw113]; exact (e_up_ne _ _ (Or.inr (by omega))).trans (by rw [← hw104]; exact (e_up_ne _ _ (Or.inr (by omega))).trans ((q93f 1 3 (by unfold kRk; omega)).trans ((q85f 1 3 (by unfold kRk; omega)).trans ((q77f 1 3 (by unfold kRc; omega)).trans ((q66f 1 3 (by unfold kRc; omega)).trans ((q4f 1 3 (by unfold kRa; omega)).trans hc))))))), hcd, t117⟩ (by rw [← hw113]; exact (e_up_ne _ _ (Or.inr (by omega))).trans (by rw [← hw104]; exact (e_up_ne _ _ (Or.inr (by omega))).trans ((q93f 1 11 (by unfold kRk; omega)).trans ((q85f 1 11 (by unfold kRk; omega)).trans ((q77f 1 11 (by unfold kRc; omega)).trans ((q66f 1 11 (by unfold kRc; omega)).trans ((q4f 1 11 (by unfold kRa; omega)).trans ho))))))) (by rw [← hw113]; exact (e_up_ne _ _ (Or.inr (by omega))).trans (by rw [← hw104]; exact e_up_eq _ _ _ _)) (by omega) (by rw [← hw113]; exact e_up_eq _ _ _ _) (Or.inl rfl) trivial) (fun r122 w123 h124 => ?_)
        obtain ⟨rfl, q125f, ⟨q125T, q125H, q125c, -, q125k⟩, ⟨q125o, q125t, q125l⟩, q125x⟩ := h124
        have f126 : e_fr (kRr cd) w w123 := e_fr.trans f114 (e_fr.mono q125f (fun c k q => by unfold kRt at q; unfold kRr; omega))
        have s127 : gS w113 w123 cd 0 0 0 0 0 := q125x
        have x128 : gS w w123 cd (-4) 0 0 0 0 := gS.trans x120 s127 (by omega)
        have d129 : ¬ nF w123 := fun n => d121 (s127 n).1
        show e_Ok 20 elay kcode eI (d + 1) 142 (115, [(0, (1, 1))], [], w123) _
        refine e_Ok.run (t' := (118, [(0, (1, 1))], [(0, 23), (1, 1)], w123)) 2 rfl ?_
        refine e_Ok.callV rfl (by omega) rfl rfl rfl rfl (c_129 (by omega) q125T q125H q125k (by omega)) (fun r130 w131 h132 => ?_)
        obtain ⟨rfl, q133f, q133T, q133H, q133k, q133x⟩ := h132
        have f134 : e_fr (kRr cd) w w131 := e_fr.trans f126 (e_fr.mono q133f (fun c k q => by unfold kRk at q; unfold kRr; omega))
        have s135 : gS w123 w131 cd (-3) 0 0 0 0 := gS.acc hcd ((e_Has.get q125T (c := cd) (k := 0) (lo := 0) (hi := 4000) (kD_0 hcd) (by decide)).1) (by omega) q133f q133x (fun g => q125k.a3 (by omega))
        have x136 : gS w w131 cd (-7) 0 0 0 0 := gS.trans x128 s135 (by omega)
        have d137 : ¬ nF w131 := fun n => d129 (s135 n).1
        show e_Ok 20 elay kcode eI (d + 1) 142 (121, [(0, (1, 1))], [], w131) _
        refine e_Ok.run (t' := (122, [(0, (1, 1))], [(1, 1)], w131)) 1 rfl ?_
        refine e_Ok.getr (z := cd) rfl (el_o rfl) rfl rfl ((q133f 1 3 (by unfold kRk; omega)).trans ((q125f 1 3 (by unfold kRt; omega)).trans (by rw [← hw113]; exact (e_up_ne _ _ (Or.inr (by omega))).trans (by rw [← hw104]; exact (e_up_ne _ _ (Or.inr (by omega))).trans ((q93f 1 3 (by unfold kRk; omega)).trans ((q85f 1 3 (by unfold kRk; omega)).trans ((q77f 1 3 (by unfold kRc; omega)).trans ((q66f 1 3 (by unfold kRc; omega)).trans ((q4f 1 3 (by unfold kRa; omega)).trans hc))))))))) (by omega) ?_
        refine e_Ok.run (t' := (128, [(0, (1, 1))], [(0, 0), (0, 43), (1, cd)], w131)) 2 rfl ?_
        refine e_Ok.callV rfl (by omega) rfl (lD0 hcd) rfl rfl (c_21 q133T hcd (by omega) (by omega)) (fun r138 w139 h140 => ?_)
        obtain ⟨z142, rfl, q141f, q141T, q141x⟩ := h140
        have q141H : e_Has kRy w139 := H_fr q141f (fun c k g => by unfold kEm at g; omega) q133H
        have q141k : tkR w139 := (q133k.fr q141f (fun k g => by unfold kEm; omega))
        have q141z : 0 ≤ z142 ∧ z142 ≤ 4000 := by have g := e_Has.get q133T (c := cd) (k := 0) (lo := 0) (hi := 4000) (kD_0 hcd) (by decide); unfold emQ at q141x; omega
        have f143 : e_fr (kRr cd) w w139 := e_fr.trans f134 (e_fr.mono q141f (fun c k q => by unfold kEm at q; unfold kRr; omega))
        have s144 : gS w131 w139 cd 1 0 0 0 0 := gS.dead (fun n => d137 ⟨by rw [← (fr_e q141f hcd).1]; exact n.1, by rw [← (fr_e q141f hcd).2.1]; exact n.2⟩)
        have x145 : gS w w139 cd (-6) 0 0 0 0 := gS.trans x136 s144 (by omega)
        have d146 : ¬ nF w139 := fun n => d137 (s144 n).1
        show e_Ok 20 elay kcode eI (d + 1) 142 (131, [(0, (1, 1))], [(0, z142)], w139) _
        refine e_Ok.run (t' := (132, [(0, (1, 1))], [], w139)) 1 rfl ?_
        refine e_Ok.rets rfl rfl ?_
        have yo : w139 1 11 = o := ((q141f 1 11 (by unfold kEm; omega)).trans ((q133f 1 11 (by unfold kRk; omega)).trans (q125o.trans (by rw [← hw113]; exact (e_up_ne _ _ (Or.inr (by omega))).trans (by rw [← hw104]; exact (e_up_ne _ _ (Or.inr (by omega))).trans ((q93f 1 11 (by unfold kRk; omega)).trans ((q85f 1 11 (by unfold kRk; omega)).trans ((q77f 1 11 (by unfold kRc; omega)).trans ((q66f 1 11 (by unfold kRc; omega)).trans ((q4f 1 11 (by unfold kRa; omega)).trans ho))))))))))
        exact ⟨rfl, f143, ⟨q141T, q141H, ((q141f 1 3 (by unfold kEm; omega)).trans ((q133f 1 3 (by unfold kRk; omega)).trans ((q125f 1 3 (by unfold kRt; omega)).trans (by rw [← hw113]; exact (e_up_ne _ _ (Or.inr (by omega))).trans (by rw [← hw104]; exact (e_up_ne _ _ (Or.inr (by omega))).trans ((q93f 1 3 (by unfold kRk; omega)).trans ((q85f 1 3 (by unfold kRk; omega)).trans ((q77f 1 3 (by unfold kRc; omega)).trans ((q66f 1 3 (by unfold kRc; omega)).trans ((q4f 1 3 (by unfold kRa; omega)).trans hc)))))))))), hcd, q141k⟩, yo, gS.dead d146⟩
      · replace h81 : (w 1 14 : Int) < 500 := by have q : ¬ ((w 1 14 : Int) ≥ 500) := h81; omega
        refine e_Ok.run (t' := (68, [(0, (1, 1))], [(1, 1)], w75)) 1 rfl ?_
        refine e_Ok.getr (z := 7) rfl (el_o rfl) rfl rfl ((q77f 1 16 (by unfold kRc; omega)).trans ((q66f 1 16 (by unfold kRc; omega)).trans ((q4f 1 16 (by unfold kRa; omega)).trans (Eq.trans (e_Has.eq hT rfl) (by omega))))) (by omega) ?_
        refine e_Ok.run (t' := (72, [(0, (1, 1))], [(1, 1), (1, 7)], w75)) 1 rfl ?_
        refine e_Ok.getf (z := w 1 14) rfl (el_o rfl) rfl rfl ((q77f 1 14 (by unfold kRc; omega)).trans ((q66f 1 14 (by unfold kRc; omega)).trans ((q4f 1 14 (by unfold kRa; omega)).trans rfl))) (by omega) ?_
        refine e_Ok.run (t' := (76, [(0, (1, 1))], [(1, 1), (0, w 1 14), (1, 7)], w75)) 1 rfl ?_
        refine e_Ok.getf (z := w2 1 6) rfl (el_o rfl) rfl rfl ((q77f 1 6 (by unfold kRc; omega)).trans ((q66f 1 6 (by unfold kRc; omega)).trans rfl)) (by omega) ?_
        refine e_Ok.ast rfl (el_o rfl) rfl rfl (by omega) ?_
        generalize hw147 : e_up w75 7 (w 1 14) (w2 1 6) = w147
        have f148 : e_fr (kRr cd) w w147 := e_fr.up f78 hw147 (by unfold kRr; omega)
        have hT149 : e_Has kTy w147 := e_Has.ups q77T hw147 rfl
        have hH150 : e_Has kRy w147 := e_Has.upr q77H hw147 rfl (by omega)
        have t151 : tkR w147 := q77k.eq (fun k g => by rw [← hw147]; exact e_up_ne _ _ (by omega))
        have d152 : ¬ nF w147 := fun n => q77n ⟨by rw [show w75 1 1 = w147 1 1 from by rw [← hw147]; exact (e_up_ne _ _ (by omega)).symm]; exact n.1, by rw [show w75 1 9 = w147 1 9 from by rw [← hw147]; exact (e_up_ne _ _ (by omega)).symm]; exact n.2⟩
        have s153 : gS w75 w147 cd 0 0 0 0 0 := gS.dead d152
        have x154 : gS w w147 cd (-2) 0 0 0 0 := gS.trans x80 s153 (by omega)
        have d155 : ¬ nF w147 := fun n => q77n (s153 n).1
        refine e_Ok.run (t' := (82, [(0, (1, 1))], [(1, 1), (1, 1)], w147)) 2 rfl ?_
        refine e_Ok.getf (z := w 1 14) rfl (el_o rfl) rfl rfl (by rw [← hw147]; exact (e_up_ne _ _ (Or.inl (by omega))).trans ((q77f 1 14 (by unfold kRc; omega)).trans ((q66f 1 14 (by unfold kRc; omega)).trans ((q4f 1 14 (by unfold kRa; omega)).trans rfl)))) (by omega) ?_
        refine e_Ok.run (t' := (86, [(0, (1, 1))], [(0, 1), (0, w 1 14), (1, 1)], w147)) 1 rfl ?_
        refine e_Ok.add (z := w 1 14 + 1) rfl (by omega) (by omega) ?_
        refine e_Ok.putf rfl (el_o rfl) rfl rfl ?_
        generalize hw156 : e_up w147 1 14 (w 1 14 + 1) = w156
        have f157 : e_fr (kRr cd) w w156 := e_fr.up f148 hw156 (by unfold kRr; omega)
        have hT158 : e_Has kTy w156 := e_Has.ups hT149 hw156 rfl
        have hH159 : e_Has kRy w156 := e_Has.upr hH150 hw156 rfl (by omega)
        have t160 : tkR w156 := t151.eq (fun k g => by rw [← hw156]; exact e_up_ne _ _ (by omega))
        have d161 : ¬ nF w156 := fun n => d152 ⟨by rw [show w147 1 1 = w156 1 1 from by rw [← hw156]; exact (e_up_ne _ _ (by omega)).symm]; exact n.1, by rw [show w147 1 9 = w156 1 9 from by rw [← hw156]; exact (e_up_ne _ _ (by omega)).symm]; exact n.2⟩
        have s162 : gS w147 w156 cd 0 0 0 0 0 := gS.dead d161
        have x163 : gS w w156 cd (-2) 0 0 0 0 := gS.trans x154 s162 (by omega)
        have d164 : ¬ nF w156 := fun n => d152 (s162 n).1
        refine e_Ok.run (t' := (92, [(0, (1, 1))], [(0, 1), (1, 1)], w156)) 2 rfl ?_
        refine e_Ok.callV rfl (by omega) rfl rfl rfl rfl (c_129 (by omega) hT158 hH159 t160 (by omega)) (fun r165 w166 h167 => ?_)
        obtain ⟨rfl, q168f, q168T, q168H, q168k, q168x⟩ := h167
        have f169 : e_fr (kRr cd) w w166 := e_fr.trans f157 (e_fr.mono q168f (fun c k q => by unfold kRk at q; unfold kRr; omega))
        have s170 : gS w156 w166 cd (-1) 0 0 0 0 := gS.acc hcd ((e_Has.get hT158 (c := cd) (k := 0) (lo := 0) (hi := 4000) (kD_0 hcd) (by decide)).1) (by omega) q168f q168x (fun g => t160.a1 (by omega))
        have x171 : gS w w166 cd (-3) 0 0 0 0 := gS.trans x163 s170 (by omega)
        have d172 : ¬ nF w166 := fun n => d161 (s170 n).1
        show e_Ok 20 elay kcode eI (d + 1) 142 (95, [(0, (1, 1))], [], w166) _
        refine e_Ok.run (t' := (98, [(0, (1, 1))], [(0, 20), (1, 1)], w166)) 2 rfl ?_
        refine e_Ok.callV rfl (by omega) rfl rfl rfl rfl (c_129 (by omega) q168T q168H q168k (by omega)) (fun r173 w174 h175 => ?_)
        obtain ⟨rfl, q176f, q176T, q176H, q176k, q176x⟩ := h175
        have f177 : e_fr (kRr cd) w w174 := e_fr.trans f169 (e_fr.mono q176f (fun c k q => by unfold kRk at q; unfold kRr; omega))
        have s178 : gS w166 w174 cd (-1) 0 0 0 0 := gS.acc hcd ((e_Has.get q168T (c := cd) (k := 0) (lo := 0) (hi := 4000) (kD_0 hcd) (by decide)).1) (by omega) q176f q176x (fun g => q168k.a1 (by omega))
        have x179 : gS w w174 cd (-4) 0 0 0 0 := gS.trans x171 s178 (by omega)
        have d180 : ¬ nF w174 := fun n => d172 (s178 n).1
        show e_Ok 20 elay kcode eI (d + 1) 142 (101, [(0, (1, 1))], [], w174) _
        refine e_Ok.run (t' := (103, [(0, (1, 1))], [(0, 0), (1, 1)], w174)) 2 rfl ?_
        refine e_Ok.putf rfl (el_o rfl) rfl rfl ?_
        generalize hw181 : e_up w174 1 12 0 = w181
        have f182 : e_fr (kRr cd) w w181 := e_fr.up f177 hw181 (by unfold kRr; omega)
        have hT183 : e_Has kTy w181 := e_Has.ups q176T hw181 rfl
        have hH184 : e_Has kRy w181 := e_Has.upr q176H hw181 rfl (by omega)
        have t185 : tkR w181 := q176k.eq (fun k g => by rw [← hw181]; exact e_up_ne _ _ (by omega))
        have g186 : e_fr (fun c k => c = 1 ∧ 11 ≤ k ∧ k ≤ 13) w174 w181 := fun c k g => by have g2 : ¬ (c = 1 ∧ 11 ≤ k ∧ k ≤ 13) := g; rw [← hw181]; exact e_up_ne _ _ (by omega)
        have s187 : gS w174 w181 cd 0 0 0 0 0 := gS.wr hcd ((e_Has.get q176T (c := cd) (k := 0) (lo := 0) (hi := 4000) (kD_0 hcd) (by decide)).1) (by omega) g186
        have x188 : gS w w181 cd (-4) 0 0 0 0 := gS.trans x179 s187 (by omega)
        have d189 : ¬ nF w181 := fun n => d180 (s187 n).1
        refine e_Ok.run (t' := (108, [(0, (1, 1))], [(0, (-1)), (1, 1)], w181)) 2 rfl ?_
        refine e_Ok.putf rfl (el_o rfl) rfl rfl ?_
        generalize hw190 : e_up w181 1 13 (-1) = w190
        have f191 : e_fr (kRr cd) w w190 := e_fr.up f182 hw190 (by unfold kRr; omega)
        have hT192 : e_Has kTy w190 := e_Has.ups hT183 hw190 rfl
        have hH193 : e_Has kRy w190 := e_Has.upr hH184 hw190 rfl (by omega)
        have t194 : tkR w190 := t185.eq (fun k g => by rw [← hw190]; exact e_up_ne _ _ (by omega))
        have g195 : e_fr (fun c k => c = 1 ∧ 11 ≤ k ∧ k ≤ 13) w181 w190 := fun c k g => by have g2 : ¬ (c = 1 ∧ 11 ≤ k ∧ k ≤ 13) := g; rw [← hw190]; exact e_up_ne _ _ (by omega)
        have s196 : gS w181 w190 cd 0 0 0 0 0 := gS.wr hcd ((e_Has.get hT183 (c := cd) (k := 0) (lo := 0) (hi := 4000) (kD_0 hcd) (by decide)).1) (by omega) g195
        have x197 : gS w w190 cd (-4) 0 0 0 0 := gS.trans x188 s196 (by omega)
        have d198 : ¬ nF w190 := fun n => d189 (s196 n).1
        refine e_Ok.run (t' := (112, [(0, (1, 1))], [(1, 1)], w190)) 1 rfl ?_
        refine e_Ok.callV rfl (by omega) rfl rfl rfl rfl (g_blk (o := o) (by omega) (by omega) w190 cd 0 (-1) ⟨hT192, hH193, (by rw [← hw190]; exact (e_up_ne _ _ (Or.inr (by omega))).trans (by rw [← hw181]; exact (e_up_ne _ _ (Or.inr (by omega))).trans ((q176f 1 3 (by unfold kRk; omega)).trans ((q168f 1 3 (by unfold kRk; omega)).trans (by rw [← hw156]; exact (e_up_ne _ _ (Or.inr (by omega))).trans (by rw [← hw147]; exact (e_up_ne _ _ (Or.inl (by omega))).trans ((q77f 1 3 (by unfold kRc; omega)).trans ((q66f 1 3 (by unfold kRc; omega)).trans ((q4f 1 3 (by unfold kRa; omega)).trans hc))))))))), hcd, t194⟩ (by rw [← hw190]; exact (e_up_ne _ _ (Or.inr (by omega))).trans (by rw [← hw181]; exact (e_up_ne _ _ (Or.inr (by omega))).trans ((q176f 1 11 (by unfold kRk; omega)).trans ((q168f 1 11 (by unfold kRk; omega)).trans (by rw [← hw156]; exact (e_up_ne _ _ (Or.inr (by omega))).trans (by rw [← hw147]; exact (e_up_ne _ _ (Or.inl (by omega))).trans ((q77f 1 11 (by unfold kRc; omega)).trans ((q66f 1 11 (by unfold kRc; omega)).trans ((q4f 1 11 (by unfold kRa; omega)).trans ho))))))))) (by rw [← hw190]; exact (e_up_ne _ _ (Or.inr (by omega))).trans (by rw [← hw181]; exact e_up_eq _ _ _ _)) (by omega) (by rw [← hw190]; exact e_up_eq _ _ _ _) (Or.inl rfl) trivial) (fun r199 w200 h201 => ?_)
        obtain ⟨rfl, q202f, ⟨q202T, q202H, q202c, -, q202k⟩, ⟨q202o, q202t, q202l⟩, q202x⟩ := h201
        have f203 : e_fr (kRr cd) w w200 := e_fr.trans f191 (e_fr.mono q202f (fun c k q => by unfold kRt at q; unfold kRr; omega))
        have s204 : gS w190 w200 cd 0 0 0 0 0 := q202x
        have x205 : gS w w200 cd (-4) 0 0 0 0 := gS.trans x197 s204 (by omega)
        have d206 : ¬ nF w200 := fun n => d198 (s204 n).1
        show e_Ok 20 elay kcode eI (d + 1) 142 (115, [(0, (1, 1))], [], w200) _
        refine e_Ok.run (t' := (118, [(0, (1, 1))], [(0, 23), (1, 1)], w200)) 2 rfl ?_
        refine e_Ok.callV rfl (by omega) rfl rfl rfl rfl (c_129 (by omega) q202T q202H q202k (by omega)) (fun r207 w208 h209 => ?_)
        obtain ⟨rfl, q210f, q210T, q210H, q210k, q210x⟩ := h209
        have f211 : e_fr (kRr cd) w w208 := e_fr.trans f203 (e_fr.mono q210f (fun c k q => by unfold kRk at q; unfold kRr; omega))
        have s212 : gS w200 w208 cd (-3) 0 0 0 0 := gS.acc hcd ((e_Has.get q202T (c := cd) (k := 0) (lo := 0) (hi := 4000) (kD_0 hcd) (by decide)).1) (by omega) q210f q210x (fun g => q202k.a3 (by omega))
        have x213 : gS w w208 cd (-7) 0 0 0 0 := gS.trans x205 s212 (by omega)
        have d214 : ¬ nF w208 := fun n => d206 (s212 n).1
        show e_Ok 20 elay kcode eI (d + 1) 142 (121, [(0, (1, 1))], [], w208) _
        refine e_Ok.run (t' := (122, [(0, (1, 1))], [(1, 1)], w208)) 1 rfl ?_
        refine e_Ok.getr (z := cd) rfl (el_o rfl) rfl rfl ((q210f 1 3 (by unfold kRk; omega)).trans ((q202f 1 3 (by unfold kRt; omega)).trans (by rw [← hw190]; exact (e_up_ne _ _ (Or.inr (by omega))).trans (by rw [← hw181]; exact (e_up_ne _ _ (Or.inr (by omega))).trans ((q176f 1 3 (by unfold kRk; omega)).trans ((q168f 1 3 (by unfold kRk; omega)).trans (by rw [← hw156]; exact (e_up_ne _ _ (Or.inr (by omega))).trans (by rw [← hw147]; exact (e_up_ne _ _ (Or.inl (by omega))).trans ((q77f 1 3 (by unfold kRc; omega)).trans ((q66f 1 3 (by unfold kRc; omega)).trans ((q4f 1 3 (by unfold kRa; omega)).trans hc))))))))))) (by omega) ?_
        refine e_Ok.run (t' := (128, [(0, (1, 1))], [(0, 0), (0, 43), (1, cd)], w208)) 2 rfl ?_
        refine e_Ok.callV rfl (by omega) rfl (lD0 hcd) rfl rfl (c_21 q210T hcd (by omega) (by omega)) (fun r215 w216 h217 => ?_)
        obtain ⟨z219, rfl, q218f, q218T, q218x⟩ := h217
        have q218H : e_Has kRy w216 := H_fr q218f (fun c k g => by unfold kEm at g; omega) q210H
        have q218k : tkR w216 := (q210k.fr q218f (fun k g => by unfold kEm; omega))
        have q218z : 0 ≤ z219 ∧ z219 ≤ 4000 := by have g := e_Has.get q210T (c := cd) (k := 0) (lo := 0) (hi := 4000) (kD_0 hcd) (by decide); unfold emQ at q218x; omega
        have f220 : e_fr (kRr cd) w w216 := e_fr.trans f211 (e_fr.mono q218f (fun c k q => by unfold kEm at q; unfold kRr; omega))
        have s221 : gS w208 w216 cd 1 0 0 0 0 := gS.dead (fun n => d214 ⟨by rw [← (fr_e q218f hcd).1]; exact n.1, by rw [← (fr_e q218f hcd).2.1]; exact n.2⟩)
        have x222 : gS w w216 cd (-6) 0 0 0 0 := gS.trans x213 s221 (by omega)
        have d223 : ¬ nF w216 := fun n => d214 (s221 n).1
        show e_Ok 20 elay kcode eI (d + 1) 142 (131, [(0, (1, 1))], [(0, z219)], w216) _
        refine e_Ok.run (t' := (132, [(0, (1, 1))], [], w216)) 1 rfl ?_
        refine e_Ok.rets rfl rfl ?_
        have yo : w216 1 11 = o := ((q218f 1 11 (by unfold kEm; omega)).trans ((q210f 1 11 (by unfold kRk; omega)).trans (q202o.trans (by rw [← hw190]; exact (e_up_ne _ _ (Or.inr (by omega))).trans (by rw [← hw181]; exact (e_up_ne _ _ (Or.inr (by omega))).trans ((q176f 1 11 (by unfold kRk; omega)).trans ((q168f 1 11 (by unfold kRk; omega)).trans (by rw [← hw156]; exact (e_up_ne _ _ (Or.inr (by omega))).trans (by rw [← hw147]; exact (e_up_ne _ _ (Or.inl (by omega))).trans ((q77f 1 11 (by unfold kRc; omega)).trans ((q66f 1 11 (by unfold kRc; omega)).trans ((q4f 1 11 (by unfold kRa; omega)).trans ho))))))))))))
        exact ⟨rfl, f220, ⟨q218T, q218H, ((q218f 1 3 (by unfold kEm; omega)).trans ((q210f 1 3 (by unfold kRk; omega)).trans ((q202f 1 3 (by unfold kRt; omega)).trans (by rw [← hw190]; exact (e_up_ne _ _ (Or.inr (by omega))).trans (by rw [← hw181]; exact (e_up_ne _ _ (Or.inr (by omega))).trans ((q176f 1 3 (by unfold kRk; omega)).trans ((q168f 1 3 (by unfold kRk; omega)).trans (by rw [← hw156]; exact (e_up_ne _ _ (Or.inr (by omega))).trans (by rw [← hw147]; exact (e_up_ne _ _ (Or.inl (by omega))).trans ((q77f 1 3 (by unfold kRc; omega)).trans ((q66f 1 3 (by unfold kRc; omega)).trans ((q4f 1 3 (by unfold kRa; omega)).trans hc)))))))))))), hcd, q218k⟩, yo, gS.dead d223⟩
    · replace h72 : (w 1 14 : Int) < 32 := by have q : ¬ ((w 1 14 : Int) ≥ 32) := h72; omega
      refine e_Ok.run (t' := (26, [(0, (1, 1))], [(1, 1)], w64)) 1 rfl ?_
      refine e_Ok.getr (z := cd) rfl (el_o rfl) rfl rfl ((q66f 1 3 (by unfold kRc; omega)).trans ((q4f 1 3 (by unfold kRa; omega)).trans hc)) (by omega) ?_
      refine e_Ok.getr (z := cd + 1) rfl (lD0 hcd) rfl rfl ((q66f cd 3 (by unfold kRc; omega)).trans ((q4f cd 3 (by unfold kRa; omega)).trans (Eq.trans (e_Has.eq hT (kD_3 hcd)) (by omega)))) (by omega) ?_
      refine e_Ok.run (t' := (33, [(0, (1, 1))], [(1, 1), (1, cd + 1)], w64)) 1 rfl ?_
      refine e_Ok.getf (z := w 1 14) rfl (el_o rfl) rfl rfl ((q66f 1 14 (by unfold kRc; omega)).trans ((q4f 1 14 (by unfold kRa; omega)).trans rfl)) (by omega) ?_
      refine e_Ok.run (t' := (37, [(0, (1, 1))], [(1, 1), (0, w 1 14), (1, cd + 1)], w64)) 1 rfl ?_
      refine e_Ok.getr (z := cd) rfl (el_o rfl) rfl rfl ((q66f 1 3 (by unfold kRc; omega)).trans ((q4f 1 3 (by unfold kRa; omega)).trans hc)) (by omega) ?_
      have h224 := (e_Has.get hT (c := cd) (k := 0) (lo := 0) (hi := 4000) (kD_0 hcd) (by decide))
      refine e_Ok.getf (z := w cd 0) rfl (lD0 hcd) rfl rfl ((q66f cd 0 (by unfold kRc; omega)).trans ((q4f cd 0 (by unfold kRa; omega)).trans rfl)) (by omega) ?_
      refine e_Ok.ast rfl (lD1 (d := cd) (by omega) hcd) rfl rfl (by omega) ?_
      generalize hw225 : e_up w64 (cd + 1) (w 1 14) (w cd 0) = w225
      have f226 : e_fr (kRr cd) w w225 := e_fr.up f68 hw225 (by unfold kRr; omega)
      have hT227 : e_Has kTy w225 := e_Has.upr q66T hw225 (kD1 (d := cd) _ (by omega) hcd) (by omega)
      have hH228 : e_Has kRy w225 := e_Has.ups q66H hw225 (kRy_D (by omega) (by omega))
      have t229 : tkR w225 := q66k.eq (fun k g => by rw [← hw225]; exact e_up_ne _ _ (by omega))
      refine e_Ok.run (t' := (58, [(0, (1, 1))], [(1, 1)], w225)) 2 rfl ?_
      refine e_Ok.getf (z := w 1 14) rfl (el_o rfl) rfl rfl (by rw [← hw225]; exact (e_up_ne _ _ (Or.inl (by omega))).trans ((q66f 1 14 (by unfold kRc; omega)).trans ((q4f 1 14 (by unfold kRa; omega)).trans rfl))) (by omega) ?_
      refine e_Ok.run (t' := (64, [(0, (1, 1))], [(0, 500), (0, w 1 14)], w225)) 1 rfl ?_
      refine e_Ok.if2 rfl (fun h230 => ?_) (fun h230 => ?_)
      · replace h230 : (w 1 14 : Int) ≥ 500 := h230
        exfalso; omega
      · replace h230 : (w 1 14 : Int) < 500 := by have q : ¬ ((w 1 14 : Int) ≥ 500) := h230; omega
        refine e_Ok.run (t' := (68, [(0, (1, 1))], [(1, 1)], w225)) 1 rfl ?_
        refine e_Ok.getr (z := 7) rfl (el_o rfl) rfl rfl (by rw [← hw225]; exact (e_up_ne _ _ (Or.inl (by omega))).trans ((q66f 1 16 (by unfold kRc; omega)).trans ((q4f 1 16 (by unfold kRa; omega)).trans (Eq.trans (e_Has.eq hT rfl) (by omega))))) (by omega) ?_
        refine e_Ok.run (t' := (72, [(0, (1, 1))], [(1, 1), (1, 7)], w225)) 1 rfl ?_
        refine e_Ok.getf (z := w 1 14) rfl (el_o rfl) rfl rfl (by rw [← hw225]; exact (e_up_ne _ _ (Or.inl (by omega))).trans ((q66f 1 14 (by unfold kRc; omega)).trans ((q4f 1 14 (by unfold kRa; omega)).trans rfl))) (by omega) ?_
        refine e_Ok.run (t' := (76, [(0, (1, 1))], [(1, 1), (0, w 1 14), (1, 7)], w225)) 1 rfl ?_
        have h231 := (e_Has.get q4H (c := 1) (k := 6) (lo := 0) (hi := 4000) rfl (by decide))
        refine e_Ok.getf (z := w2 1 6) rfl (el_o rfl) rfl rfl (by rw [← hw225]; exact (e_up_ne _ _ (Or.inl (by omega))).trans ((q66f 1 6 (by unfold kRc; omega)).trans rfl)) (by omega) ?_
        refine e_Ok.ast rfl (el_o rfl) rfl rfl (by omega) ?_
        generalize hw232 : e_up w225 7 (w 1 14) (w2 1 6) = w232
        have f233 : e_fr (kRr cd) w w232 := e_fr.up f226 hw232 (by unfold kRr; omega)
        have hT234 : e_Has kTy w232 := e_Has.ups hT227 hw232 rfl
        have hH235 : e_Has kRy w232 := e_Has.upr hH228 hw232 rfl (by omega)
        have t236 : tkR w232 := t229.eq (fun k g => by rw [← hw232]; exact e_up_ne _ _ (by omega))
        refine e_Ok.run (t' := (82, [(0, (1, 1))], [(1, 1), (1, 1)], w232)) 2 rfl ?_
        refine e_Ok.getf (z := w 1 14) rfl (el_o rfl) rfl rfl (by rw [← hw232]; exact (e_up_ne _ _ (Or.inl (by omega))).trans (by rw [← hw225]; exact (e_up_ne _ _ (Or.inl (by omega))).trans ((q66f 1 14 (by unfold kRc; omega)).trans ((q4f 1 14 (by unfold kRa; omega)).trans rfl)))) (by omega) ?_
        refine e_Ok.run (t' := (86, [(0, (1, 1))], [(0, 1), (0, w 1 14), (1, 1)], w232)) 1 rfl ?_
        refine e_Ok.add (z := w 1 14 + 1) rfl (by omega) (by omega) ?_
        refine e_Ok.putf rfl (el_o rfl) rfl rfl ?_
        generalize hw237 : e_up w232 1 14 (w 1 14 + 1) = w237
        have f238 : e_fr (kRr cd) w w237 := e_fr.up f233 hw237 (by unfold kRr; omega)
        have hT239 : e_Has kTy w237 := e_Has.ups hT234 hw237 rfl
        have hH240 : e_Has kRy w237 := e_Has.upr hH235 hw237 rfl (by omega)
        have t241 : tkR w237 := t236.eq (fun k g => by rw [← hw237]; exact e_up_ne _ _ (by omega))
        have r14 : w64 1 14 = w 1 14 := ((q66f 1 14 (by unfold kRc; omega)).trans ((q4f 1 14 (by unfold kRa; omega)).trans rfl))
        have rL : w64 cd 0 = w cd 0 := ((q66f cd 0 (by unfold kRc; omega)).trans ((q4f cd 0 (by unfold kRa; omega)).trans rfl))
        have ra : w237 1 14 = w64 1 14 + 1 := by have g : w237 1 14 = w 1 14 + 1 := (by rw [← hw237]; exact e_up_eq _ _ _ _); omega
        have rb : w237 (cd + 1) (w64 1 14) = w64 cd 0 := by rw [r14, rL]; exact (by rw [← hw237]; exact (e_up_ne _ _ (Or.inl (by omega))).trans (by rw [← hw232]; exact (e_up_ne _ _ (Or.inl (by omega))).trans (by rw [← hw225]; exact e_up_eq _ _ _ _)))
        have s242 : gS w64 w237 cd 0 0 0 0 0 := gS.rt ((e_Has.get q66T (c := cd) (k := 0) (lo := 0) (hi := 4000) (kD_0 hcd) (by decide)).1) hcd (fun c k g => by have g2 : ¬ (c = cd + 1 ∨ c = 7 ∨ (c = 1 ∧ k = 14)) := g; rw [← hw237, e_up_ne _ _ (by omega), ← hw232, e_up_ne _ _ (by omega), ← hw225, e_up_ne _ _ (by omega)]) ra rb (fun k g => by rw [← hw237, e_up_ne _ _ (by omega), ← hw232, e_up_ne _ _ (by omega), ← hw225, e_up_ne _ _ (by omega)])
        have x243 : gS w w237 cd (-2) 0 0 0 0 := gS.trans x70 s242 (by omega)
        refine e_Ok.run (t' := (92, [(0, (1, 1))], [(0, 1), (1, 1)], w237)) 2 rfl ?_
        refine e_Ok.callV rfl (by omega) rfl rfl rfl rfl (c_129 (by omega) hT239 hH240 t241 (by omega)) (fun r244 w245 h246 => ?_)
        obtain ⟨rfl, q247f, q247T, q247H, q247k, q247x⟩ := h246
        have f248 : e_fr (kRr cd) w w245 := e_fr.trans f238 (e_fr.mono q247f (fun c k q => by unfold kRk at q; unfold kRr; omega))
        have s249 : gS w237 w245 cd (-1) 0 0 0 0 := gS.acc hcd ((e_Has.get hT239 (c := cd) (k := 0) (lo := 0) (hi := 4000) (kD_0 hcd) (by decide)).1) (by omega) q247f q247x (fun g => t241.a1 (by omega))
        have x250 : gS w w245 cd (-3) 0 0 0 0 := gS.trans x243 s249 (by omega)
        show e_Ok 20 elay kcode eI (d + 1) 142 (95, [(0, (1, 1))], [], w245) _
        refine e_Ok.run (t' := (98, [(0, (1, 1))], [(0, 20), (1, 1)], w245)) 2 rfl ?_
        refine e_Ok.callV rfl (by omega) rfl rfl rfl rfl (c_129 (by omega) q247T q247H q247k (by omega)) (fun r251 w252 h253 => ?_)
        obtain ⟨rfl, q254f, q254T, q254H, q254k, q254x⟩ := h253
        have f255 : e_fr (kRr cd) w w252 := e_fr.trans f248 (e_fr.mono q254f (fun c k q => by unfold kRk at q; unfold kRr; omega))
        have s256 : gS w245 w252 cd (-1) 0 0 0 0 := gS.acc hcd ((e_Has.get q247T (c := cd) (k := 0) (lo := 0) (hi := 4000) (kD_0 hcd) (by decide)).1) (by omega) q254f q254x (fun g => q247k.a1 (by omega))
        have x257 : gS w w252 cd (-4) 0 0 0 0 := gS.trans x250 s256 (by omega)
        show e_Ok 20 elay kcode eI (d + 1) 142 (101, [(0, (1, 1))], [], w252) _
        refine e_Ok.run (t' := (103, [(0, (1, 1))], [(0, 0), (1, 1)], w252)) 2 rfl ?_
        refine e_Ok.putf rfl (el_o rfl) rfl rfl ?_
        generalize hw258 : e_up w252 1 12 0 = w258
        have f259 : e_fr (kRr cd) w w258 := e_fr.up f255 hw258 (by unfold kRr; omega)
        have hT260 : e_Has kTy w258 := e_Has.ups q254T hw258 rfl
        have hH261 : e_Has kRy w258 := e_Has.upr q254H hw258 rfl (by omega)
        have t262 : tkR w258 := q254k.eq (fun k g => by rw [← hw258]; exact e_up_ne _ _ (by omega))
        have g263 : e_fr (fun c k => c = 1 ∧ 11 ≤ k ∧ k ≤ 13) w252 w258 := fun c k g => by have g2 : ¬ (c = 1 ∧ 11 ≤ k ∧ k ≤ 13) := g; rw [← hw258]; exact e_up_ne _ _ (by omega)
        have s264 : gS w252 w258 cd 0 0 0 0 0 := gS.wr hcd ((e_Has.get q254T (c := cd) (k := 0) (lo := 0) (hi := 4000) (kD_0 hcd) (by decide)).1) (by omega) g263
        have x265 : gS w w258 cd (-4) 0 0 0 0 := gS.trans x257 s264 (by omega)
        refine e_Ok.run (t' := (108, [(0, (1, 1))], [(0, (-1)), (1, 1)], w258)) 2 rfl ?_
        refine e_Ok.putf rfl (el_o rfl) rfl rfl ?_
        generalize hw266 : e_up w258 1 13 (-1) = w266
        have f267 : e_fr (kRr cd) w w266 := e_fr.up f259 hw266 (by unfold kRr; omega)
        have hT268 : e_Has kTy w266 := e_Has.ups hT260 hw266 rfl
        have hH269 : e_Has kRy w266 := e_Has.upr hH261 hw266 rfl (by omega)
        have t270 : tkR w266 := t262.eq (fun k g => by rw [← hw266]; exact e_up_ne _ _ (by omega))
        have g271 : e_fr (fun c k => c = 1 ∧ 11 ≤ k ∧ k ≤ 13) w258 w266 := fun c k g => by have g2 : ¬ (c = 1 ∧ 11 ≤ k ∧ k ≤ 13) := g; rw [← hw266]; exact e_up_ne _ _ (by omega)
        have s272 : gS w258 w266 cd 0 0 0 0 0 := gS.wr hcd ((e_Has.get hT260 (c := cd) (k := 0) (lo := 0) (hi := 4000) (kD_0 hcd) (by decide)).1) (by omega) g271
        have x273 : gS w w266 cd (-4) 0 0 0 0 := gS.trans x265 s272 (by omega)
        refine e_Ok.run (t' := (112, [(0, (1, 1))], [(1, 1)], w266)) 1 rfl ?_
        refine e_Ok.callV rfl (by omega) rfl rfl rfl rfl (g_blk (o := o) (by omega) (by omega) w266 cd 0 (-1) ⟨hT268, hH269, (by rw [← hw266]; exact (e_up_ne _ _ (Or.inr (by omega))).trans (by rw [← hw258]; exact (e_up_ne _ _ (Or.inr (by omega))).trans ((q254f 1 3 (by unfold kRk; omega)).trans ((q247f 1 3 (by unfold kRk; omega)).trans (by rw [← hw237]; exact (e_up_ne _ _ (Or.inr (by omega))).trans (by rw [← hw232]; exact (e_up_ne _ _ (Or.inl (by omega))).trans (by rw [← hw225]; exact (e_up_ne _ _ (Or.inl (by omega))).trans ((q66f 1 3 (by unfold kRc; omega)).trans ((q4f 1 3 (by unfold kRa; omega)).trans hc))))))))), hcd, t270⟩ (by rw [← hw266]; exact (e_up_ne _ _ (Or.inr (by omega))).trans (by rw [← hw258]; exact (e_up_ne _ _ (Or.inr (by omega))).trans ((q254f 1 11 (by unfold kRk; omega)).trans ((q247f 1 11 (by unfold kRk; omega)).trans (by rw [← hw237]; exact (e_up_ne _ _ (Or.inr (by omega))).trans (by rw [← hw232]; exact (e_up_ne _ _ (Or.inl (by omega))).trans (by rw [← hw225]; exact (e_up_ne _ _ (Or.inl (by omega))).trans ((q66f 1 11 (by unfold kRc; omega)).trans ((q4f 1 11 (by unfold kRa; omega)).trans ho))))))))) (by rw [← hw266]; exact (e_up_ne _ _ (Or.inr (by omega))).trans (by rw [← hw258]; exact e_up_eq _ _ _ _)) (by omega) (by rw [← hw266]; exact e_up_eq _ _ _ _) (Or.inl rfl) trivial) (fun r274 w275 h276 => ?_)
        obtain ⟨rfl, q277f, ⟨q277T, q277H, q277c, -, q277k⟩, ⟨q277o, q277t, q277l⟩, q277x⟩ := h276
        have f278 : e_fr (kRr cd) w w275 := e_fr.trans f267 (e_fr.mono q277f (fun c k q => by unfold kRt at q; unfold kRr; omega))
        have s279 : gS w266 w275 cd 0 0 0 0 0 := q277x
        have x280 : gS w w275 cd (-4) 0 0 0 0 := gS.trans x273 s279 (by omega)
        show e_Ok 20 elay kcode eI (d + 1) 142 (115, [(0, (1, 1))], [], w275) _
        refine e_Ok.run (t' := (118, [(0, (1, 1))], [(0, 23), (1, 1)], w275)) 2 rfl ?_
        refine e_Ok.callV rfl (by omega) rfl rfl rfl rfl (c_129 (by omega) q277T q277H q277k (by omega)) (fun r281 w282 h283 => ?_)
        obtain ⟨rfl, q284f, q284T, q284H, q284k, q284x⟩ := h283
        have f285 : e_fr (kRr cd) w w282 := e_fr.trans f278 (e_fr.mono q284f (fun c k q => by unfold kRk at q; unfold kRr; omega))
        have s286 : gS w275 w282 cd (-3) 0 0 0 0 := gS.acc hcd ((e_Has.get q277T (c := cd) (k := 0) (lo := 0) (hi := 4000) (kD_0 hcd) (by decide)).1) (by omega) q284f q284x (fun g => q277k.a3 (by omega))
        have x287 : gS w w282 cd (-7) 0 0 0 0 := gS.trans x280 s286 (by omega)
        show e_Ok 20 elay kcode eI (d + 1) 142 (121, [(0, (1, 1))], [], w282) _
        refine e_Ok.run (t' := (122, [(0, (1, 1))], [(1, 1)], w282)) 1 rfl ?_
        refine e_Ok.getr (z := cd) rfl (el_o rfl) rfl rfl ((q284f 1 3 (by unfold kRk; omega)).trans ((q277f 1 3 (by unfold kRt; omega)).trans (by rw [← hw266]; exact (e_up_ne _ _ (Or.inr (by omega))).trans (by rw [← hw258]; exact (e_up_ne _ _ (Or.inr (by omega))).trans ((q254f 1 3 (by unfold kRk; omega)).trans ((q247f 1 3 (by unfold kRk; omega)).trans (by rw [← hw237]; exact (e_up_ne _ _ (Or.inr (by omega))).trans (by rw [← hw232]; exact (e_up_ne _ _ (Or.inl (by omega))).trans (by rw [← hw225]; exact (e_up_ne _ _ (Or.inl (by omega))).trans ((q66f 1 3 (by unfold kRc; omega)).trans ((q4f 1 3 (by unfold kRa; omega)).trans hc))))))))))) (by omega) ?_
        refine e_Ok.run (t' := (128, [(0, (1, 1))], [(0, 0), (0, 43), (1, cd)], w282)) 2 rfl ?_
        refine e_Ok.callV rfl (by omega) rfl (lD0 hcd) rfl rfl (c_21 q284T hcd (by omega) (by omega)) (fun r288 w289 h290 => ?_)
        obtain ⟨z292, rfl, q291f, q291T, q291x⟩ := h290
        have q291H : e_Has kRy w289 := H_fr q291f (fun c k g => by unfold kEm at g; omega) q284H
        have q291k : tkR w289 := (q284k.fr q291f (fun k g => by unfold kEm; omega))
        have q291z : 0 ≤ z292 ∧ z292 ≤ 4000 := by have g := e_Has.get q284T (c := cd) (k := 0) (lo := 0) (hi := 4000) (kD_0 hcd) (by decide); unfold emQ at q291x; omega
        have f293 : e_fr (kRr cd) w w289 := e_fr.trans f285 (e_fr.mono q291f (fun c k q => by unfold kEm at q; unfold kRr; omega))
        have s294 : gS w282 w289 cd 1 0 0 0 0 := gS.big hcd ((e_Has.get q284T (c := cd) (k := 0) (lo := 0) (hi := 4000) (kD_0 hcd) (by decide)).1) (by omega) q291f q291x (by omega) (by omega) (fun g => by omega) (fun g => by omega)
        have x295 : gS w w289 cd (-6) 0 0 0 0 := gS.trans x287 s294 (by omega)
        show e_Ok 20 elay kcode eI (d + 1) 142 (131, [(0, (1, 1))], [(0, z292)], w289) _
        refine e_Ok.run (t' := (132, [(0, (1, 1))], [], w289)) 1 rfl ?_
        refine e_Ok.rets rfl rfl ?_
        have yo : w289 1 11 = o := ((q291f 1 11 (by unfold kEm; omega)).trans ((q284f 1 11 (by unfold kRk; omega)).trans (q277o.trans (by rw [← hw266]; exact (e_up_ne _ _ (Or.inr (by omega))).trans (by rw [← hw258]; exact (e_up_ne _ _ (Or.inr (by omega))).trans ((q254f 1 11 (by unfold kRk; omega)).trans ((q247f 1 11 (by unfold kRk; omega)).trans (by rw [← hw237]; exact (e_up_ne _ _ (Or.inr (by omega))).trans (by rw [← hw232]; exact (e_up_ne _ _ (Or.inl (by omega))).trans (by rw [← hw225]; exact (e_up_ne _ _ (Or.inl (by omega))).trans ((q66f 1 11 (by unfold kRc; omega)).trans ((q4f 1 11 (by unfold kRa; omega)).trans ho))))))))))))
        exact ⟨rfl, f293, ⟨q291T, q291H, ((q291f 1 3 (by unfold kEm; omega)).trans ((q284f 1 3 (by unfold kRk; omega)).trans ((q277f 1 3 (by unfold kRt; omega)).trans (by rw [← hw266]; exact (e_up_ne _ _ (Or.inr (by omega))).trans (by rw [← hw258]; exact (e_up_ne _ _ (Or.inr (by omega))).trans ((q254f 1 3 (by unfold kRk; omega)).trans ((q247f 1 3 (by unfold kRk; omega)).trans (by rw [← hw237]; exact (e_up_ne _ _ (Or.inr (by omega))).trans (by rw [← hw232]; exact (e_up_ne _ _ (Or.inl (by omega))).trans (by rw [← hw225]; exact (e_up_ne _ _ (Or.inl (by omega))).trans ((q66f 1 3 (by unfold kRc; omega)).trans ((q4f 1 3 (by unfold kRa; omega)).trans hc)))))))))))), hcd, q291k⟩, yo, x295.le (by omega)⟩
theorem c_23_r {d : Nat} {w : eW} (hT : e_Has kTy w) {cd : Int} (hcd : isCd cd) {p : Int} (g_p : (-2147483648) ≤ p ∧ p ≤ 2147483647) : e_Ok 20 elay kcode eI d 23 (0, [(0, (1, cd)), (1, (0, p))], [], w) (fun r w' => ∃ z : Int, r = [(0, z)] ∧ w = w' ∧ (0 ≤ z ∧ z ≤ 63) ∧ (((0 ≤ p ∧ p < w cd 0) ∧ z = w (cd + 2) p % 64) ∨ ((p < 0 ∨ w cd 0 ≤ p) ∧ z = 43))) := by
  have hcd2 := hcd; unfold isCd at hcd2
  have hcd3 : 2 ≤ cd ∧ cd ≤ 145 := by omega
  have pL := e_Has.get hT (c := cd) (k := 0) (lo := 0) (hi := 4000) (kD_0 hcd) (by decide)
  refine e_Ok.run (t' := (1, [(0, (1, cd)), (1, (0, p))], [(0, p)], w)) 1 rfl ?_
  refine e_Ok.if1 rfl (fun h1 => ?_) (fun h1 => ?_)
  · replace h1 : (p : Int) < 0 := h1
    refine e_Ok.run (t' := (26, [(0, (1, cd)), (1, (0, p))], [(0, 43)], w)) 1 rfl ?_
    refine e_Ok.rets rfl rfl ?_
    exact ⟨_, rfl, rfl, by omega, Or.inr ⟨by omega, rfl⟩⟩
  · replace h1 : (p : Int) ≥ 0 := by have q : ¬ ((p : Int) < 0) := h1; omega
    refine e_Ok.run (t' := (6, [(0, (1, cd)), (1, (0, p))], [(1, cd), (0, p)], w)) 2 rfl ?_
    have h2 := (e_Has.get hT (c := cd) (k := 0) (lo := 0) (hi := 4000) (kD_0 hcd) (by decide))
    refine e_Ok.getf (z := w cd 0) rfl (lD0 hcd) rfl rfl rfl (by omega) ?_
    refine e_Ok.if2 rfl (fun h3 => ?_) (fun h3 => ?_)
    · replace h3 : (p : Int) ≥ w cd 0 := h3
      refine e_Ok.run (t' := (26, [(0, (1, cd)), (1, (0, p))], [(0, 43)], w)) 1 rfl ?_
      refine e_Ok.rets rfl rfl ?_
      exact ⟨_, rfl, rfl, by omega, Or.inr ⟨by omega, rfl⟩⟩
    · replace h3 : (p : Int) < w cd 0 := by have q : ¬ ((p : Int) ≥ w cd 0) := h3; omega
      refine e_Ok.run (t' := (13, [(0, (1, cd)), (1, (0, p))], [(1, cd)], w)) 1 rfl ?_
      refine e_Ok.getr (z := cd + 2) rfl (lD0 hcd) rfl rfl (Eq.trans (e_Has.eq hT (kD_4 hcd)) (by omega)) (by omega) ?_
      refine e_Ok.run (t' := (17, [(0, (1, cd)), (1, (0, p))], [(0, p), (1, cd + 2)], w)) 1 rfl ?_
      have h4 := (e_Has.get hT (c := cd + 2) (k := p) (lo := (-2147483648)) (hi := 2147483647) (kD2 (d := cd) _ (by omega) hcd) (by decide))
      refine e_Ok.ald (z := w (cd + 2) p) rfl (lD2 (d := cd) (by omega) hcd) rfl (by omega) rfl (by omega) ?_
      refine e_Ok.run (t' := (20, [(0, (1, cd)), (1, (0, p))], [(0, 63), (0, w (cd + 2) p)], w)) 1 rfl ?_
      refine e_Ok.andm 63 6 rfl (by decide) (fun z5 hz5 => ?_)
      replace hz5 : z5 = (w (cd + 2) p) % 64 := hz5
      have hz5r : 0 ≤ z5 ∧ z5 ≤ 63 := by omega
      refine e_Ok.run (t' := (26, [(0, (1, cd)), (1, (0, p))], [(0, z5)], w)) 1 rfl ?_
      refine e_Ok.rets rfl rfl ?_
      exact ⟨_, rfl, rfl, by omega, Or.inl ⟨by omega, by omega⟩⟩
theorem c_24_r {d : Nat} {w : eW} (hT : e_Has kTy w) {cd : Int} (hcd : isCd cd) {p : Int} (g_p : (-2147483648) ≤ p ∧ p ≤ 2147483647) : e_Ok 20 elay kcode eI d 24 (0, [(0, (1, cd)), (1, (0, p))], [], w) (fun r w' => ∃ z : Int, r = [(0, z)] ∧ w = w' ∧ (-33554432 ≤ z ∧ z ≤ 33554431) ∧ (((0 ≤ p ∧ p < w cd 0) ∧ z = w (cd + 2) p / 64) ∨ ((p < 0 ∨ w cd 0 ≤ p) ∧ z = 0))) := by
  have hcd2 := hcd; unfold isCd at hcd2
  have hcd3 : 2 ≤ cd ∧ cd ≤ 145 := by omega
  have pL := e_Has.get hT (c := cd) (k := 0) (lo := 0) (hi := 4000) (kD_0 hcd) (by decide)
  refine e_Ok.run (t' := (1, [(0, (1, cd)), (1, (0, p))], [(0, p)], w)) 1 rfl ?_
  refine e_Ok.if1 rfl (fun h1 => ?_) (fun h1 => ?_)
  · replace h1 : (p : Int) < 0 := h1
    refine e_Ok.run (t' := (25, [(0, (1, cd)), (1, (0, p))], [(0, 0)], w)) 1 rfl ?_
    refine e_Ok.rets rfl rfl ?_
    exact ⟨_, rfl, rfl, by omega, Or.inr ⟨by omega, rfl⟩⟩
  · replace h1 : (p : Int) ≥ 0 := by have q : ¬ ((p : Int) < 0) := h1; omega
    refine e_Ok.run (t' := (6, [(0, (1, cd)), (1, (0, p))], [(1, cd), (0, p)], w)) 2 rfl ?_
    have h2 := (e_Has.get hT (c := cd) (k := 0) (lo := 0) (hi := 4000) (kD_0 hcd) (by decide))
    refine e_Ok.getf (z := w cd 0) rfl (lD0 hcd) rfl rfl rfl (by omega) ?_
    refine e_Ok.if2 rfl (fun h3 => ?_) (fun h3 => ?_)
    · replace h3 : (p : Int) ≥ w cd 0 := h3
      refine e_Ok.run (t' := (25, [(0, (1, cd)), (1, (0, p))], [(0, 0)], w)) 1 rfl ?_
      refine e_Ok.rets rfl rfl ?_
      exact ⟨_, rfl, rfl, by omega, Or.inr ⟨by omega, rfl⟩⟩
    · replace h3 : (p : Int) < w cd 0 := by have q : ¬ ((p : Int) ≥ w cd 0) := h3; omega
      refine e_Ok.run (t' := (13, [(0, (1, cd)), (1, (0, p))], [(1, cd)], w)) 1 rfl ?_
      refine e_Ok.getr (z := cd + 2) rfl (lD0 hcd) rfl rfl (Eq.trans (e_Has.eq hT (kD_4 hcd)) (by omega)) (by omega) ?_
      refine e_Ok.run (t' := (17, [(0, (1, cd)), (1, (0, p))], [(0, p), (1, cd + 2)], w)) 1 rfl ?_
      have h4 := (e_Has.get hT (c := cd + 2) (k := p) (lo := (-2147483648)) (hi := 2147483647) (kD2 (d := cd) _ (by omega) hcd) (by decide))
      refine e_Ok.ald (z := w (cd + 2) p) rfl (lD2 (d := cd) (by omega) hcd) rfl (by omega) rfl (by omega) ?_
      refine e_Ok.run (t' := (20, [(0, (1, cd)), (1, (0, p))], [(0, 6), (0, w (cd + 2) p)], w)) 1 rfl ?_
      refine e_Ok.shr6 rfl (by omega) (fun z5 hz5 => ?_)
      replace hz5 : z5 = (w (cd + 2) p) / 64 := hz5
      refine e_Ok.run (t' := (25, [(0, (1, cd)), (1, (0, p))], [(0, z5)], w)) 1 rfl ?_
      refine e_Ok.rets rfl rfl ?_
      exact ⟨_, rfl, rfl, by omega, Or.inl ⟨by omega, by omega⟩⟩
set_option maxHeartbeats 4000000 in
theorem c_138 {d : Nat} (hd : 25 ≤ d) {w : eW} {cd : Int} (hS : rS w cd) : e_Ok 20 elay kcode eI d 138 (0, [(0, (1, 1))], [], w) (fun r w' => r = [] ∧ e_fr (kRf cd) w w' ∧ rS w' cd ∧ ∃ n, (n ≤ 32 ∧ n ≤ w 1 14) ∧ w' cd 1 = n ∧ (nF w' → nF w ∧ fR w w' cd (w cd 0) n)) := by
  obtain ⟨d, rfl⟩ : ∃ e, d = e + 1 := ⟨d - 1, by omega⟩
  obtain ⟨hT, hH, hc, hcd, hk⟩ := hS
  have hcd2 := hcd; unfold isCd at hcd2
  have hcd3 : 2 ≤ cd ∧ cd ≤ 145 := by omega
  have pL := e_Has.get hT (c := cd) (k := 0) (lo := 0) (hi := 4000) (kD_0 hcd) (by decide)
  have p1 := e_Has.get hH (c := 1) (k := 1) (lo := (-2147483648)) (hi := 2147483647) rfl (by decide)
  have p5 := e_Has.get hH (c := 1) (k := 5) (lo := 0) (hi := 53) rfl (by decide)
  have p6 := e_Has.get hH (c := 1) (k := 6) (lo := 0) (hi := 4000) rfl (by decide)
  have p9 := e_Has.get hH (c := 1) (k := 9) (lo := (-2147483648)) (hi := 2147483647) rfl (by decide)
  have p14 := e_Has.get hH (c := 1) (k := 14) (lo := 0) (hi := 500) rfl (by decide)
  refine e_Ok.run (t' := (1, [(0, (1, 1))], [(1, 1)], w)) 1 rfl ?_
  refine e_Ok.getr (z := cd) rfl (el_o rfl) rfl rfl hc (by omega) ?_
  refine e_Ok.run (t' := (5, [(0, (1, 1))], [(1, 1), (1, cd)], w)) 1 rfl ?_
  have h1 := (e_Has.get hH (c := 1) (k := 14) (lo := 0) (hi := 500) rfl (by decide))
  refine e_Ok.getf (z := w 1 14) rfl (el_o rfl) rfl rfl rfl (by omega) ?_
  refine e_Ok.run (t' := (10, [(0, (1, 1))], [(0, 32), (0, w 1 14), (1, cd)], w)) 1 rfl ?_
  refine e_Ok.mmin rfl rfl (fun z2 hz2 => ?_)
  replace hz2 : (32 < w 1 14 ∧ z2 = 32) ∨ ((w 1 14) ≤ 32 ∧ z2 = w 1 14) := hz2
  obtain ⟨n14, hn14⟩ : ∃ n, n = z2 := ⟨_, rfl⟩
  refine e_Ok.putf rfl (lD0 hcd) rfl rfl ?_
  generalize hw3 : e_up w cd 1 z2 = w3
  have f4 : e_fr (kRf cd) w w3 := e_fr.up (e_fr.refl w) hw3 (by unfold kRf; omega)
  have l5 : w3 1 14 = w 1 14 := f4 1 14 (by unfold kRf; omega)
  have l6 : w3 cd 0 = w cd 0 := f4 cd 0 (by unfold kRf; omega)
  have hT7 : e_Has kTy w3 := e_Has.upr hT hw3 (kD_1 hcd) (by omega)
  have hH8 : e_Has kRy w3 := e_Has.ups hH hw3 (kRy_D (by omega) (by omega))
  have t9 : tkR w3 := hk.eq (fun k g => by rw [← hw3]; exact e_up_ne _ _ (by omega))
  have y0 : nF w3 → nF w ∧ fR w w3 cd 0 n14 := fun n => ⟨⟨by rw [show w 1 1 = w3 1 1 from by rw [← hw3]; exact (e_up_ne _ _ (by omega)).symm]; exact n.1, by rw [show w 1 9 = w3 1 9 from by rw [← hw3]; exact (e_up_ne _ _ (by omega)).symm]; exact n.2⟩, fun p g1 g2 => Or.inl ⟨by rw [← hw3]; exact e_up_ne _ _ (by omega), Or.inl g1⟩⟩
  refine e_Ok.run (t' := (18, [(1, (0, 0)), (0, (1, 1))], [], w3)) 2 rfl ?_
  have hL10 : ∀ (nn : Nat) (y1 : Int) (v1 : eW), e_fr (kRf cd) w v1 ∧ e_Has kTy v1 ∧ e_Has kRy v1 ∧ tkR v1 ∧ ((nF v1 → nF w ∧ fR w v1 cd y1 n14)) ∧ ((0 ≤ y1 ∧ y1 ≤ w cd 0)) ∧ v1 cd 1 = n14 → 4001 - y1 < nn → e_Ok 20 elay kcode eI (d + 1) 138 (18, [(0, (1, 1)), (1, (0, y1))], [], v1) (fun r w' => r = [] ∧ e_fr (kRf cd) w w' ∧ rS w' cd ∧ ∃ n, (n ≤ 32 ∧ n ≤ w 1 14) ∧ w' cd 1 = n ∧ (nF w' → nF w ∧ fR w w' cd (w cd 0) n)) := by
    intro nn
    induction nn with
    | zero => intro y1 v1 hj hm; obtain ⟨j12, j13, j14, j15, j16, j17, j18⟩ := hj; exfalso; omega
    | succ nn ih11 =>
      intro y1 v1 hj hm
      obtain ⟨j12, j13, j14, j15, j16, j17, j18⟩ := hj
      have l19 : v1 1 14 = w 1 14 := j12 1 14 (by unfold kRf; omega)
      have l20 : v1 cd 0 = w cd 0 := j12 cd 0 (by unfold kRf; omega)
      refine e_Ok.run (t' := (20, [(0, (1, 1)), (1, (0, y1))], [(1, 1), (0, y1)], v1)) 2 rfl ?_
      refine e_Ok.getr (z := cd) rfl (el_o rfl) rfl rfl ((j12 1 3 (by unfold kRf; omega)).trans hc) (by omega) ?_
      refine e_Ok.getf (z := w cd 0) rfl (lD0 hcd) rfl rfl ((j12 cd 0 (by unfold kRf; omega)).trans rfl) (by omega) ?_
      refine e_Ok.if2 rfl (fun h21 => ?_) (fun h21 => ?_)
      · replace h21 : (y1 : Int) ≥ w cd 0 := h21
        refine e_Ok.rets rfl rfl ?_
        exact ⟨rfl, j12, ⟨j13, j14, ((j12 1 3 (by unfold kRf; omega)).trans hc), hcd, j15⟩, n14, by omega, j18, fun n => ⟨(j16 n).1, by have g := (j16 n).2; rw [show y1 = w cd 0 by have g2 : v1 cd 0 = w cd 0 := ((j12 cd 0 (by unfold kRf; omega)).trans rfl); omega] at g; exact g⟩⟩
      · replace h21 : (y1 : Int) < w cd 0 := by have q : ¬ ((y1 : Int) ≥ w cd 0) := h21; omega
        refine e_Ok.run (t' := (30, [(0, (1, 1)), (1, (0, y1))], [(1, 1)], v1)) 1 rfl ?_
        refine e_Ok.getr (z := cd) rfl (el_o rfl) rfl rfl ((j12 1 3 (by unfold kRf; omega)).trans hc) (by omega) ?_
        refine e_Ok.run (t' := (34, [(0, (1, 1)), (1, (0, y1))], [(0, y1), (1, cd)], v1)) 1 rfl ?_
        refine e_Ok.callV rfl (by omega) rfl (lD0 hcd) rfl rfl (c_23_r j13 hcd (by omega)) (fun r22 w23 h24 => ?_)
        obtain ⟨z25, rfl, rfl, q26r, q26⟩ := h24
        show e_Ok 20 elay kcode eI (d + 1) 138 (37, [(0, (1, 1)), (1, (0, y1))], [(0, z25)], v1) _
        refine e_Ok.run (t' := (41, [(2, (0, z25)), (0, (1, 1)), (1, (0, y1))], [(0, 33), (0, z25)], v1)) 3 rfl ?_
        refine e_Ok.if2 rfl (fun h27 => ?_) (fun h27 => ?_)
        · replace h27 : (z25 : Int) = 33 := h27
          refine e_Ok.run (t' := (61, [(2, (0, z25)), (0, (1, 1)), (1, (0, y1))], [(1, 1), (1, 1)], v1)) 2 rfl ?_
          refine e_Ok.getr (z := cd) rfl (el_o rfl) rfl rfl ((j12 1 3 (by unfold kRf; omega)).trans hc) (by omega) ?_
          refine e_Ok.run (t' := (65, [(2, (0, z25)), (0, (1, 1)), (1, (0, y1))], [(0, y1), (1, cd), (1, 1)], v1)) 1 rfl ?_
          refine e_Ok.callV rfl (by omega) rfl (lD0 hcd) rfl rfl (c_24_r j13 hcd (by omega)) (fun r28 w29 h30 => ?_)
          obtain ⟨z31, rfl, rfl, q32r, q32⟩ := h30
          show e_Ok 20 elay kcode eI (d + 1) 138 (68, [(2, (0, z25)), (0, (1, 1)), (1, (0, y1))], [(0, z31), (1, 1)], v1) _
          refine e_Ok.callV rfl (by omega) rfl rfl rfl rfl (c_136 (by omega) j13 j14 (by omega)) (fun r33 w34 h35 => ?_)
          obtain ⟨z36, rfl, rfl, q37⟩ := h35
          show e_Ok 20 elay kcode eI (d + 1) 138 (71, [(2, (0, z25)), (0, (1, 1)), (1, (0, y1))], [(0, z36)], v1) _
          refine e_Ok.run (t' := (73, [(3, (0, z36)), (2, (0, z25)), (0, (1, 1)), (1, (0, y1))], [(0, z36)], v1)) 2 rfl ?_
          refine e_Ok.if1 rfl (fun h38 => ?_) (fun h38 => ?_)
          · replace h38 : (z36 : Int) ≥ 0 := h38
            refine e_Ok.run (t' := (93, [(3, (0, z36)), (2, (0, z25)), (0, (1, 1)), (1, (0, y1))], [(1, 1)], v1)) 1 rfl ?_
            refine e_Ok.getr (z := cd) rfl (el_o rfl) rfl rfl ((j12 1 3 (by unfold kRf; omega)).trans hc) (by omega) ?_
            refine e_Ok.run (t' := (100, [(3, (0, z36)), (2, (0, z25)), (0, (1, 1)), (1, (0, y1))], [(0, 31), (0, z36), (0, y1), (1, cd)], v1)) 3 rfl ?_
            refine e_Ok.mmin rfl rfl (fun z40 hz40 => ?_)
            replace hz40 : (31 < z36 ∧ z40 = 31) ∨ (z36 ≤ 31 ∧ z40 = z36) := hz40
            refine e_Ok.callV rfl (by omega) rfl (lD0 hcd) rfl rfl (c_22 j13 hcd (by omega) (by have g := e_Has.get j13 (c := cd) (k := 0) (lo := 0) (hi := 4000) (kD_0 hcd) (by decide); omega)) (fun r41 w42 h43 => ?_)
            obtain ⟨rfl, q44f, q44T, q44x⟩ := h43
            have q44H : e_Has kRy w42 := H_fr q44f (fun c k g => by unfold kPa at g; omega) j14
            have q44k : tkR w42 := j15.fr q44f (fun k g => by unfold kPa; omega)
            have f45 : e_fr (kRf cd) w w42 := e_fr.trans j12 (e_fr.mono q44f (fun c k q => by unfold kPa at q; unfold kRf; omega))
            have l46 : w42 1 14 = w 1 14 := f45 1 14 (by unfold kRf; omega)
            have l47 : w42 cd 0 = w cd 0 := f45 cd 0 (by unfold kRf; omega)
            have y48 : nF w42 → nF w ∧ fR w w42 cd (y1 + 1) n14 := fun n => by have g := j16 ⟨by rw [← (fr_p q44f hcd).1]; exact n.1, by rw [← (fr_p q44f hcd).2.1]; exact n.2⟩; exact ⟨g.1, g.2.pat (by unfold isCl; omega) q44x (by have g2 : v1 cd 0 = w cd 0 := ((j12 cd 0 (by unfold kRf; omega)).trans rfl); omega) (by omega)⟩
            show e_Ok 20 elay kcode eI (d + 1) 138 (106, [(3, (0, z36)), (2, (0, z25)), (0, (1, 1)), (1, (0, y1))], [], w42) _
            refine e_Ok.inc (z := y1 + 1) rfl rfl (by omega) (by omega) ?_
            show e_Ok 20 elay kcode eI (d + 1) 138 (109, [(1, (0, y1 + 1)), (3, (0, z36)), (2, (0, z25)), (0, (1, 1))], [], w42) _
            refine e_Ok.run (t' := (18, [(1, (0, y1 + 1)), (3, (0, z36)), (2, (0, z25)), (0, (1, 1))], [], w42)) 1 rfl ?_
            refine e_Ok.sub kAlk (e_sub_of rfl ?_) (ih11 (y1 + 1) w42 ⟨f45, q44T, q44H, q44k, y48, (by omega), ((q44f cd 1 (by unfold kPa; omega)).trans j18)⟩ (by omega))
            exact ⟨rfl, rfl, trivial⟩
          · replace h38 : (z36 : Int) < 0 := by have q : ¬ ((z36 : Int) ≥ 0) := h38; omega
            refine e_Ok.run (t' := (79, [(3, (0, z36)), (2, (0, z25)), (0, (1, 1)), (1, (0, y1))], [(1, 1), (0, 5), (1, 1)], v1)) 3 rfl ?_
            refine e_Ok.getr (z := cd) rfl (el_o rfl) rfl rfl ((j12 1 3 (by unfold kRf; omega)).trans hc) (by omega) ?_
            refine e_Ok.run (t' := (83, [(3, (0, z36)), (2, (0, z25)), (0, (1, 1)), (1, (0, y1))], [(0, y1), (1, cd), (0, 5), (1, 1)], v1)) 1 rfl ?_
            refine e_Ok.callV rfl (by omega) rfl (lD0 hcd) rfl rfl (c_24_r j13 hcd (by omega)) (fun r49 w50 h51 => ?_)
            obtain ⟨z52, rfl, rfl, q53r, q53⟩ := h51
            show e_Ok 20 elay kcode eI (d + 1) 138 (86, [(3, (0, z36)), (2, (0, z25)), (0, (1, 1)), (1, (0, y1))], [(0, z52), (0, 5), (1, 1)], v1) _
            refine e_Ok.callV rfl (by omega) rfl rfl rfl rfl (c_133 j13 j14 j15 (by omega) (by omega)) (fun r54 w55 h56 => ?_)
            obtain ⟨rfl, q57f, q57T, q57H, q57k, q57n⟩ := h56
            have f58 : e_fr (kRf cd) w w55 := e_fr.trans j12 (e_fr.mono q57f (fun c k q => by unfold kRc at q; unfold kRf; omega))
            have l59 : w55 1 14 = w 1 14 := f58 1 14 (by unfold kRf; omega)
            have l60 : w55 cd 0 = w cd 0 := f58 cd 0 (by unfold kRf; omega)
            have y61 : nF w55 → nF w ∧ fR w w55 cd (y1 + 1) n14 := fun n => absurd n q57n
            show e_Ok 20 elay kcode eI (d + 1) 138 (89, [(3, (0, z36)), (2, (0, z25)), (0, (1, 1)), (1, (0, y1))], [], w55) _
            refine e_Ok.run (t' := (106, [(3, (0, z36)), (2, (0, z25)), (0, (1, 1)), (1, (0, y1))], [], w55)) 1 rfl ?_
            refine e_Ok.inc (z := y1 + 1) rfl rfl (by omega) (by omega) ?_
            show e_Ok 20 elay kcode eI (d + 1) 138 (109, [(1, (0, y1 + 1)), (3, (0, z36)), (2, (0, z25)), (0, (1, 1))], [], w55) _
            refine e_Ok.run (t' := (18, [(1, (0, y1 + 1)), (3, (0, z36)), (2, (0, z25)), (0, (1, 1))], [], w55)) 1 rfl ?_
            refine e_Ok.sub kAlk (e_sub_of rfl ?_) (ih11 (y1 + 1) w55 ⟨f58, q57T, q57H, q57k, y61, (by omega), ((q57f cd 1 (by unfold kRc; omega)).trans j18)⟩ (by omega))
            exact ⟨rfl, rfl, trivial⟩
        · replace h27 : (z25 : Int) ≠ 33 := by have q : ¬ ((z25 : Int) = 33) := h27; omega
          refine e_Ok.run (t' := (47, [(2, (0, z25)), (0, (1, 1)), (1, (0, y1))], [(0, 34), (0, z25)], v1)) 2 rfl ?_
          refine e_Ok.if2 rfl (fun h62 => ?_) (fun h62 => ?_)
          · replace h62 : (z25 : Int) = 34 := h62
            refine e_Ok.run (t' := (61, [(2, (0, z25)), (0, (1, 1)), (1, (0, y1))], [(1, 1), (1, 1)], v1)) 2 rfl ?_
            refine e_Ok.getr (z := cd) rfl (el_o rfl) rfl rfl ((j12 1 3 (by unfold kRf; omega)).trans hc) (by omega) ?_
            refine e_Ok.run (t' := (65, [(2, (0, z25)), (0, (1, 1)), (1, (0, y1))], [(0, y1), (1, cd), (1, 1)], v1)) 1 rfl ?_
            refine e_Ok.callV rfl (by omega) rfl (lD0 hcd) rfl rfl (c_24_r j13 hcd (by omega)) (fun r63 w64 h65 => ?_)
            obtain ⟨z66, rfl, rfl, q67r, q67⟩ := h65
            show e_Ok 20 elay kcode eI (d + 1) 138 (68, [(2, (0, z25)), (0, (1, 1)), (1, (0, y1))], [(0, z66), (1, 1)], v1) _
            refine e_Ok.callV rfl (by omega) rfl rfl rfl rfl (c_136 (by omega) j13 j14 (by omega)) (fun r68 w69 h70 => ?_)
            obtain ⟨z71, rfl, rfl, q72⟩ := h70
            show e_Ok 20 elay kcode eI (d + 1) 138 (71, [(2, (0, z25)), (0, (1, 1)), (1, (0, y1))], [(0, z71)], v1) _
            refine e_Ok.run (t' := (73, [(3, (0, z71)), (2, (0, z25)), (0, (1, 1)), (1, (0, y1))], [(0, z71)], v1)) 2 rfl ?_
            refine e_Ok.if1 rfl (fun h73 => ?_) (fun h73 => ?_)
            · replace h73 : (z71 : Int) ≥ 0 := h73
              refine e_Ok.run (t' := (93, [(3, (0, z71)), (2, (0, z25)), (0, (1, 1)), (1, (0, y1))], [(1, 1)], v1)) 1 rfl ?_
              refine e_Ok.getr (z := cd) rfl (el_o rfl) rfl rfl ((j12 1 3 (by unfold kRf; omega)).trans hc) (by omega) ?_
              refine e_Ok.run (t' := (100, [(3, (0, z71)), (2, (0, z25)), (0, (1, 1)), (1, (0, y1))], [(0, 31), (0, z71), (0, y1), (1, cd)], v1)) 3 rfl ?_
              refine e_Ok.mmin rfl rfl (fun z74 hz74 => ?_)
              replace hz74 : (31 < z71 ∧ z74 = 31) ∨ (z71 ≤ 31 ∧ z74 = z71) := hz74
              refine e_Ok.callV rfl (by omega) rfl (lD0 hcd) rfl rfl (c_22 j13 hcd (by omega) (by have g := e_Has.get j13 (c := cd) (k := 0) (lo := 0) (hi := 4000) (kD_0 hcd) (by decide); omega)) (fun r75 w76 h77 => ?_)
              obtain ⟨rfl, q78f, q78T, q78x⟩ := h77
              have q78H : e_Has kRy w76 := H_fr q78f (fun c k g => by unfold kPa at g; omega) j14
              have q78k : tkR w76 := j15.fr q78f (fun k g => by unfold kPa; omega)
              have f79 : e_fr (kRf cd) w w76 := e_fr.trans j12 (e_fr.mono q78f (fun c k q => by unfold kPa at q; unfold kRf; omega))
              have l80 : w76 1 14 = w 1 14 := f79 1 14 (by unfold kRf; omega)
              have l81 : w76 cd 0 = w cd 0 := f79 cd 0 (by unfold kRf; omega)
              have y82 : nF w76 → nF w ∧ fR w w76 cd (y1 + 1) n14 := fun n => by have g := j16 ⟨by rw [← (fr_p q78f hcd).1]; exact n.1, by rw [← (fr_p q78f hcd).2.1]; exact n.2⟩; exact ⟨g.1, g.2.pat (by unfold isCl; omega) q78x (by have g2 : v1 cd 0 = w cd 0 := ((j12 cd 0 (by unfold kRf; omega)).trans rfl); omega) (by omega)⟩
              show e_Ok 20 elay kcode eI (d + 1) 138 (106, [(3, (0, z71)), (2, (0, z25)), (0, (1, 1)), (1, (0, y1))], [], w76) _
              refine e_Ok.inc (z := y1 + 1) rfl rfl (by omega) (by omega) ?_
              show e_Ok 20 elay kcode eI (d + 1) 138 (109, [(1, (0, y1 + 1)), (3, (0, z71)), (2, (0, z25)), (0, (1, 1))], [], w76) _
              refine e_Ok.run (t' := (18, [(1, (0, y1 + 1)), (3, (0, z71)), (2, (0, z25)), (0, (1, 1))], [], w76)) 1 rfl ?_
              refine e_Ok.sub kAlk (e_sub_of rfl ?_) (ih11 (y1 + 1) w76 ⟨f79, q78T, q78H, q78k, y82, (by omega), ((q78f cd 1 (by unfold kPa; omega)).trans j18)⟩ (by omega))
              exact ⟨rfl, rfl, trivial⟩
            · replace h73 : (z71 : Int) < 0 := by have q : ¬ ((z71 : Int) ≥ 0) := h73; omega
              refine e_Ok.run (t' := (79, [(3, (0, z71)), (2, (0, z25)), (0, (1, 1)), (1, (0, y1))], [(1, 1), (0, 5), (1, 1)], v1)) 3 rfl ?_
              refine e_Ok.getr (z := cd) rfl (el_o rfl) rfl rfl ((j12 1 3 (by unfold kRf; omega)).trans hc) (by omega) ?_
              refine e_Ok.run (t' := (83, [(3, (0, z71)), (2, (0, z25)), (0, (1, 1)), (1, (0, y1))], [(0, y1), (1, cd), (0, 5), (1, 1)], v1)) 1 rfl ?_
              refine e_Ok.callV rfl (by omega) rfl (lD0 hcd) rfl rfl (c_24_r j13 hcd (by omega)) (fun r83 w84 h85 => ?_)
              obtain ⟨z86, rfl, rfl, q87r, q87⟩ := h85
              show e_Ok 20 elay kcode eI (d + 1) 138 (86, [(3, (0, z71)), (2, (0, z25)), (0, (1, 1)), (1, (0, y1))], [(0, z86), (0, 5), (1, 1)], v1) _
              refine e_Ok.callV rfl (by omega) rfl rfl rfl rfl (c_133 j13 j14 j15 (by omega) (by omega)) (fun r88 w89 h90 => ?_)
              obtain ⟨rfl, q91f, q91T, q91H, q91k, q91n⟩ := h90
              have f92 : e_fr (kRf cd) w w89 := e_fr.trans j12 (e_fr.mono q91f (fun c k q => by unfold kRc at q; unfold kRf; omega))
              have l93 : w89 1 14 = w 1 14 := f92 1 14 (by unfold kRf; omega)
              have l94 : w89 cd 0 = w cd 0 := f92 cd 0 (by unfold kRf; omega)
              have y95 : nF w89 → nF w ∧ fR w w89 cd (y1 + 1) n14 := fun n => absurd n q91n
              show e_Ok 20 elay kcode eI (d + 1) 138 (89, [(3, (0, z71)), (2, (0, z25)), (0, (1, 1)), (1, (0, y1))], [], w89) _
              refine e_Ok.run (t' := (106, [(3, (0, z71)), (2, (0, z25)), (0, (1, 1)), (1, (0, y1))], [], w89)) 1 rfl ?_
              refine e_Ok.inc (z := y1 + 1) rfl rfl (by omega) (by omega) ?_
              show e_Ok 20 elay kcode eI (d + 1) 138 (109, [(1, (0, y1 + 1)), (3, (0, z71)), (2, (0, z25)), (0, (1, 1))], [], w89) _
              refine e_Ok.run (t' := (18, [(1, (0, y1 + 1)), (3, (0, z71)), (2, (0, z25)), (0, (1, 1))], [], w89)) 1 rfl ?_
              refine e_Ok.sub kAlk (e_sub_of rfl ?_) (ih11 (y1 + 1) w89 ⟨f92, q91T, q91H, q91k, y95, (by omega), ((q91f cd 1 (by unfold kRc; omega)).trans j18)⟩ (by omega))
              exact ⟨rfl, rfl, trivial⟩
          · replace h62 : (z25 : Int) ≠ 34 := by have q : ¬ ((z25 : Int) = 34) := h62; omega
            refine e_Ok.run (t' := (53, [(2, (0, z25)), (0, (1, 1)), (1, (0, y1))], [(0, 39), (0, z25)], v1)) 2 rfl ?_
            refine e_Ok.if2 rfl (fun h101 => ?_) (fun h101 => ?_)
            · replace h101 : (z25 : Int) = 39 := h101
              refine e_Ok.run (t' := (61, [(2, (0, z25)), (0, (1, 1)), (1, (0, y1))], [(1, 1), (1, 1)], v1)) 2 rfl ?_
              refine e_Ok.getr (z := cd) rfl (el_o rfl) rfl rfl ((j12 1 3 (by unfold kRf; omega)).trans hc) (by omega) ?_
              refine e_Ok.run (t' := (65, [(2, (0, z25)), (0, (1, 1)), (1, (0, y1))], [(0, y1), (1, cd), (1, 1)], v1)) 1 rfl ?_
              refine e_Ok.callV rfl (by omega) rfl (lD0 hcd) rfl rfl (c_24_r j13 hcd (by omega)) (fun r103 w104 h105 => ?_)
              obtain ⟨z106, rfl, rfl, q107r, q107⟩ := h105
              show e_Ok 20 elay kcode eI (d + 1) 138 (68, [(2, (0, z25)), (0, (1, 1)), (1, (0, y1))], [(0, z106), (1, 1)], v1) _
              refine e_Ok.callV rfl (by omega) rfl rfl rfl rfl (c_136 (by omega) j13 j14 (by omega)) (fun r108 w109 h110 => ?_)
              obtain ⟨z111, rfl, rfl, q112⟩ := h110
              show e_Ok 20 elay kcode eI (d + 1) 138 (71, [(2, (0, z25)), (0, (1, 1)), (1, (0, y1))], [(0, z111)], v1) _
              refine e_Ok.run (t' := (73, [(3, (0, z111)), (2, (0, z25)), (0, (1, 1)), (1, (0, y1))], [(0, z111)], v1)) 2 rfl ?_
              refine e_Ok.if1 rfl (fun h113 => ?_) (fun h113 => ?_)
              · replace h113 : (z111 : Int) ≥ 0 := h113
                refine e_Ok.run (t' := (93, [(3, (0, z111)), (2, (0, z25)), (0, (1, 1)), (1, (0, y1))], [(1, 1)], v1)) 1 rfl ?_
                refine e_Ok.getr (z := cd) rfl (el_o rfl) rfl rfl ((j12 1 3 (by unfold kRf; omega)).trans hc) (by omega) ?_
                refine e_Ok.run (t' := (100, [(3, (0, z111)), (2, (0, z25)), (0, (1, 1)), (1, (0, y1))], [(0, 31), (0, z111), (0, y1), (1, cd)], v1)) 3 rfl ?_
                refine e_Ok.mmin rfl rfl (fun z114 hz114 => ?_)
                replace hz114 : (31 < z111 ∧ z114 = 31) ∨ (z111 ≤ 31 ∧ z114 = z111) := hz114
                refine e_Ok.callV rfl (by omega) rfl (lD0 hcd) rfl rfl (c_22 j13 hcd (by omega) (by have g := e_Has.get j13 (c := cd) (k := 0) (lo := 0) (hi := 4000) (kD_0 hcd) (by decide); omega)) (fun r115 w116 h117 => ?_)
                obtain ⟨rfl, q118f, q118T, q118x⟩ := h117
                have q118H : e_Has kRy w116 := H_fr q118f (fun c k g => by unfold kPa at g; omega) j14
                have q118k : tkR w116 := j15.fr q118f (fun k g => by unfold kPa; omega)
                have f119 : e_fr (kRf cd) w w116 := e_fr.trans j12 (e_fr.mono q118f (fun c k q => by unfold kPa at q; unfold kRf; omega))
                have l120 : w116 1 14 = w 1 14 := f119 1 14 (by unfold kRf; omega)
                have l121 : w116 cd 0 = w cd 0 := f119 cd 0 (by unfold kRf; omega)
                have y122 : nF w116 → nF w ∧ fR w w116 cd (y1 + 1) n14 := fun n => by have g := j16 ⟨by rw [← (fr_p q118f hcd).1]; exact n.1, by rw [← (fr_p q118f hcd).2.1]; exact n.2⟩; exact ⟨g.1, g.2.pat (by unfold isCl; omega) q118x (by have g2 : v1 cd 0 = w cd 0 := ((j12 cd 0 (by unfold kRf; omega)).trans rfl); omega) (by omega)⟩
                show e_Ok 20 elay kcode eI (d + 1) 138 (106, [(3, (0, z111)), (2, (0, z25)), (0, (1, 1)), (1, (0, y1))], [], w116) _
                refine e_Ok.inc (z := y1 + 1) rfl rfl (by omega) (by omega) ?_
                show e_Ok 20 elay kcode eI (d + 1) 138 (109, [(1, (0, y1 + 1)), (3, (0, z111)), (2, (0, z25)), (0, (1, 1))], [], w116) _
                refine e_Ok.run (t' := (18, [(1, (0, y1 + 1)), (3, (0, z111)), (2, (0, z25)), (0, (1, 1))], [], w116)) 1 rfl ?_
                refine e_Ok.sub kAlk (e_sub_of rfl ?_) (ih11 (y1 + 1) w116 ⟨f119, q118T, q118H, q118k, y122, (by omega), ((q118f cd 1 (by unfold kPa; omega)).trans j18)⟩ (by omega))
                exact ⟨rfl, rfl, trivial⟩
              · replace h113 : (z111 : Int) < 0 := by have q : ¬ ((z111 : Int) ≥ 0) := h113; omega
                refine e_Ok.run (t' := (79, [(3, (0, z111)), (2, (0, z25)), (0, (1, 1)), (1, (0, y1))], [(1, 1), (0, 5), (1, 1)], v1)) 3 rfl ?_
                refine e_Ok.getr (z := cd) rfl (el_o rfl) rfl rfl ((j12 1 3 (by unfold kRf; omega)).trans hc) (by omega) ?_
                refine e_Ok.run (t' := (83, [(3, (0, z111)), (2, (0, z25)), (0, (1, 1)), (1, (0, y1))], [(0, y1), (1, cd), (0, 5), (1, 1)], v1)) 1 rfl ?_
                refine e_Ok.callV rfl (by omega) rfl (lD0 hcd) rfl rfl (c_24_r j13 hcd (by omega)) (fun r123 w124 h125 => ?_)
                obtain ⟨z126, rfl, rfl, q127r, q127⟩ := h125
                show e_Ok 20 elay kcode eI (d + 1) 138 (86, [(3, (0, z111)), (2, (0, z25)), (0, (1, 1)), (1, (0, y1))], [(0, z126), (0, 5), (1, 1)], v1) _
                refine e_Ok.callV rfl (by omega) rfl rfl rfl rfl (c_133 j13 j14 j15 (by omega) (by omega)) (fun r128 w129 h130 => ?_)
                obtain ⟨rfl, q131f, q131T, q131H, q131k, q131n⟩ := h130
                have f132 : e_fr (kRf cd) w w129 := e_fr.trans j12 (e_fr.mono q131f (fun c k q => by unfold kRc at q; unfold kRf; omega))
                have l133 : w129 1 14 = w 1 14 := f132 1 14 (by unfold kRf; omega)
                have l134 : w129 cd 0 = w cd 0 := f132 cd 0 (by unfold kRf; omega)
                have y135 : nF w129 → nF w ∧ fR w w129 cd (y1 + 1) n14 := fun n => absurd n q131n
                show e_Ok 20 elay kcode eI (d + 1) 138 (89, [(3, (0, z111)), (2, (0, z25)), (0, (1, 1)), (1, (0, y1))], [], w129) _
                refine e_Ok.run (t' := (106, [(3, (0, z111)), (2, (0, z25)), (0, (1, 1)), (1, (0, y1))], [], w129)) 1 rfl ?_
                refine e_Ok.inc (z := y1 + 1) rfl rfl (by omega) (by omega) ?_
                show e_Ok 20 elay kcode eI (d + 1) 138 (109, [(1, (0, y1 + 1)), (3, (0, z111)), (2, (0, z25)), (0, (1, 1))], [], w129) _
                refine e_Ok.run (t' := (18, [(1, (0, y1 + 1)), (3, (0, z111)), (2, (0, z25)), (0, (1, 1))], [], w129)) 1 rfl ?_
                refine e_Ok.sub kAlk (e_sub_of rfl ?_) (ih11 (y1 + 1) w129 ⟨f132, q131T, q131H, q131k, y135, (by omega), ((q131f cd 1 (by unfold kRc; omega)).trans j18)⟩ (by omega))
                exact ⟨rfl, rfl, trivial⟩
            · replace h101 : (z25 : Int) ≠ 39 := by have q : ¬ ((z25 : Int) = 39) := h101; omega
              refine e_Ok.run (t' := (106, [(2, (0, z25)), (0, (1, 1)), (1, (0, y1))], [], v1)) 1 rfl ?_
              refine e_Ok.inc (z := y1 + 1) rfl rfl (by omega) (by omega) ?_
              show e_Ok 20 elay kcode eI (d + 1) 138 (109, [(1, (0, y1 + 1)), (2, (0, z25)), (0, (1, 1))], [], v1) _
              refine e_Ok.run (t' := (18, [(1, (0, y1 + 1)), (2, (0, z25)), (0, (1, 1))], [], v1)) 1 rfl ?_
              refine e_Ok.sub kAlk (e_sub_of rfl ?_) (ih11 (y1 + 1) v1 ⟨j12, j13, j14, j15, (fun n => ⟨(j16 n).1, (j16 n).2.skip (by unfold isCl; omega)⟩), (by omega), j18⟩ (by omega))
              exact ⟨rfl, rfl, trivial⟩
  refine e_Ok.sub kAlk (e_sub_of rfl ?_) (hL10 (4001 + 1 : Int).toNat 0 w3 ⟨f4, hT7, hH8, t9, y0, (by omega), (by rw [hn14]; exact (by rw [← hw3]; exact e_up_eq _ _ _ _))⟩ (by omega))
  exact ⟨rfl, rfl, trivial⟩
theorem c_20 {d : Nat} {w : eW} (hT : e_Has kTy w) {cd : Int} (hcd : isCd cd) : e_Ok 20 elay kcode eI d 20 (0, [(0, (1, cd))], [], w) (fun r w' => r = [] ∧ e_fr (kCl0 cd) w w' ∧ e_Has kTy w' ∧ (w' cd 0 = 0 ∧ w' cd 1 = 0 ∧ w' cd 2 = 0)) := by
  have hcd2 := hcd; unfold isCd at hcd2
  have hcd3 : 2 ≤ cd ∧ cd ≤ 145 := by omega
  refine e_Ok.run (t' := (2, [(0, (1, cd))], [(0, 0), (1, cd)], w)) 2 rfl ?_
  refine e_Ok.putf rfl (lD0 hcd) rfl rfl ?_
  generalize hw1 : e_up w cd 0 0 = w1
  have f2 : e_fr (kCl0 cd) w w1 := e_fr.up (e_fr.refl w) hw1 (by unfold kCl0; omega)
  have hT3 : e_Has kTy w1 := e_Has.upr hT hw1 (kD_0 hcd) (by omega)
  refine e_Ok.run (t' := (7, [(0, (1, cd))], [(0, 0), (1, cd)], w1)) 2 rfl ?_
  refine e_Ok.putf rfl (lD0 hcd) rfl rfl ?_
  generalize hw4 : e_up w1 cd 1 0 = w4
  have f5 : e_fr (kCl0 cd) w w4 := e_fr.up f2 hw4 (by unfold kCl0; omega)
  have hT6 : e_Has kTy w4 := e_Has.upr hT3 hw4 (kD_1 hcd) (by omega)
  refine e_Ok.run (t' := (12, [(0, (1, cd))], [(0, 0), (1, cd)], w4)) 2 rfl ?_
  refine e_Ok.putf rfl (lD0 hcd) rfl rfl ?_
  generalize hw7 : e_up w4 cd 2 0 = w7
  have f8 : e_fr (kCl0 cd) w w7 := e_fr.up f5 hw7 (by unfold kCl0; omega)
  have hT9 : e_Has kTy w7 := e_Has.upr hT6 hw7 (kD_2 hcd) (by omega)
  refine e_Ok.rets rfl rfl ?_
  exact ⟨rfl, f8, hT9, ⟨(by rw [← hw7]; exact (e_up_ne _ _ (Or.inr (by omega))).trans (by rw [← hw4]; exact (e_up_ne _ _ (Or.inr (by omega))).trans (by rw [← hw1]; exact e_up_eq _ _ _ _))), (by rw [← hw7]; exact (e_up_ne _ _ (Or.inr (by omega))).trans (by rw [← hw4]; exact e_up_eq _ _ _ _)), (by rw [← hw7]; exact e_up_eq _ _ _ _)⟩⟩
set_option maxHeartbeats 4000000 in
theorem c_119 {d : Nat} (hd : 449 ≤ d) {w : eW} (hT : e_Has kTy w) (hH : e_Has kRy w) {cd : Int} (hc : w 1 3 = cd) (hcd : isCd cd) : e_Ok 20 elay kcode eI d 119 (0, [(0, (1, 1))], [], w) (fun r w' => r = [] ∧ e_fr (kRr cd) w w' ∧ e_Has kTy w' ∧ e_Has kRy w' ∧ w' 1 3 = cd ∧ (w' 1 1 = 0 → codK w' cd)) := by
  obtain ⟨d, rfl⟩ : ∃ e, d = e + 1 := ⟨d - 1, by omega⟩
  have hcd2 := hcd; unfold isCd at hcd2
  have hcd3 : 2 ≤ cd ∧ cd ≤ 145 := by omega
  have p0 := e_Has.get hH (c := 1) (k := 0) (lo := 0) (hi := 4000) rfl (by decide)
  have p6 := e_Has.get hH (c := 1) (k := 6) (lo := 0) (hi := 4000) rfl (by decide)
  have p7 := e_Has.get hH (c := 1) (k := 7) (lo := 0) (hi := 4000) rfl (by decide)
  have p1 := e_Has.get hH (c := 1) (k := 1) (lo := (-2147483648)) (hi := 2147483647) rfl (by decide)
  have p5 := e_Has.get hH (c := 1) (k := 5) (lo := 0) (hi := 53) rfl (by decide)
  have p6 := e_Has.get hH (c := 1) (k := 6) (lo := 0) (hi := 4000) rfl (by decide)
  have p9 := e_Has.get hH (c := 1) (k := 9) (lo := (-2147483648)) (hi := 2147483647) rfl (by decide)
  refine e_Ok.run (t' := (2, [(0, (1, 1))], [(0, 0), (1, 1)], w)) 2 rfl ?_
  refine e_Ok.putf rfl (el_o rfl) rfl rfl ?_
  generalize hw1 : e_up w 1 1 0 = w1
  have f2 : e_fr (kRr cd) w w1 := e_fr.up (e_fr.refl w) hw1 (by unfold kRr; omega)
  have hT3 : e_Has kTy w1 := e_Has.ups hT hw1 rfl
  have hH4 : e_Has kRy w1 := e_Has.upr hH hw1 rfl (by omega)
  refine e_Ok.run (t' := (7, [(0, (1, 1))], [(0, (-1)), (1, 1)], w1)) 2 rfl ?_
  refine e_Ok.putf rfl (el_o rfl) rfl rfl ?_
  generalize hw5 : e_up w1 1 2 (-1) = w5
  have f6 : e_fr (kRr cd) w w5 := e_fr.up f2 hw5 (by unfold kRr; omega)
  have hT7 : e_Has kTy w5 := e_Has.ups hT3 hw5 rfl
  have hH8 : e_Has kRy w5 := e_Has.upr hH4 hw5 rfl (by omega)
  refine e_Ok.run (t' := (12, [(0, (1, 1))], [(0, 0), (1, 1)], w5)) 2 rfl ?_
  refine e_Ok.putf rfl (el_o rfl) rfl rfl ?_
  generalize hw9 : e_up w5 1 9 0 = w9
  have f10 : e_fr (kRr cd) w w9 := e_fr.up f6 hw9 (by unfold kRr; omega)
  have hT11 : e_Has kTy w9 := e_Has.ups hT7 hw9 rfl
  have hH12 : e_Has kRy w9 := e_Has.upr hH8 hw9 rfl (by omega)
  refine e_Ok.run (t' := (17, [(0, (1, 1))], [(0, 0), (1, 1)], w9)) 2 rfl ?_
  refine e_Ok.putf rfl (el_o rfl) rfl rfl ?_
  generalize hw13 : e_up w9 1 11 0 = w13
  have f14 : e_fr (kRr cd) w w13 := e_fr.up f10 hw13 (by unfold kRr; omega)
  have hT15 : e_Has kTy w13 := e_Has.ups hT11 hw13 rfl
  have hH16 : e_Has kRy w13 := e_Has.upr hH12 hw13 rfl (by omega)
  refine e_Ok.run (t' := (22, [(0, (1, 1))], [(0, 0), (1, 1)], w13)) 2 rfl ?_
  refine e_Ok.putf rfl (el_o rfl) rfl rfl ?_
  generalize hw17 : e_up w13 1 14 0 = w17
  have f18 : e_fr (kRr cd) w w17 := e_fr.up f14 hw17 (by unfold kRr; omega)
  have hT19 : e_Has kTy w17 := e_Has.ups hT15 hw17 rfl
  have hH20 : e_Has kRy w17 := e_Has.upr hH16 hw17 rfl (by omega)
  refine e_Ok.run (t' := (27, [(0, (1, 1))], [(0, 0), (1, 1)], w17)) 2 rfl ?_
  refine e_Ok.putf rfl (el_o rfl) rfl rfl ?_
  generalize hw21 : e_up w17 1 7 0 = w21
  have f22 : e_fr (kRr cd) w w21 := e_fr.up f18 hw21 (by unfold kRr; omega)
  have hT23 : e_Has kTy w21 := e_Has.ups hT19 hw21 rfl
  have hH24 : e_Has kRy w21 := e_Has.upr hH20 hw21 rfl (by omega)
  refine e_Ok.run (t' := (31, [(0, (1, 1))], [(1, 1)], w21)) 1 rfl ?_
  refine e_Ok.getr (z := cd) rfl (el_o rfl) rfl rfl (by rw [← hw21]; exact (e_up_ne _ _ (Or.inr (by omega))).trans (by rw [← hw17]; exact (e_up_ne _ _ (Or.inr (by omega))).trans (by rw [← hw13]; exact (e_up_ne _ _ (Or.inr (by omega))).trans (by rw [← hw9]; exact (e_up_ne _ _ (Or.inr (by omega))).trans (by rw [← hw5]; exact (e_up_ne _ _ (Or.inr (by omega))).trans (by rw [← hw1]; exact (e_up_ne _ _ (Or.inr (by omega))).trans hc)))))) (by omega) ?_
  refine e_Ok.callV rfl (by omega) rfl (lD0 hcd) rfl rfl (c_20 hT23 hcd) (fun r25 w26 h27 => ?_)
  obtain ⟨rfl, q28f, q28T, q280, q281, q282⟩ := h27
  have q28H : e_Has kRy w26 := H_fr q28f (fun c k g => by unfold kCl0 at g; omega) hH24
  have f29 : e_fr (kRr cd) w w26 := e_fr.trans f22 (e_fr.mono q28f (fun c k q => by unfold kCl0 at q; unfold kRr; omega))
  show e_Ok 20 elay kcode eI (d + 1) 119 (37, [(0, (1, 1))], [], w26) _
  refine e_Ok.run (t' := (38, [(0, (1, 1))], [(1, 1)], w26)) 1 rfl ?_
  have a7 : w26 1 7 = 0 := ((q28f 1 7 (by unfold kCl0; omega)).trans (by rw [← hw21]; exact e_up_eq _ _ _ _))
  have a0 : w26 1 0 = w 1 0 := ((q28f 1 0 (by unfold kCl0; omega)).trans (by rw [← hw21]; exact (e_up_ne _ _ (Or.inr (by omega))).trans (by rw [← hw17]; exact (e_up_ne _ _ (Or.inr (by omega))).trans (by rw [← hw13]; exact (e_up_ne _ _ (Or.inr (by omega))).trans (by rw [← hw9]; exact (e_up_ne _ _ (Or.inr (by omega))).trans (by rw [← hw5]; exact (e_up_ne _ _ (Or.inr (by omega))).trans (by rw [← hw1]; exact (e_up_ne _ _ (Or.inr (by omega))).trans rfl)))))))
  refine e_Ok.callV rfl (by omega) rfl rfl rfl rfl (c_123 (by omega) q28T q28H (by omega)) (fun r30 w31 h32 => ?_)
  obtain ⟨rfl, q33f, q33T, q33H, q33k, q33x, q334⟩ := h32
  have f34 : e_fr (kRr cd) w w31 := e_fr.trans f29 (e_fr.mono q33f (fun c k q => by unfold kRa at q; unfold kRr; omega))
  show e_Ok 20 elay kcode eI (d + 1) 119 (41, [(0, (1, 1))], [], w31) _
  refine e_Ok.run (t' := (43, [(1, (0, 0)), (0, (1, 1))], [], w31)) 2 rfl ?_
  have hL35 : ∀ (nn : Nat) (y1 : Int) (v1 : eW), e_fr (kRr cd) w v1 ∧ e_Has kTy v1 ∧ e_Has kRy v1 ∧ tkR v1 ∧ v1 cd 0 = 0 ∧ v1 1 14 = 0 ∧ v1 1 11 = 0 ∧ ((0 ≤ y1 ∧ y1 ≤ 4000)) → 4001 - y1 < nn → e_Ok 20 elay kcode eI (d + 1) 119 (43, [(0, (1, 1)), (1, (0, y1))], [], v1) (fun r w' => r = [] ∧ e_fr (kRr cd) w w' ∧ e_Has kTy w' ∧ e_Has kRy w' ∧ w' 1 3 = cd ∧ (w' 1 1 = 0 → codK w' cd)) := by
    intro nn
    induction nn with
    | zero => intro y1 v1 hj hm; obtain ⟨j37, j38, j40, j41, j42, j43, j44, j45⟩ := hj; exfalso; omega
    | succ nn ih36 =>
      intro y1 v1 hj hm
      obtain ⟨j37, j38, j40, j41, j42, j43, j44, j45⟩ := hj
      refine e_Ok.run (t' := (47, [(0, (1, 1)), (1, (0, y1))], [(0, 4000), (0, y1)], v1)) 2 rfl ?_
      refine e_Ok.if2 rfl (fun h46 => ?_) (fun h46 => ?_)
      · replace h46 : (y1 : Int) ≥ 4000 := h46
        refine e_Ok.run (t' := (71, [(1, (0, 0)), (0, (1, 1))], [], v1)) 2 rfl ?_
        have hL47 : ∀ (nn : Nat) (x1 : Int) (v2 : eW), e_fr (kRr cd) w v2 ∧ e_Has kTy v2 ∧ e_Has kRy v2 ∧ tkR v2 ∧ v2 1 11 = 0 ∧ rtJ v2 cd ∧ ((0 ≤ x1 ∧ x1 ≤ 4000)) → 4001 - x1 < nn → e_Ok 20 elay kcode eI (d + 1) 119 (71, [(0, (1, 1)), (1, (0, x1))], [], v2) (fun r w' => r = [] ∧ e_fr (kRr cd) w w' ∧ e_Has kTy w' ∧ e_Has kRy w' ∧ w' 1 3 = cd ∧ (w' 1 1 = 0 → codK w' cd)) := by
          intro nn
          induction nn with
          | zero => intro x1 v2 hj hm; obtain ⟨j49, j50, j51, j52, j53, j54, j55⟩ := hj; exfalso; omega
          | succ nn ih48 =>
            intro x1 v2 hj hm
            obtain ⟨j49, j50, j51, j52, j53, j54, j55⟩ := hj
            refine e_Ok.run (t' := (75, [(0, (1, 1)), (1, (0, x1))], [(0, 4000), (0, x1)], v2)) 2 rfl ?_
            refine e_Ok.if2 rfl (fun h56 => ?_) (fun h56 => ?_)
            · replace h56 : (x1 : Int) ≥ 4000 := h56
              refine e_Ok.run (t' := (98, [(0, (1, 1)), (1, (0, x1))], [(1, 1)], v2)) 1 rfl ?_
              have h57 := (e_Has.get j51 (c := 1) (k := 5) (lo := 0) (hi := 53) rfl (by decide))
              refine e_Ok.getf (z := v2 1 5) rfl (el_o rfl) rfl rfl rfl (by omega) ?_
              refine e_Ok.if1 rfl (fun h58 => ?_) (fun h58 => ?_)
              · replace h58 : (v2 1 5 : Int) = 0 := h58
                refine e_Ok.run (t' := (109, [(0, (1, 1)), (1, (0, x1))], [(1, 1)], v2)) 1 rfl ?_
                have h59 := (e_Has.get j51 (c := 1) (k := 1) (lo := (-2147483648)) (hi := 2147483647) rfl (by decide))
                refine e_Ok.getf (z := v2 1 1) rfl (el_o rfl) rfl rfl rfl (by omega) ?_
                refine e_Ok.if1 rfl (fun h60 => ?_) (fun h60 => ?_)
                · replace h60 : (v2 1 1 : Int) = 0 := h60
                  refine e_Ok.run (t' := (117, [(0, (1, 1)), (1, (0, x1))], [(1, 1)], v2)) 1 rfl ?_
                  refine e_Ok.callV rfl (by omega) rfl rfl rfl rfl (c_138 (by omega) ⟨j50, j51, ((j49 1 3 (by unfold kRr; omega)).trans hc), hcd, j52⟩) (fun r61 w62 h63 => ?_)
                  obtain ⟨rfl, q64f, ⟨q64T, q64H, q64c, -, q64k⟩, q64n, q64r, q641, q64x⟩ := h63
                  have f65 : e_fr (kRr cd) w w62 := e_fr.trans j49 (e_fr.mono q64f (fun c k q => by unfold kRf at q; unfold kRr; omega))
                  have f1 : v2 1 1 = v2 1 1 := rfl
                  show e_Ok 20 elay kcode eI (d + 1) 119 (120, [(0, (1, 1)), (1, (0, x1))], [], w62) _
                  refine e_Ok.run (t' := (122, [(0, (1, 1)), (1, (0, x1))], [(1, 1), (1, 1)], w62)) 2 rfl ?_
                  have h66 := (e_Has.get q64H (c := 1) (k := 9) (lo := (-2147483648)) (hi := 2147483647) rfl (by decide))
                  refine e_Ok.getf (z := w62 1 9) rfl (el_o rfl) rfl rfl rfl (by omega) ?_
                  refine e_Ok.putf rfl (el_o rfl) rfl rfl ?_
                  generalize hw67 : e_up w62 1 1 (w62 1 9) = w67
                  have f68 : e_fr (kRr cd) w w67 := e_fr.up f65 hw67 (by unfold kRr; omega)
                  have hT69 : e_Has kTy w67 := e_Has.ups q64T hw67 rfl
                  have hH70 : e_Has kRy w67 := e_Has.upr q64H hw67 rfl (by omega)
                  refine e_Ok.run (t' := (129, [(0, (1, 1)), (1, (0, x1))], [(1, 1)], w67)) 1 rfl ?_
                  refine e_Ok.getf (z := w62 1 9) rfl (el_o rfl) rfl rfl (by rw [← hw67]; exact (e_up_ne _ _ (Or.inr (by omega))).trans rfl) (by omega) ?_
                  refine e_Ok.if1 rfl (fun h71 => ?_) (fun h71 => ?_)
                  · replace h71 : (w62 1 9 : Int) = 0 := h71
                    refine e_Ok.rets rfl rfl ?_
                    have g1 : w67 1 1 = w62 1 9 := (by rw [← hw67]; exact e_up_eq _ _ _ _)
                    have f0 : w62 1 1 = v2 1 1 := q64f 1 1 (by unfold kRf; omega)
                    exact ⟨rfl, f68, hT69, hH70, (by rw [← hw67]; exact (e_up_ne _ _ (Or.inr (by omega))).trans ((q64f 1 3 (by unfold kRf; omega)).trans ((j49 1 3 (by unfold kRr; omega)).trans hc))), fun h => by
                        have nw : nF w62 := ⟨by omega, by omega⟩
                        have fx := q64x nw
                        have cK : codK w62 cd := rtJ.fin j54 hcd ((e_Has.get j50 (c := cd) (k := 0) (lo := 0) (hi := 4000) (kD_0 hcd) (by decide)).1) (e_Has.get j51 (c := 1) (k := 6) (lo := 0) (hi := 4000) rfl (by decide)).2 fx.1 (q64f _ _ (by unfold kRf; omega)) fx.2 q64r q641 (fun k => q64f _ _ (by unfold kRf; omega))
                        exact cK.eq (fun c k g => by rw [← hw67, e_up_ne _ _ (by omega)])⟩
                  · replace h71 : (w62 1 9 : Int) ≠ 0 := by have q : ¬ ((w62 1 9 : Int) = 0) := h71; omega
                    refine e_Ok.run (t' := (137, [(0, (1, 1)), (1, (0, x1))], [(1, 1), (1, 1)], w67)) 2 rfl ?_
                    have h72 := (e_Has.get q64H (c := 1) (k := 10) (lo := (-2147483648)) (hi := 2147483647) rfl (by decide))
                    refine e_Ok.getf (z := w62 1 10) rfl (el_o rfl) rfl rfl (by rw [← hw67]; exact (e_up_ne _ _ (Or.inr (by omega))).trans rfl) (by omega) ?_
                    refine e_Ok.putf rfl (el_o rfl) rfl rfl ?_
                    generalize hw73 : e_up w67 1 2 (w62 1 10) = w73
                    have f74 : e_fr (kRr cd) w w73 := e_fr.up f68 hw73 (by unfold kRr; omega)
                    have hT75 : e_Has kTy w73 := e_Has.ups hT69 hw73 rfl
                    have hH76 : e_Has kRy w73 := e_Has.upr hH70 hw73 rfl (by omega)
                    refine e_Ok.rets rfl rfl ?_
                    have g1 : w73 1 1 = w62 1 9 := (by rw [← hw73]; exact (e_up_ne _ _ (Or.inr (by omega))).trans (by rw [← hw67]; exact e_up_eq _ _ _ _))
                    have f0 : w62 1 1 = v2 1 1 := q64f 1 1 (by unfold kRf; omega)
                    exact ⟨rfl, f74, hT75, hH76, (by rw [← hw73]; exact (e_up_ne _ _ (Or.inr (by omega))).trans (by rw [← hw67]; exact (e_up_ne _ _ (Or.inr (by omega))).trans ((q64f 1 3 (by unfold kRf; omega)).trans ((j49 1 3 (by unfold kRr; omega)).trans hc)))), fun h => by
                        have nw : nF w62 := ⟨by omega, by omega⟩
                        have fx := q64x nw
                        have cK : codK w62 cd := rtJ.fin j54 hcd ((e_Has.get j50 (c := cd) (k := 0) (lo := 0) (hi := 4000) (kD_0 hcd) (by decide)).1) (e_Has.get j51 (c := 1) (k := 6) (lo := 0) (hi := 4000) rfl (by decide)).2 fx.1 (q64f _ _ (by unfold kRf; omega)) fx.2 q64r q641 (fun k => q64f _ _ (by unfold kRf; omega))
                        exact cK.eq (fun c k g => by rw [← hw73, e_up_ne _ _ (by omega), ← hw67, e_up_ne _ _ (by omega)])⟩
                · replace h60 : (v2 1 1 : Int) ≠ 0 := by have q : ¬ ((v2 1 1 : Int) = 0) := h60; omega
                  refine e_Ok.rets rfl rfl ?_
                  have g1 : v2 1 1 = v2 1 1 := rfl
                  exact ⟨rfl, j49, j50, j51, ((j49 1 3 (by unfold kRr; omega)).trans hc), fun h => by omega⟩
              · replace h58 : (v2 1 5 : Int) ≠ 0 := by have q : ¬ ((v2 1 5 : Int) = 0) := h58; omega
                refine e_Ok.run (t' := (105, [(0, (1, 1)), (1, (0, x1))], [(1, 1)], v2)) 1 rfl ?_
                refine e_Ok.callV rfl (by omega) rfl rfl rfl rfl (c_130 (by omega) j50 j51 j52) (fun r77 w78 h79 => ?_)
                obtain ⟨rfl, q80f, q80T, q80H, q80k, q80n, q805⟩ := h79
                have f81 : e_fr (kRr cd) w w78 := e_fr.trans j49 (e_fr.mono q80f (fun c k q => by unfold kRk at q; unfold kRr; omega))
                show e_Ok 20 elay kcode eI (d + 1) 119 (108, [(0, (1, 1)), (1, (0, x1))], [], w78) _
                refine e_Ok.run (t' := (109, [(0, (1, 1)), (1, (0, x1))], [(1, 1)], w78)) 1 rfl ?_
                have h82 := (e_Has.get q80H (c := 1) (k := 1) (lo := (-2147483648)) (hi := 2147483647) rfl (by decide))
                refine e_Ok.getf (z := w78 1 1) rfl (el_o rfl) rfl rfl rfl (by omega) ?_
                refine e_Ok.if1 rfl (fun h83 => ?_) (fun h83 => ?_)
                · replace h83 : (w78 1 1 : Int) = 0 := h83
                  refine e_Ok.run (t' := (117, [(0, (1, 1)), (1, (0, x1))], [(1, 1)], w78)) 1 rfl ?_
                  refine e_Ok.callV rfl (by omega) rfl rfl rfl rfl (c_138 (by omega) ⟨q80T, q80H, ((q80f 1 3 (by unfold kRk; omega)).trans ((j49 1 3 (by unfold kRr; omega)).trans hc)), hcd, q80k⟩) (fun r84 w85 h86 => ?_)
                  obtain ⟨rfl, q87f, ⟨q87T, q87H, q87c, -, q87k⟩, q87n, q87r, q871, q87x⟩ := h86
                  have f88 : e_fr (kRr cd) w w85 := e_fr.trans f81 (e_fr.mono q87f (fun c k q => by unfold kRf at q; unfold kRr; omega))
                  have f1 : w78 1 1 = w78 1 1 := rfl
                  show e_Ok 20 elay kcode eI (d + 1) 119 (120, [(0, (1, 1)), (1, (0, x1))], [], w85) _
                  refine e_Ok.run (t' := (122, [(0, (1, 1)), (1, (0, x1))], [(1, 1), (1, 1)], w85)) 2 rfl ?_
                  have h89 := (e_Has.get q87H (c := 1) (k := 9) (lo := (-2147483648)) (hi := 2147483647) rfl (by decide))
                  refine e_Ok.getf (z := w85 1 9) rfl (el_o rfl) rfl rfl rfl (by omega) ?_
                  refine e_Ok.putf rfl (el_o rfl) rfl rfl ?_
                  generalize hw90 : e_up w85 1 1 (w85 1 9) = w90
                  have f91 : e_fr (kRr cd) w w90 := e_fr.up f88 hw90 (by unfold kRr; omega)
                  have hT92 : e_Has kTy w90 := e_Has.ups q87T hw90 rfl
                  have hH93 : e_Has kRy w90 := e_Has.upr q87H hw90 rfl (by omega)
                  refine e_Ok.run (t' := (129, [(0, (1, 1)), (1, (0, x1))], [(1, 1)], w90)) 1 rfl ?_
                  refine e_Ok.getf (z := w85 1 9) rfl (el_o rfl) rfl rfl (by rw [← hw90]; exact (e_up_ne _ _ (Or.inr (by omega))).trans rfl) (by omega) ?_
                  refine e_Ok.if1 rfl (fun h94 => ?_) (fun h94 => ?_)
                  · replace h94 : (w85 1 9 : Int) = 0 := h94
                    refine e_Ok.rets rfl rfl ?_
                    have g1 : w90 1 1 = w85 1 9 := (by rw [← hw90]; exact e_up_eq _ _ _ _)
                    have f0 : w85 1 1 = w78 1 1 := q87f 1 1 (by unfold kRf; omega)
                    exact ⟨rfl, f91, hT92, hH93, (by rw [← hw90]; exact (e_up_ne _ _ (Or.inr (by omega))).trans ((q87f 1 3 (by unfold kRf; omega)).trans ((q80f 1 3 (by unfold kRk; omega)).trans ((j49 1 3 (by unfold kRr; omega)).trans hc)))), fun h => by
                        have nw : nF w85 := ⟨by omega, by omega⟩
                        have fx := q87x nw
                        have cK : codK w85 cd := rtJ.fin (fun n => absurd n q80n) hcd ((e_Has.get q80T (c := cd) (k := 0) (lo := 0) (hi := 4000) (kD_0 hcd) (by decide)).1) (e_Has.get q80H (c := 1) (k := 6) (lo := 0) (hi := 4000) rfl (by decide)).2 fx.1 (q87f _ _ (by unfold kRf; omega)) fx.2 q87r q871 (fun k => q87f _ _ (by unfold kRf; omega))
                        exact cK.eq (fun c k g => by rw [← hw90, e_up_ne _ _ (by omega)])⟩
                  · replace h94 : (w85 1 9 : Int) ≠ 0 := by have q : ¬ ((w85 1 9 : Int) = 0) := h94; omega
                    refine e_Ok.run (t' := (137, [(0, (1, 1)), (1, (0, x1))], [(1, 1), (1, 1)], w90)) 2 rfl ?_
                    have h95 := (e_Has.get q87H (c := 1) (k := 10) (lo := (-2147483648)) (hi := 2147483647) rfl (by decide))
                    refine e_Ok.getf (z := w85 1 10) rfl (el_o rfl) rfl rfl (by rw [← hw90]; exact (e_up_ne _ _ (Or.inr (by omega))).trans rfl) (by omega) ?_
                    refine e_Ok.putf rfl (el_o rfl) rfl rfl ?_
                    generalize hw101 : e_up w90 1 2 (w85 1 10) = w101
                    have f103 : e_fr (kRr cd) w w101 := e_fr.up f91 hw101 (by unfold kRr; omega)
                    have hT104 : e_Has kTy w101 := e_Has.ups hT92 hw101 rfl
                    have hH105 : e_Has kRy w101 := e_Has.upr hH93 hw101 rfl (by omega)
                    refine e_Ok.rets rfl rfl ?_
                    have g1 : w101 1 1 = w85 1 9 := (by rw [← hw101]; exact (e_up_ne _ _ (Or.inr (by omega))).trans (by rw [← hw90]; exact e_up_eq _ _ _ _))
                    have f0 : w85 1 1 = w78 1 1 := q87f 1 1 (by unfold kRf; omega)
                    exact ⟨rfl, f103, hT104, hH105, (by rw [← hw101]; exact (e_up_ne _ _ (Or.inr (by omega))).trans (by rw [← hw90]; exact (e_up_ne _ _ (Or.inr (by omega))).trans ((q87f 1 3 (by unfold kRf; omega)).trans ((q80f 1 3 (by unfold kRk; omega)).trans ((j49 1 3 (by unfold kRr; omega)).trans hc))))), fun h => by
                        have nw : nF w85 := ⟨by omega, by omega⟩
                        have fx := q87x nw
                        have cK : codK w85 cd := rtJ.fin (fun n => absurd n q80n) hcd ((e_Has.get q80T (c := cd) (k := 0) (lo := 0) (hi := 4000) (kD_0 hcd) (by decide)).1) (e_Has.get q80H (c := 1) (k := 6) (lo := 0) (hi := 4000) rfl (by decide)).2 fx.1 (q87f _ _ (by unfold kRf; omega)) fx.2 q87r q871 (fun k => q87f _ _ (by unfold kRf; omega))
                        exact cK.eq (fun c k g => by rw [← hw101, e_up_ne _ _ (by omega), ← hw90, e_up_ne _ _ (by omega)])⟩
                · replace h83 : (w78 1 1 : Int) ≠ 0 := by have q : ¬ ((w78 1 1 : Int) = 0) := h83; omega
                  refine e_Ok.rets rfl rfl ?_
                  have g1 : w78 1 1 = w78 1 1 := rfl
                  exact ⟨rfl, f81, q80T, q80H, ((q80f 1 3 (by unfold kRk; omega)).trans ((j49 1 3 (by unfold kRr; omega)).trans hc)), fun h => by omega⟩
            · replace h56 : (x1 : Int) < 4000 := by have q : ¬ ((x1 : Int) ≥ 4000) := h56; omega
              refine e_Ok.run (t' := (79, [(0, (1, 1)), (1, (0, x1))], [(1, 1)], v2)) 1 rfl ?_
              have h106 := (e_Has.get j51 (c := 1) (k := 5) (lo := 0) (hi := 53) rfl (by decide))
              refine e_Ok.getf (z := v2 1 5) rfl (el_o rfl) rfl rfl rfl (by omega) ?_
              refine e_Ok.run (t' := (84, [(0, (1, 1)), (1, (0, x1))], [(0, 22), (0, v2 1 5)], v2)) 1 rfl ?_
              refine e_Ok.if2 rfl (fun h107 => ?_) (fun h107 => ?_)
              · replace h107 : (v2 1 5 : Int) ≠ 22 := h107
                refine e_Ok.run (t' := (98, [(0, (1, 1)), (1, (0, x1))], [(1, 1)], v2)) 1 rfl ?_
                refine e_Ok.getf (z := v2 1 5) rfl (el_o rfl) rfl rfl rfl (by omega) ?_
                refine e_Ok.if1 rfl (fun h108 => ?_) (fun h108 => ?_)
                · replace h108 : (v2 1 5 : Int) = 0 := h108
                  refine e_Ok.run (t' := (109, [(0, (1, 1)), (1, (0, x1))], [(1, 1)], v2)) 1 rfl ?_
                  have h109 := (e_Has.get j51 (c := 1) (k := 1) (lo := (-2147483648)) (hi := 2147483647) rfl (by decide))
                  refine e_Ok.getf (z := v2 1 1) rfl (el_o rfl) rfl rfl rfl (by omega) ?_
                  refine e_Ok.if1 rfl (fun h110 => ?_) (fun h110 => ?_)
                  · replace h110 : (v2 1 1 : Int) = 0 := h110
                    refine e_Ok.run (t' := (117, [(0, (1, 1)), (1, (0, x1))], [(1, 1)], v2)) 1 rfl ?_
                    refine e_Ok.callV rfl (by omega) rfl rfl rfl rfl (c_138 (by omega) ⟨j50, j51, ((j49 1 3 (by unfold kRr; omega)).trans hc), hcd, j52⟩) (fun r111 w112 h113 => ?_)
                    obtain ⟨rfl, q114f, ⟨q114T, q114H, q114c, -, q114k⟩, q114n, q114r, q1141, q114x⟩ := h113
                    have f115 : e_fr (kRr cd) w w112 := e_fr.trans j49 (e_fr.mono q114f (fun c k q => by unfold kRf at q; unfold kRr; omega))
                    have f1 : v2 1 1 = v2 1 1 := rfl
                    show e_Ok 20 elay kcode eI (d + 1) 119 (120, [(0, (1, 1)), (1, (0, x1))], [], w112) _
                    refine e_Ok.run (t' := (122, [(0, (1, 1)), (1, (0, x1))], [(1, 1), (1, 1)], w112)) 2 rfl ?_
                    have h116 := (e_Has.get q114H (c := 1) (k := 9) (lo := (-2147483648)) (hi := 2147483647) rfl (by decide))
                    refine e_Ok.getf (z := w112 1 9) rfl (el_o rfl) rfl rfl rfl (by omega) ?_
                    refine e_Ok.putf rfl (el_o rfl) rfl rfl ?_
                    generalize hw117 : e_up w112 1 1 (w112 1 9) = w117
                    have f118 : e_fr (kRr cd) w w117 := e_fr.up f115 hw117 (by unfold kRr; omega)
                    have hT119 : e_Has kTy w117 := e_Has.ups q114T hw117 rfl
                    have hH120 : e_Has kRy w117 := e_Has.upr q114H hw117 rfl (by omega)
                    refine e_Ok.run (t' := (129, [(0, (1, 1)), (1, (0, x1))], [(1, 1)], w117)) 1 rfl ?_
                    refine e_Ok.getf (z := w112 1 9) rfl (el_o rfl) rfl rfl (by rw [← hw117]; exact (e_up_ne _ _ (Or.inr (by omega))).trans rfl) (by omega) ?_
                    refine e_Ok.if1 rfl (fun h121 => ?_) (fun h121 => ?_)
                    · replace h121 : (w112 1 9 : Int) = 0 := h121
                      refine e_Ok.rets rfl rfl ?_
                      have g1 : w117 1 1 = w112 1 9 := (by rw [← hw117]; exact e_up_eq _ _ _ _)
                      have f0 : w112 1 1 = v2 1 1 := q114f 1 1 (by unfold kRf; omega)
                      exact ⟨rfl, f118, hT119, hH120, (by rw [← hw117]; exact (e_up_ne _ _ (Or.inr (by omega))).trans ((q114f 1 3 (by unfold kRf; omega)).trans ((j49 1 3 (by unfold kRr; omega)).trans hc))), fun h => by
                          have nw : nF w112 := ⟨by omega, by omega⟩
                          have fx := q114x nw
                          have cK : codK w112 cd := rtJ.fin j54 hcd ((e_Has.get j50 (c := cd) (k := 0) (lo := 0) (hi := 4000) (kD_0 hcd) (by decide)).1) (e_Has.get j51 (c := 1) (k := 6) (lo := 0) (hi := 4000) rfl (by decide)).2 fx.1 (q114f _ _ (by unfold kRf; omega)) fx.2 q114r q1141 (fun k => q114f _ _ (by unfold kRf; omega))
                          exact cK.eq (fun c k g => by rw [← hw117, e_up_ne _ _ (by omega)])⟩
                    · replace h121 : (w112 1 9 : Int) ≠ 0 := by have q : ¬ ((w112 1 9 : Int) = 0) := h121; omega
                      refine e_Ok.run (t' := (137, [(0, (1, 1)), (1, (0, x1))], [(1, 1), (1, 1)], w117)) 2 rfl ?_
                      have h122 := (e_Has.get q114H (c := 1) (k := 10) (lo := (-2147483648)) (hi := 2147483647) rfl (by decide))
                      refine e_Ok.getf (z := w112 1 10) rfl (el_o rfl) rfl rfl (by rw [← hw117]; exact (e_up_ne _ _ (Or.inr (by omega))).trans rfl) (by omega) ?_
                      refine e_Ok.putf rfl (el_o rfl) rfl rfl ?_
                      generalize hw123 : e_up w117 1 2 (w112 1 10) = w123
                      have f124 : e_fr (kRr cd) w w123 := e_fr.up f118 hw123 (by unfold kRr; omega)
                      have hT125 : e_Has kTy w123 := e_Has.ups hT119 hw123 rfl
                      have hH126 : e_Has kRy w123 := e_Has.upr hH120 hw123 rfl (by omega)
                      refine e_Ok.rets rfl rfl ?_
                      have g1 : w123 1 1 = w112 1 9 := (by rw [← hw123]; exact (e_up_ne _ _ (Or.inr (by omega))).trans (by rw [← hw117]; exact e_up_eq _ _ _ _))
                      have f0 : w112 1 1 = v2 1 1 := q114f 1 1 (by unfold kRf; omega)
                      exact ⟨rfl, f124, hT125, hH126, (by rw [← hw123]; exact (e_up_ne _ _ (Or.inr (by omega))).trans (by rw [← hw117]; exact (e_up_ne _ _ (Or.inr (by omega))).trans ((q114f 1 3 (by unfold kRf; omega)).trans ((j49 1 3 (by unfold kRr; omega)).trans hc)))), fun h => by
                          have nw : nF w112 := ⟨by omega, by omega⟩
                          have fx := q114x nw
                          have cK : codK w112 cd := rtJ.fin j54 hcd ((e_Has.get j50 (c := cd) (k := 0) (lo := 0) (hi := 4000) (kD_0 hcd) (by decide)).1) (e_Has.get j51 (c := 1) (k := 6) (lo := 0) (hi := 4000) rfl (by decide)).2 fx.1 (q114f _ _ (by unfold kRf; omega)) fx.2 q114r q1141 (fun k => q114f _ _ (by unfold kRf; omega))
                          exact cK.eq (fun c k g => by rw [← hw123, e_up_ne _ _ (by omega), ← hw117, e_up_ne _ _ (by omega)])⟩
                  · replace h110 : (v2 1 1 : Int) ≠ 0 := by have q : ¬ ((v2 1 1 : Int) = 0) := h110; omega
                    refine e_Ok.rets rfl rfl ?_
                    have g1 : v2 1 1 = v2 1 1 := rfl
                    exact ⟨rfl, j49, j50, j51, ((j49 1 3 (by unfold kRr; omega)).trans hc), fun h => by omega⟩
                · replace h108 : (v2 1 5 : Int) ≠ 0 := by have q : ¬ ((v2 1 5 : Int) = 0) := h108; omega
                  refine e_Ok.run (t' := (105, [(0, (1, 1)), (1, (0, x1))], [(1, 1)], v2)) 1 rfl ?_
                  refine e_Ok.callV rfl (by omega) rfl rfl rfl rfl (c_130 (by omega) j50 j51 j52) (fun r127 w128 h129 => ?_)
                  obtain ⟨rfl, q130f, q130T, q130H, q130k, q130n, q1305⟩ := h129
                  have f131 : e_fr (kRr cd) w w128 := e_fr.trans j49 (e_fr.mono q130f (fun c k q => by unfold kRk at q; unfold kRr; omega))
                  show e_Ok 20 elay kcode eI (d + 1) 119 (108, [(0, (1, 1)), (1, (0, x1))], [], w128) _
                  refine e_Ok.run (t' := (109, [(0, (1, 1)), (1, (0, x1))], [(1, 1)], w128)) 1 rfl ?_
                  have h132 := (e_Has.get q130H (c := 1) (k := 1) (lo := (-2147483648)) (hi := 2147483647) rfl (by decide))
                  refine e_Ok.getf (z := w128 1 1) rfl (el_o rfl) rfl rfl rfl (by omega) ?_
                  refine e_Ok.if1 rfl (fun h133 => ?_) (fun h133 => ?_)
                  · replace h133 : (w128 1 1 : Int) = 0 := h133
                    refine e_Ok.run (t' := (117, [(0, (1, 1)), (1, (0, x1))], [(1, 1)], w128)) 1 rfl ?_
                    refine e_Ok.callV rfl (by omega) rfl rfl rfl rfl (c_138 (by omega) ⟨q130T, q130H, ((q130f 1 3 (by unfold kRk; omega)).trans ((j49 1 3 (by unfold kRr; omega)).trans hc)), hcd, q130k⟩) (fun r134 w135 h136 => ?_)
                    obtain ⟨rfl, q137f, ⟨q137T, q137H, q137c, -, q137k⟩, q137n, q137r, q1371, q137x⟩ := h136
                    have f138 : e_fr (kRr cd) w w135 := e_fr.trans f131 (e_fr.mono q137f (fun c k q => by unfold kRf at q; unfold kRr; omega))
                    have f1 : w128 1 1 = w128 1 1 := rfl
                    show e_Ok 20 elay kcode eI (d + 1) 119 (120, [(0, (1, 1)), (1, (0, x1))], [], w135) _
                    refine e_Ok.run (t' := (122, [(0, (1, 1)), (1, (0, x1))], [(1, 1), (1, 1)], w135)) 2 rfl ?_
                    have h139 := (e_Has.get q137H (c := 1) (k := 9) (lo := (-2147483648)) (hi := 2147483647) rfl (by decide))
                    refine e_Ok.getf (z := w135 1 9) rfl (el_o rfl) rfl rfl rfl (by omega) ?_
                    refine e_Ok.putf rfl (el_o rfl) rfl rfl ?_
                    generalize hw140 : e_up w135 1 1 (w135 1 9) = w140
                    have f141 : e_fr (kRr cd) w w140 := e_fr.up f138 hw140 (by unfold kRr; omega)
                    have hT142 : e_Has kTy w140 := e_Has.ups q137T hw140 rfl
                    have hH143 : e_Has kRy w140 := e_Has.upr q137H hw140 rfl (by omega)
                    refine e_Ok.run (t' := (129, [(0, (1, 1)), (1, (0, x1))], [(1, 1)], w140)) 1 rfl ?_
                    refine e_Ok.getf (z := w135 1 9) rfl (el_o rfl) rfl rfl (by rw [← hw140]; exact (e_up_ne _ _ (Or.inr (by omega))).trans rfl) (by omega) ?_
                    refine e_Ok.if1 rfl (fun h144 => ?_) (fun h144 => ?_)
                    · replace h144 : (w135 1 9 : Int) = 0 := h144
                      refine e_Ok.rets rfl rfl ?_
                      have g1 : w140 1 1 = w135 1 9 := (by rw [← hw140]; exact e_up_eq _ _ _ _)
                      have f0 : w135 1 1 = w128 1 1 := q137f 1 1 (by unfold kRf; omega)
                      exact ⟨rfl, f141, hT142, hH143, (by rw [← hw140]; exact (e_up_ne _ _ (Or.inr (by omega))).trans ((q137f 1 3 (by unfold kRf; omega)).trans ((q130f 1 3 (by unfold kRk; omega)).trans ((j49 1 3 (by unfold kRr; omega)).trans hc)))), fun h => by
                          have nw : nF w135 := ⟨by omega, by omega⟩
                          have fx := q137x nw
                          have cK : codK w135 cd := rtJ.fin (fun n => absurd n q130n) hcd ((e_Has.get q130T (c := cd) (k := 0) (lo := 0) (hi := 4000) (kD_0 hcd) (by decide)).1) (e_Has.get q130H (c := 1) (k := 6) (lo := 0) (hi := 4000) rfl (by decide)).2 fx.1 (q137f _ _ (by unfold kRf; omega)) fx.2 q137r q1371 (fun k => q137f _ _ (by unfold kRf; omega))
                          exact cK.eq (fun c k g => by rw [← hw140, e_up_ne _ _ (by omega)])⟩
                    · replace h144 : (w135 1 9 : Int) ≠ 0 := by have q : ¬ ((w135 1 9 : Int) = 0) := h144; omega
                      refine e_Ok.run (t' := (137, [(0, (1, 1)), (1, (0, x1))], [(1, 1), (1, 1)], w140)) 2 rfl ?_
                      have h145 := (e_Has.get q137H (c := 1) (k := 10) (lo := (-2147483648)) (hi := 2147483647) rfl (by decide))
                      refine e_Ok.getf (z := w135 1 10) rfl (el_o rfl) rfl rfl (by rw [← hw140]; exact (e_up_ne _ _ (Or.inr (by omega))).trans rfl) (by omega) ?_
                      refine e_Ok.putf rfl (el_o rfl) rfl rfl ?_
                      generalize hw146 : e_up w140 1 2 (w135 1 10) = w146
                      have f147 : e_fr (kRr cd) w w146 := e_fr.up f141 hw146 (by unfold kRr; omega)
                      have hT148 : e_Has kTy w146 := e_Has.ups hT142 hw146 rfl
                      have hH149 : e_Has kRy w146 := e_Has.upr hH143 hw146 rfl (by omega)
                      refine e_Ok.rets rfl rfl ?_
                      have g1 : w146 1 1 = w135 1 9 := (by rw [← hw146]; exact (e_up_ne _ _ (Or.inr (by omega))).trans (by rw [← hw140]; exact e_up_eq _ _ _ _))
                      have f0 : w135 1 1 = w128 1 1 := q137f 1 1 (by unfold kRf; omega)
                      exact ⟨rfl, f147, hT148, hH149, (by rw [← hw146]; exact (e_up_ne _ _ (Or.inr (by omega))).trans (by rw [← hw140]; exact (e_up_ne _ _ (Or.inr (by omega))).trans ((q137f 1 3 (by unfold kRf; omega)).trans ((q130f 1 3 (by unfold kRk; omega)).trans ((j49 1 3 (by unfold kRr; omega)).trans hc))))), fun h => by
                          have nw : nF w135 := ⟨by omega, by omega⟩
                          have fx := q137x nw
                          have cK : codK w135 cd := rtJ.fin (fun n => absurd n q130n) hcd ((e_Has.get q130T (c := cd) (k := 0) (lo := 0) (hi := 4000) (kD_0 hcd) (by decide)).1) (e_Has.get q130H (c := 1) (k := 6) (lo := 0) (hi := 4000) rfl (by decide)).2 fx.1 (q137f _ _ (by unfold kRf; omega)) fx.2 q137r q1371 (fun k => q137f _ _ (by unfold kRf; omega))
                          exact cK.eq (fun c k g => by rw [← hw146, e_up_ne _ _ (by omega), ← hw140, e_up_ne _ _ (by omega)])⟩
                  · replace h133 : (w128 1 1 : Int) ≠ 0 := by have q : ¬ ((w128 1 1 : Int) = 0) := h133; omega
                    refine e_Ok.rets rfl rfl ?_
                    have g1 : w128 1 1 = w128 1 1 := rfl
                    exact ⟨rfl, f131, q130T, q130H, ((q130f 1 3 (by unfold kRk; omega)).trans ((j49 1 3 (by unfold kRr; omega)).trans hc)), fun h => by omega⟩
              · replace h107 : (v2 1 5 : Int) = 22 := by have q : ¬ ((v2 1 5 : Int) ≠ 22) := h107; omega
                refine e_Ok.run (t' := (88, [(0, (1, 1)), (1, (0, x1))], [(1, 1)], v2)) 1 rfl ?_
                refine e_Ok.callV rfl (by omega) rfl rfl rfl rfl (c_142 (by omega) ⟨j50, j51, ((j49 1 3 (by unfold kRr; omega)).trans hc), hcd, j52⟩ j53 (by omega) (by omega)) (fun r150 w151 h152 => ?_)
                obtain ⟨rfl, q153f, ⟨q153T, q153H, q153c, -, q153k⟩, q153o, q153x⟩ := h152
                have f154 : e_fr (kRr cd) w w151 := e_fr.trans j49 (e_fr.mono q153f (fun c k q => by exact q))
                have q153j : rtJ w151 cd := rtJ.step j54 (e_Has.get j51 (c := 1) (k := 6) (lo := 0) (hi := 4000) rfl (by decide)).1 q153x
                show e_Ok 20 elay kcode eI (d + 1) 119 (91, [(0, (1, 1)), (1, (0, x1))], [], w151) _
                refine e_Ok.inc (z := x1 + 1) rfl rfl (by omega) (by omega) ?_
                show e_Ok 20 elay kcode eI (d + 1) 119 (94, [(1, (0, x1 + 1)), (0, (1, 1))], [], w151) _
                refine e_Ok.run (t' := (71, [(1, (0, x1 + 1)), (0, (1, 1))], [], w151)) 1 rfl ?_
                refine e_Ok.sub kAlk (e_sub_of rfl ?_) (ih48 (x1 + 1) w151 ⟨f154, q153T, q153H, q153k, q153o, q153j, (by omega)⟩ (by omega))
                exact ⟨rfl, rfl, trivial⟩
        refine e_Ok.sub kAlk (e_sub_of rfl ?_) (hL47 (4001 + 1 : Int).toNat 0 v1 ⟨j37, j38, j40, j41, j44, rtJ.zero j42 j43, (by omega)⟩ (by omega))
        exact ⟨rfl, rfl, trivial⟩
      · replace h46 : (y1 : Int) < 4000 := by have q : ¬ ((y1 : Int) ≥ 4000) := h46; omega
        refine e_Ok.run (t' := (51, [(0, (1, 1)), (1, (0, y1))], [(1, 1)], v1)) 1 rfl ?_
        have h155 := (e_Has.get j40 (c := 1) (k := 5) (lo := 0) (hi := 53) rfl (by decide))
        refine e_Ok.getf (z := v1 1 5) rfl (el_o rfl) rfl rfl rfl (by omega) ?_
        refine e_Ok.run (t' := (56, [(0, (1, 1)), (1, (0, y1))], [(0, 21), (0, v1 1 5)], v1)) 1 rfl ?_
        refine e_Ok.if2 rfl (fun h156 => ?_) (fun h156 => ?_)
        · replace h156 : (v1 1 5 : Int) ≠ 21 := h156
          refine e_Ok.run (t' := (71, [(1, (0, 0)), (0, (1, 1))], [], v1)) 2 rfl ?_
          have hL157 : ∀ (nn : Nat) (x1 : Int) (v2 : eW), e_fr (kRr cd) w v2 ∧ e_Has kTy v2 ∧ e_Has kRy v2 ∧ tkR v2 ∧ v2 1 11 = 0 ∧ rtJ v2 cd ∧ ((0 ≤ x1 ∧ x1 ≤ 4000)) → 4001 - x1 < nn → e_Ok 20 elay kcode eI (d + 1) 119 (71, [(0, (1, 1)), (1, (0, x1))], [], v2) (fun r w' => r = [] ∧ e_fr (kRr cd) w w' ∧ e_Has kTy w' ∧ e_Has kRy w' ∧ w' 1 3 = cd ∧ (w' 1 1 = 0 → codK w' cd)) := by
            intro nn
            induction nn with
            | zero => intro x1 v2 hj hm; obtain ⟨j159, j160, j161, j162, j163, j164, j165⟩ := hj; exfalso; omega
            | succ nn ih158 =>
              intro x1 v2 hj hm
              obtain ⟨j159, j160, j161, j162, j163, j164, j165⟩ := hj
              refine e_Ok.run (t' := (75, [(0, (1, 1)), (1, (0, x1))], [(0, 4000), (0, x1)], v2)) 2 rfl ?_
              refine e_Ok.if2 rfl (fun h166 => ?_) (fun h166 => ?_)
              · replace h166 : (x1 : Int) ≥ 4000 := h166
                refine e_Ok.run (t' := (98, [(0, (1, 1)), (1, (0, x1))], [(1, 1)], v2)) 1 rfl ?_
                have h167 := (e_Has.get j161 (c := 1) (k := 5) (lo := 0) (hi := 53) rfl (by decide))
                refine e_Ok.getf (z := v2 1 5) rfl (el_o rfl) rfl rfl rfl (by omega) ?_
                refine e_Ok.if1 rfl (fun h168 => ?_) (fun h168 => ?_)
                · replace h168 : (v2 1 5 : Int) = 0 := h168
                  refine e_Ok.run (t' := (109, [(0, (1, 1)), (1, (0, x1))], [(1, 1)], v2)) 1 rfl ?_
                  have h169 := (e_Has.get j161 (c := 1) (k := 1) (lo := (-2147483648)) (hi := 2147483647) rfl (by decide))
                  refine e_Ok.getf (z := v2 1 1) rfl (el_o rfl) rfl rfl rfl (by omega) ?_
                  refine e_Ok.if1 rfl (fun h170 => ?_) (fun h170 => ?_)
                  · replace h170 : (v2 1 1 : Int) = 0 := h170
                    refine e_Ok.run (t' := (117, [(0, (1, 1)), (1, (0, x1))], [(1, 1)], v2)) 1 rfl ?_
                    refine e_Ok.callV rfl (by omega) rfl rfl rfl rfl (c_138 (by omega) ⟨j160, j161, ((j159 1 3 (by unfold kRr; omega)).trans hc), hcd, j162⟩) (fun r171 w172 h173 => ?_)
                    obtain ⟨rfl, q174f, ⟨q174T, q174H, q174c, -, q174k⟩, q174n, q174r, q1741, q174x⟩ := h173
                    have f175 : e_fr (kRr cd) w w172 := e_fr.trans j159 (e_fr.mono q174f (fun c k q => by unfold kRf at q; unfold kRr; omega))
                    have f1 : v2 1 1 = v2 1 1 := rfl
                    show e_Ok 20 elay kcode eI (d + 1) 119 (120, [(0, (1, 1)), (1, (0, x1))], [], w172) _
                    refine e_Ok.run (t' := (122, [(0, (1, 1)), (1, (0, x1))], [(1, 1), (1, 1)], w172)) 2 rfl ?_
                    have h176 := (e_Has.get q174H (c := 1) (k := 9) (lo := (-2147483648)) (hi := 2147483647) rfl (by decide))
                    refine e_Ok.getf (z := w172 1 9) rfl (el_o rfl) rfl rfl rfl (by omega) ?_
                    refine e_Ok.putf rfl (el_o rfl) rfl rfl ?_
                    generalize hw177 : e_up w172 1 1 (w172 1 9) = w177
                    have f178 : e_fr (kRr cd) w w177 := e_fr.up f175 hw177 (by unfold kRr; omega)
                    have hT179 : e_Has kTy w177 := e_Has.ups q174T hw177 rfl
                    have hH180 : e_Has kRy w177 := e_Has.upr q174H hw177 rfl (by omega)
                    refine e_Ok.run (t' := (129, [(0, (1, 1)), (1, (0, x1))], [(1, 1)], w177)) 1 rfl ?_
                    refine e_Ok.getf (z := w172 1 9) rfl (el_o rfl) rfl rfl (by rw [← hw177]; exact (e_up_ne _ _ (Or.inr (by omega))).trans rfl) (by omega) ?_
                    refine e_Ok.if1 rfl (fun h181 => ?_) (fun h181 => ?_)
                    · replace h181 : (w172 1 9 : Int) = 0 := h181
                      refine e_Ok.rets rfl rfl ?_
                      have g1 : w177 1 1 = w172 1 9 := (by rw [← hw177]; exact e_up_eq _ _ _ _)
                      have f0 : w172 1 1 = v2 1 1 := q174f 1 1 (by unfold kRf; omega)
                      exact ⟨rfl, f178, hT179, hH180, (by rw [← hw177]; exact (e_up_ne _ _ (Or.inr (by omega))).trans ((q174f 1 3 (by unfold kRf; omega)).trans ((j159 1 3 (by unfold kRr; omega)).trans hc))), fun h => by
                          have nw : nF w172 := ⟨by omega, by omega⟩
                          have fx := q174x nw
                          have cK : codK w172 cd := rtJ.fin j164 hcd ((e_Has.get j160 (c := cd) (k := 0) (lo := 0) (hi := 4000) (kD_0 hcd) (by decide)).1) (e_Has.get j161 (c := 1) (k := 6) (lo := 0) (hi := 4000) rfl (by decide)).2 fx.1 (q174f _ _ (by unfold kRf; omega)) fx.2 q174r q1741 (fun k => q174f _ _ (by unfold kRf; omega))
                          exact cK.eq (fun c k g => by rw [← hw177, e_up_ne _ _ (by omega)])⟩
                    · replace h181 : (w172 1 9 : Int) ≠ 0 := by have q : ¬ ((w172 1 9 : Int) = 0) := h181; omega
                      refine e_Ok.run (t' := (137, [(0, (1, 1)), (1, (0, x1))], [(1, 1), (1, 1)], w177)) 2 rfl ?_
                      have h182 := (e_Has.get q174H (c := 1) (k := 10) (lo := (-2147483648)) (hi := 2147483647) rfl (by decide))
                      refine e_Ok.getf (z := w172 1 10) rfl (el_o rfl) rfl rfl (by rw [← hw177]; exact (e_up_ne _ _ (Or.inr (by omega))).trans rfl) (by omega) ?_
                      refine e_Ok.putf rfl (el_o rfl) rfl rfl ?_
                      generalize hw183 : e_up w177 1 2 (w172 1 10) = w183
                      have f184 : e_fr (kRr cd) w w183 := e_fr.up f178 hw183 (by unfold kRr; omega)
                      have hT185 : e_Has kTy w183 := e_Has.ups hT179 hw183 rfl
                      have hH186 : e_Has kRy w183 := e_Has.upr hH180 hw183 rfl (by omega)
                      refine e_Ok.rets rfl rfl ?_
                      have g1 : w183 1 1 = w172 1 9 := (by rw [← hw183]; exact (e_up_ne _ _ (Or.inr (by omega))).trans (by rw [← hw177]; exact e_up_eq _ _ _ _))
                      have f0 : w172 1 1 = v2 1 1 := q174f 1 1 (by unfold kRf; omega)
                      exact ⟨rfl, f184, hT185, hH186, (by rw [← hw183]; exact (e_up_ne _ _ (Or.inr (by omega))).trans (by rw [← hw177]; exact (e_up_ne _ _ (Or.inr (by omega))).trans ((q174f 1 3 (by unfold kRf; omega)).trans ((j159 1 3 (by unfold kRr; omega)).trans hc)))), fun h => by
                          have nw : nF w172 := ⟨by omega, by omega⟩
                          have fx := q174x nw
                          have cK : codK w172 cd := rtJ.fin j164 hcd ((e_Has.get j160 (c := cd) (k := 0) (lo := 0) (hi := 4000) (kD_0 hcd) (by decide)).1) (e_Has.get j161 (c := 1) (k := 6) (lo := 0) (hi := 4000) rfl (by decide)).2 fx.1 (q174f _ _ (by unfold kRf; omega)) fx.2 q174r q1741 (fun k => q174f _ _ (by unfold kRf; omega))
                          exact cK.eq (fun c k g => by rw [← hw183, e_up_ne _ _ (by omega), ← hw177, e_up_ne _ _ (by omega)])⟩
                  · replace h170 : (v2 1 1 : Int) ≠ 0 := by have q : ¬ ((v2 1 1 : Int) = 0) := h170; omega
                    refine e_Ok.rets rfl rfl ?_
                    have g1 : v2 1 1 = v2 1 1 := rfl
                    exact ⟨rfl, j159, j160, j161, ((j159 1 3 (by unfold kRr; omega)).trans hc), fun h => by omega⟩
                · replace h168 : (v2 1 5 : Int) ≠ 0 := by have q : ¬ ((v2 1 5 : Int) = 0) := h168; omega
                  refine e_Ok.run (t' := (105, [(0, (1, 1)), (1, (0, x1))], [(1, 1)], v2)) 1 rfl ?_
                  refine e_Ok.callV rfl (by omega) rfl rfl rfl rfl (c_130 (by omega) j160 j161 j162) (fun r187 w188 h189 => ?_)
                  obtain ⟨rfl, q190f, q190T, q190H, q190k, q190n, q1905⟩ := h189
                  have f191 : e_fr (kRr cd) w w188 := e_fr.trans j159 (e_fr.mono q190f (fun c k q => by unfold kRk at q; unfold kRr; omega))
                  show e_Ok 20 elay kcode eI (d + 1) 119 (108, [(0, (1, 1)), (1, (0, x1))], [], w188) _
                  refine e_Ok.run (t' := (109, [(0, (1, 1)), (1, (0, x1))], [(1, 1)], w188)) 1 rfl ?_
                  have h192 := (e_Has.get q190H (c := 1) (k := 1) (lo := (-2147483648)) (hi := 2147483647) rfl (by decide))
                  refine e_Ok.getf (z := w188 1 1) rfl (el_o rfl) rfl rfl rfl (by omega) ?_
                  refine e_Ok.if1 rfl (fun h193 => ?_) (fun h193 => ?_)
                  · replace h193 : (w188 1 1 : Int) = 0 := h193
                    refine e_Ok.run (t' := (117, [(0, (1, 1)), (1, (0, x1))], [(1, 1)], w188)) 1 rfl ?_
                    refine e_Ok.callV rfl (by omega) rfl rfl rfl rfl (c_138 (by omega) ⟨q190T, q190H, ((q190f 1 3 (by unfold kRk; omega)).trans ((j159 1 3 (by unfold kRr; omega)).trans hc)), hcd, q190k⟩) (fun r194 w195 h196 => ?_)
                    obtain ⟨rfl, q197f, ⟨q197T, q197H, q197c, -, q197k⟩, q197n, q197r, q1971, q197x⟩ := h196
                    have f198 : e_fr (kRr cd) w w195 := e_fr.trans f191 (e_fr.mono q197f (fun c k q => by unfold kRf at q; unfold kRr; omega))
                    have f1 : w188 1 1 = w188 1 1 := rfl
                    show e_Ok 20 elay kcode eI (d + 1) 119 (120, [(0, (1, 1)), (1, (0, x1))], [], w195) _
                    refine e_Ok.run (t' := (122, [(0, (1, 1)), (1, (0, x1))], [(1, 1), (1, 1)], w195)) 2 rfl ?_
                    have h199 := (e_Has.get q197H (c := 1) (k := 9) (lo := (-2147483648)) (hi := 2147483647) rfl (by decide))
                    refine e_Ok.getf (z := w195 1 9) rfl (el_o rfl) rfl rfl rfl (by omega) ?_
                    refine e_Ok.putf rfl (el_o rfl) rfl rfl ?_
                    generalize hw200 : e_up w195 1 1 (w195 1 9) = w200
                    have f201 : e_fr (kRr cd) w w200 := e_fr.up f198 hw200 (by unfold kRr; omega)
                    have hT202 : e_Has kTy w200 := e_Has.ups q197T hw200 rfl
                    have hH203 : e_Has kRy w200 := e_Has.upr q197H hw200 rfl (by omega)
                    refine e_Ok.run (t' := (129, [(0, (1, 1)), (1, (0, x1))], [(1, 1)], w200)) 1 rfl ?_
                    refine e_Ok.getf (z := w195 1 9) rfl (el_o rfl) rfl rfl (by rw [← hw200]; exact (e_up_ne _ _ (Or.inr (by omega))).trans rfl) (by omega) ?_
                    refine e_Ok.if1 rfl (fun h204 => ?_) (fun h204 => ?_)
                    · replace h204 : (w195 1 9 : Int) = 0 := h204
                      refine e_Ok.rets rfl rfl ?_
                      have g1 : w200 1 1 = w195 1 9 := (by rw [← hw200]; exact e_up_eq _ _ _ _)
                      have f0 : w195 1 1 = w188 1 1 := q197f 1 1 (by unfold kRf; omega)
                      exact ⟨rfl, f201, hT202, hH203, (by rw [← hw200]; exact (e_up_ne _ _ (Or.inr (by omega))).trans ((q197f 1 3 (by unfold kRf; omega)).trans ((q190f 1 3 (by unfold kRk; omega)).trans ((j159 1 3 (by unfold kRr; omega)).trans hc)))), fun h => by
                          have nw : nF w195 := ⟨by omega, by omega⟩
                          have fx := q197x nw
                          have cK : codK w195 cd := rtJ.fin (fun n => absurd n q190n) hcd ((e_Has.get q190T (c := cd) (k := 0) (lo := 0) (hi := 4000) (kD_0 hcd) (by decide)).1) (e_Has.get q190H (c := 1) (k := 6) (lo := 0) (hi := 4000) rfl (by decide)).2 fx.1 (q197f _ _ (by unfold kRf; omega)) fx.2 q197r q1971 (fun k => q197f _ _ (by unfold kRf; omega))
                          exact cK.eq (fun c k g => by rw [← hw200, e_up_ne _ _ (by omega)])⟩
                    · replace h204 : (w195 1 9 : Int) ≠ 0 := by have q : ¬ ((w195 1 9 : Int) = 0) := h204; omega
                      refine e_Ok.run (t' := (137, [(0, (1, 1)), (1, (0, x1))], [(1, 1), (1, 1)], w200)) 2 rfl ?_
                      have h205 := (e_Has.get q197H (c := 1) (k := 10) (lo := (-2147483648)) (hi := 2147483647) rfl (by decide))
                      refine e_Ok.getf (z := w195 1 10) rfl (el_o rfl) rfl rfl (by rw [← hw200]; exact (e_up_ne _ _ (Or.inr (by omega))).trans rfl) (by omega) ?_
                      refine e_Ok.putf rfl (el_o rfl) rfl rfl ?_
                      generalize hw206 : e_up w200 1 2 (w195 1 10) = w206
                      have f207 : e_fr (kRr cd) w w206 := e_fr.up f201 hw206 (by unfold kRr; omega)
                      have hT208 : e_Has kTy w206 := e_Has.ups hT202 hw206 rfl
                      have hH209 : e_Has kRy w206 := e_Has.upr hH203 hw206 rfl (by omega)
                      refine e_Ok.rets rfl rfl ?_
                      have g1 : w206 1 1 = w195 1 9 := (by rw [← hw206]; exact (e_up_ne _ _ (Or.inr (by omega))).trans (by rw [← hw200]; exact e_up_eq _ _ _ _))
                      have f0 : w195 1 1 = w188 1 1 := q197f 1 1 (by unfold kRf; omega)
                      exact ⟨rfl, f207, hT208, hH209, (by rw [← hw206]; exact (e_up_ne _ _ (Or.inr (by omega))).trans (by rw [← hw200]; exact (e_up_ne _ _ (Or.inr (by omega))).trans ((q197f 1 3 (by unfold kRf; omega)).trans ((q190f 1 3 (by unfold kRk; omega)).trans ((j159 1 3 (by unfold kRr; omega)).trans hc))))), fun h => by
                          have nw : nF w195 := ⟨by omega, by omega⟩
                          have fx := q197x nw
                          have cK : codK w195 cd := rtJ.fin (fun n => absurd n q190n) hcd ((e_Has.get q190T (c := cd) (k := 0) (lo := 0) (hi := 4000) (kD_0 hcd) (by decide)).1) (e_Has.get q190H (c := 1) (k := 6) (lo := 0) (hi := 4000) rfl (by decide)).2 fx.1 (q197f _ _ (by unfold kRf; omega)) fx.2 q197r q1971 (fun k => q197f _ _ (by unfold kRf; omega))
                          exact cK.eq (fun c k g => by rw [← hw206, e_up_ne _ _ (by omega), ← hw200, e_up_ne _ _ (by omega)])⟩
                  · replace h193 : (w188 1 1 : Int) ≠ 0 := by have q : ¬ ((w188 1 1 : Int) = 0) := h193; omega
                    refine e_Ok.rets rfl rfl ?_
                    have g1 : w188 1 1 = w188 1 1 := rfl
                    exact ⟨rfl, f191, q190T, q190H, ((q190f 1 3 (by unfold kRk; omega)).trans ((j159 1 3 (by unfold kRr; omega)).trans hc)), fun h => by omega⟩
              · replace h166 : (x1 : Int) < 4000 := by have q : ¬ ((x1 : Int) ≥ 4000) := h166; omega
                refine e_Ok.run (t' := (79, [(0, (1, 1)), (1, (0, x1))], [(1, 1)], v2)) 1 rfl ?_
                have h210 := (e_Has.get j161 (c := 1) (k := 5) (lo := 0) (hi := 53) rfl (by decide))
                refine e_Ok.getf (z := v2 1 5) rfl (el_o rfl) rfl rfl rfl (by omega) ?_
                refine e_Ok.run (t' := (84, [(0, (1, 1)), (1, (0, x1))], [(0, 22), (0, v2 1 5)], v2)) 1 rfl ?_
                refine e_Ok.if2 rfl (fun h211 => ?_) (fun h211 => ?_)
                · replace h211 : (v2 1 5 : Int) ≠ 22 := h211
                  refine e_Ok.run (t' := (98, [(0, (1, 1)), (1, (0, x1))], [(1, 1)], v2)) 1 rfl ?_
                  refine e_Ok.getf (z := v2 1 5) rfl (el_o rfl) rfl rfl rfl (by omega) ?_
                  refine e_Ok.if1 rfl (fun h212 => ?_) (fun h212 => ?_)
                  · replace h212 : (v2 1 5 : Int) = 0 := h212
                    refine e_Ok.run (t' := (109, [(0, (1, 1)), (1, (0, x1))], [(1, 1)], v2)) 1 rfl ?_
                    have h213 := (e_Has.get j161 (c := 1) (k := 1) (lo := (-2147483648)) (hi := 2147483647) rfl (by decide))
                    refine e_Ok.getf (z := v2 1 1) rfl (el_o rfl) rfl rfl rfl (by omega) ?_
                    refine e_Ok.if1 rfl (fun h214 => ?_) (fun h214 => ?_)
                    · replace h214 : (v2 1 1 : Int) = 0 := h214
                      refine e_Ok.run (t' := (117, [(0, (1, 1)), (1, (0, x1))], [(1, 1)], v2)) 1 rfl ?_
                      refine e_Ok.callV rfl (by omega) rfl rfl rfl rfl (c_138 (by omega) ⟨j160, j161, ((j159 1 3 (by unfold kRr; omega)).trans hc), hcd, j162⟩) (fun r215 w216 h217 => ?_)
                      obtain ⟨rfl, q218f, ⟨q218T, q218H, q218c, -, q218k⟩, q218n, q218r, q2181, q218x⟩ := h217
                      have f219 : e_fr (kRr cd) w w216 := e_fr.trans j159 (e_fr.mono q218f (fun c k q => by unfold kRf at q; unfold kRr; omega))
                      have f1 : v2 1 1 = v2 1 1 := rfl
                      show e_Ok 20 elay kcode eI (d + 1) 119 (120, [(0, (1, 1)), (1, (0, x1))], [], w216) _
                      refine e_Ok.run (t' := (122, [(0, (1, 1)), (1, (0, x1))], [(1, 1), (1, 1)], w216)) 2 rfl ?_
                      have h220 := (e_Has.get q218H (c := 1) (k := 9) (lo := (-2147483648)) (hi := 2147483647) rfl (by decide))
                      refine e_Ok.getf (z := w216 1 9) rfl (el_o rfl) rfl rfl rfl (by omega) ?_
                      refine e_Ok.putf rfl (el_o rfl) rfl rfl ?_
                      generalize hw221 : e_up w216 1 1 (w216 1 9) = w221
                      have f222 : e_fr (kRr cd) w w221 := e_fr.up f219 hw221 (by unfold kRr; omega)
                      have hT223 : e_Has kTy w221 := e_Has.ups q218T hw221 rfl
                      have hH224 : e_Has kRy w221 := e_Has.upr q218H hw221 rfl (by omega)
                      refine e_Ok.run (t' := (129, [(0, (1, 1)), (1, (0, x1))], [(1, 1)], w221)) 1 rfl ?_
                      refine e_Ok.getf (z := w216 1 9) rfl (el_o rfl) rfl rfl (by rw [← hw221]; exact (e_up_ne _ _ (Or.inr (by omega))).trans rfl) (by omega) ?_
                      refine e_Ok.if1 rfl (fun h225 => ?_) (fun h225 => ?_)
                      · replace h225 : (w216 1 9 : Int) = 0 := h225
                        refine e_Ok.rets rfl rfl ?_
                        have g1 : w221 1 1 = w216 1 9 := (by rw [← hw221]; exact e_up_eq _ _ _ _)
                        have f0 : w216 1 1 = v2 1 1 := q218f 1 1 (by unfold kRf; omega)
                        exact ⟨rfl, f222, hT223, hH224, (by rw [← hw221]; exact (e_up_ne _ _ (Or.inr (by omega))).trans ((q218f 1 3 (by unfold kRf; omega)).trans ((j159 1 3 (by unfold kRr; omega)).trans hc))), fun h => by
                            have nw : nF w216 := ⟨by omega, by omega⟩
                            have fx := q218x nw
                            have cK : codK w216 cd := rtJ.fin j164 hcd ((e_Has.get j160 (c := cd) (k := 0) (lo := 0) (hi := 4000) (kD_0 hcd) (by decide)).1) (e_Has.get j161 (c := 1) (k := 6) (lo := 0) (hi := 4000) rfl (by decide)).2 fx.1 (q218f _ _ (by unfold kRf; omega)) fx.2 q218r q2181 (fun k => q218f _ _ (by unfold kRf; omega))
                            exact cK.eq (fun c k g => by rw [← hw221, e_up_ne _ _ (by omega)])⟩
                      · replace h225 : (w216 1 9 : Int) ≠ 0 := by have q : ¬ ((w216 1 9 : Int) = 0) := h225; omega
                        refine e_Ok.run (t' := (137, [(0, (1, 1)), (1, (0, x1))], [(1, 1), (1, 1)], w221)) 2 rfl ?_
                        have h226 := (e_Has.get q218H (c := 1) (k := 10) (lo := (-2147483648)) (hi := 2147483647) rfl (by decide))
                        refine e_Ok.getf (z := w216 1 10) rfl (el_o rfl) rfl rfl (by rw [← hw221]; exact (e_up_ne _ _ (Or.inr (by omega))).trans rfl) (by omega) ?_
                        refine e_Ok.putf rfl (el_o rfl) rfl rfl ?_
                        generalize hw227 : e_up w221 1 2 (w216 1 10) = w227
                        have f228 : e_fr (kRr cd) w w227 := e_fr.up f222 hw227 (by unfold kRr; omega)
                        have hT229 : e_Has kTy w227 := e_Has.ups hT223 hw227 rfl
                        have hH230 : e_Has kRy w227 := e_Has.upr hH224 hw227 rfl (by omega)
                        refine e_Ok.rets rfl rfl ?_
                        have g1 : w227 1 1 = w216 1 9 := (by rw [← hw227]; exact (e_up_ne _ _ (Or.inr (by omega))).trans (by rw [← hw221]; exact e_up_eq _ _ _ _))
                        have f0 : w216 1 1 = v2 1 1 := q218f 1 1 (by unfold kRf; omega)
                        exact ⟨rfl, f228, hT229, hH230, (by rw [← hw227]; exact (e_up_ne _ _ (Or.inr (by omega))).trans (by rw [← hw221]; exact (e_up_ne _ _ (Or.inr (by omega))).trans ((q218f 1 3 (by unfold kRf; omega)).trans ((j159 1 3 (by unfold kRr; omega)).trans hc)))), fun h => by
                            have nw : nF w216 := ⟨by omega, by omega⟩
                            have fx := q218x nw
                            have cK : codK w216 cd := rtJ.fin j164 hcd ((e_Has.get j160 (c := cd) (k := 0) (lo := 0) (hi := 4000) (kD_0 hcd) (by decide)).1) (e_Has.get j161 (c := 1) (k := 6) (lo := 0) (hi := 4000) rfl (by decide)).2 fx.1 (q218f _ _ (by unfold kRf; omega)) fx.2 q218r q2181 (fun k => q218f _ _ (by unfold kRf; omega))
                            exact cK.eq (fun c k g => by rw [← hw227, e_up_ne _ _ (by omega), ← hw221, e_up_ne _ _ (by omega)])⟩
                    · replace h214 : (v2 1 1 : Int) ≠ 0 := by have q : ¬ ((v2 1 1 : Int) = 0) := h214; omega
                      refine e_Ok.rets rfl rfl ?_
                      have g1 : v2 1 1 = v2 1 1 := rfl
                      exact ⟨rfl, j159, j160, j161, ((j159 1 3 (by unfold kRr; omega)).trans hc), fun h => by omega⟩
                  · replace h212 : (v2 1 5 : Int) ≠ 0 := by have q : ¬ ((v2 1 5 : Int) = 0) := h212; omega
                    refine e_Ok.run (t' := (105, [(0, (1, 1)), (1, (0, x1))], [(1, 1)], v2)) 1 rfl ?_
                    refine e_Ok.callV rfl (by omega) rfl rfl rfl rfl (c_130 (by omega) j160 j161 j162) (fun r231 w232 h233 => ?_)
                    obtain ⟨rfl, q234f, q234T, q234H, q234k, q234n, q2345⟩ := h233
                    have f235 : e_fr (kRr cd) w w232 := e_fr.trans j159 (e_fr.mono q234f (fun c k q => by unfold kRk at q; unfold kRr; omega))
                    show e_Ok 20 elay kcode eI (d + 1) 119 (108, [(0, (1, 1)), (1, (0, x1))], [], w232) _
                    refine e_Ok.run (t' := (109, [(0, (1, 1)), (1, (0, x1))], [(1, 1)], w232)) 1 rfl ?_
                    have h236 := (e_Has.get q234H (c := 1) (k := 1) (lo := (-2147483648)) (hi := 2147483647) rfl (by decide))
                    refine e_Ok.getf (z := w232 1 1) rfl (el_o rfl) rfl rfl rfl (by omega) ?_
                    refine e_Ok.if1 rfl (fun h237 => ?_) (fun h237 => ?_)
                    · replace h237 : (w232 1 1 : Int) = 0 := h237
                      refine e_Ok.run (t' := (117, [(0, (1, 1)), (1, (0, x1))], [(1, 1)], w232)) 1 rfl ?_
                      refine e_Ok.callV rfl (by omega) rfl rfl rfl rfl (c_138 (by omega) ⟨q234T, q234H, ((q234f 1 3 (by unfold kRk; omega)).trans ((j159 1 3 (by unfold kRr; omega)).trans hc)), hcd, q234k⟩) (fun r238 w239 h240 => ?_)
                      obtain ⟨rfl, q241f, ⟨q241T, q241H, q241c, -, q241k⟩, q241n, q241r, q2411, q241x⟩ := h240
                      have f242 : e_fr (kRr cd) w w239 := e_fr.trans f235 (e_fr.mono q241f (fun c k q => by unfold kRf at q; unfold kRr; omega))
                      have f1 : w232 1 1 = w232 1 1 := rfl
                      show e_Ok 20 elay kcode eI (d + 1) 119 (120, [(0, (1, 1)), (1, (0, x1))], [], w239) _
                      refine e_Ok.run (t' := (122, [(0, (1, 1)), (1, (0, x1))], [(1, 1), (1, 1)], w239)) 2 rfl ?_
                      have h243 := (e_Has.get q241H (c := 1) (k := 9) (lo := (-2147483648)) (hi := 2147483647) rfl (by decide))
                      refine e_Ok.getf (z := w239 1 9) rfl (el_o rfl) rfl rfl rfl (by omega) ?_
                      refine e_Ok.putf rfl (el_o rfl) rfl rfl ?_
                      generalize hw244 : e_up w239 1 1 (w239 1 9) = w244
                      have f245 : e_fr (kRr cd) w w244 := e_fr.up f242 hw244 (by unfold kRr; omega)
                      have hT246 : e_Has kTy w244 := e_Has.ups q241T hw244 rfl
                      have hH247 : e_Has kRy w244 := e_Has.upr q241H hw244 rfl (by omega)
                      refine e_Ok.run (t' := (129, [(0, (1, 1)), (1, (0, x1))], [(1, 1)], w244)) 1 rfl ?_
                      refine e_Ok.getf (z := w239 1 9) rfl (el_o rfl) rfl rfl (by rw [← hw244]; exact (e_up_ne _ _ (Or.inr (by omega))).trans rfl) (by omega) ?_
                      refine e_Ok.if1 rfl (fun h248 => ?_) (fun h248 => ?_)
                      · replace h248 : (w239 1 9 : Int) = 0 := h248
                        refine e_Ok.rets rfl rfl ?_
                        have g1 : w244 1 1 = w239 1 9 := (by rw [← hw244]; exact e_up_eq _ _ _ _)
                        have f0 : w239 1 1 = w232 1 1 := q241f 1 1 (by unfold kRf; omega)
                        exact ⟨rfl, f245, hT246, hH247, (by rw [← hw244]; exact (e_up_ne _ _ (Or.inr (by omega))).trans ((q241f 1 3 (by unfold kRf; omega)).trans ((q234f 1 3 (by unfold kRk; omega)).trans ((j159 1 3 (by unfold kRr; omega)).trans hc)))), fun h => by
                            have nw : nF w239 := ⟨by omega, by omega⟩
                            have fx := q241x nw
                            have cK : codK w239 cd := rtJ.fin (fun n => absurd n q234n) hcd ((e_Has.get q234T (c := cd) (k := 0) (lo := 0) (hi := 4000) (kD_0 hcd) (by decide)).1) (e_Has.get q234H (c := 1) (k := 6) (lo := 0) (hi := 4000) rfl (by decide)).2 fx.1 (q241f _ _ (by unfold kRf; omega)) fx.2 q241r q2411 (fun k => q241f _ _ (by unfold kRf; omega))
                            exact cK.eq (fun c k g => by rw [← hw244, e_up_ne _ _ (by omega)])⟩
                      · replace h248 : (w239 1 9 : Int) ≠ 0 := by have q : ¬ ((w239 1 9 : Int) = 0) := h248; omega
                        refine e_Ok.run (t' := (137, [(0, (1, 1)), (1, (0, x1))], [(1, 1), (1, 1)], w244)) 2 rfl ?_
                        have h249 := (e_Has.get q241H (c := 1) (k := 10) (lo := (-2147483648)) (hi := 2147483647) rfl (by decide))
                        refine e_Ok.getf (z := w239 1 10) rfl (el_o rfl) rfl rfl (by rw [← hw244]; exact (e_up_ne _ _ (Or.inr (by omega))).trans rfl) (by omega) ?_
                        refine e_Ok.putf rfl (el_o rfl) rfl rfl ?_
                        generalize hw250 : e_up w244 1 2 (w239 1 10) = w250
                        have f251 : e_fr (kRr cd) w w250 := e_fr.up f245 hw250 (by unfold kRr; omega)
                        have hT252 : e_Has kTy w250 := e_Has.ups hT246 hw250 rfl
                        have hH253 : e_Has kRy w250 := e_Has.upr hH247 hw250 rfl (by omega)
                        refine e_Ok.rets rfl rfl ?_
                        have g1 : w250 1 1 = w239 1 9 := (by rw [← hw250]; exact (e_up_ne _ _ (Or.inr (by omega))).trans (by rw [← hw244]; exact e_up_eq _ _ _ _))
                        have f0 : w239 1 1 = w232 1 1 := q241f 1 1 (by unfold kRf; omega)
                        exact ⟨rfl, f251, hT252, hH253, (by rw [← hw250]; exact (e_up_ne _ _ (Or.inr (by omega))).trans (by rw [← hw244]; exact (e_up_ne _ _ (Or.inr (by omega))).trans ((q241f 1 3 (by unfold kRf; omega)).trans ((q234f 1 3 (by unfold kRk; omega)).trans ((j159 1 3 (by unfold kRr; omega)).trans hc))))), fun h => by
                            have nw : nF w239 := ⟨by omega, by omega⟩
                            have fx := q241x nw
                            have cK : codK w239 cd := rtJ.fin (fun n => absurd n q234n) hcd ((e_Has.get q234T (c := cd) (k := 0) (lo := 0) (hi := 4000) (kD_0 hcd) (by decide)).1) (e_Has.get q234H (c := 1) (k := 6) (lo := 0) (hi := 4000) rfl (by decide)).2 fx.1 (q241f _ _ (by unfold kRf; omega)) fx.2 q241r q2411 (fun k => q241f _ _ (by unfold kRf; omega))
                            exact cK.eq (fun c k g => by rw [← hw250, e_up_ne _ _ (by omega), ← hw244, e_up_ne _ _ (by omega)])⟩
                    · replace h237 : (w232 1 1 : Int) ≠ 0 := by have q : ¬ ((w232 1 1 : Int) = 0) := h237; omega
                      refine e_Ok.rets rfl rfl ?_
                      have g1 : w232 1 1 = w232 1 1 := rfl
                      exact ⟨rfl, f235, q234T, q234H, ((q234f 1 3 (by unfold kRk; omega)).trans ((j159 1 3 (by unfold kRr; omega)).trans hc)), fun h => by omega⟩
                · replace h211 : (v2 1 5 : Int) = 22 := by have q : ¬ ((v2 1 5 : Int) ≠ 22) := h211; omega
                  refine e_Ok.run (t' := (88, [(0, (1, 1)), (1, (0, x1))], [(1, 1)], v2)) 1 rfl ?_
                  refine e_Ok.callV rfl (by omega) rfl rfl rfl rfl (c_142 (by omega) ⟨j160, j161, ((j159 1 3 (by unfold kRr; omega)).trans hc), hcd, j162⟩ j163 (by omega) (by omega)) (fun r254 w255 h256 => ?_)
                  obtain ⟨rfl, q257f, ⟨q257T, q257H, q257c, -, q257k⟩, q257o, q257x⟩ := h256
                  have f258 : e_fr (kRr cd) w w255 := e_fr.trans j159 (e_fr.mono q257f (fun c k q => by exact q))
                  have q257j : rtJ w255 cd := rtJ.step j164 (e_Has.get j161 (c := 1) (k := 6) (lo := 0) (hi := 4000) rfl (by decide)).1 q257x
                  show e_Ok 20 elay kcode eI (d + 1) 119 (91, [(0, (1, 1)), (1, (0, x1))], [], w255) _
                  refine e_Ok.inc (z := x1 + 1) rfl rfl (by omega) (by omega) ?_
                  show e_Ok 20 elay kcode eI (d + 1) 119 (94, [(1, (0, x1 + 1)), (0, (1, 1))], [], w255) _
                  refine e_Ok.run (t' := (71, [(1, (0, x1 + 1)), (0, (1, 1))], [], w255)) 1 rfl ?_
                  refine e_Ok.sub kAlk (e_sub_of rfl ?_) (ih158 (x1 + 1) w255 ⟨f258, q257T, q257H, q257k, q257o, q257j, (by omega)⟩ (by omega))
                  exact ⟨rfl, rfl, trivial⟩
          refine e_Ok.sub kAlk (e_sub_of rfl ?_) (hL157 (4001 + 1 : Int).toNat 0 v1 ⟨j37, j38, j40, j41, j44, rtJ.zero j42 j43, (by omega)⟩ (by omega))
          exact ⟨rfl, rfl, trivial⟩
        · replace h156 : (v1 1 5 : Int) = 21 := by have q : ¬ ((v1 1 5 : Int) ≠ 21) := h156; omega
          refine e_Ok.run (t' := (60, [(0, (1, 1)), (1, (0, y1))], [(1, 1)], v1)) 1 rfl ?_
          refine e_Ok.callV rfl (by omega) rfl rfl rfl rfl (c_140 (by omega) ⟨j38, j40, ((j37 1 3 (by unfold kRr; omega)).trans hc), hcd, j41⟩) (fun r259 w260 h261 => ?_)
          obtain ⟨rfl, q262f, ⟨q262T, q262H, q262c, -, q262k⟩, q262x⟩ := h261
          have f263 : e_fr (kRr cd) w w260 := e_fr.trans j37 (e_fr.mono q262f (fun c k q => by unfold kRv at q; unfold kRr; omega))
          show e_Ok 20 elay kcode eI (d + 1) 119 (63, [(0, (1, 1)), (1, (0, y1))], [], w260) _
          refine e_Ok.inc (z := y1 + 1) rfl rfl (by omega) (by omega) ?_
          show e_Ok 20 elay kcode eI (d + 1) 119 (66, [(1, (0, y1 + 1)), (0, (1, 1))], [], w260) _
          refine e_Ok.run (t' := (43, [(1, (0, y1 + 1)), (0, (1, 1))], [], w260)) 1 rfl ?_
          refine e_Ok.sub kAlk (e_sub_of rfl ?_) (ih36 (y1 + 1) w260 ⟨f263, q262T, q262H, q262k, ((q262f cd 0 (by unfold kRv; omega)).trans j42), ((q262f 1 14 (by unfold kRv; omega)).trans j43), ((q262f 1 11 (by unfold kRv; omega)).trans j44), (by omega)⟩ (by omega))
          exact ⟨rfl, rfl, trivial⟩
  refine e_Ok.sub kAlk (e_sub_of rfl ?_) (hL35 (4001 + 1 : Int).toNat 0 w31 ⟨f34, q33T, q33H, q33k, ((q33f cd 0 (by unfold kRa; omega)).trans q280), ((q33f 1 14 (by unfold kRa; omega)).trans ((q28f 1 14 (by unfold kCl0; omega)).trans (by rw [← hw21]; exact (e_up_ne _ _ (Or.inr (by omega))).trans (by rw [← hw17]; exact e_up_eq _ _ _ _)))), ((q33f 1 11 (by unfold kRa; omega)).trans ((q28f 1 11 (by unfold kCl0; omega)).trans (by rw [← hw21]; exact (e_up_ne _ _ (Or.inr (by omega))).trans (by rw [← hw17]; exact (e_up_ne _ _ (Or.inr (by omega))).trans (by rw [← hw13]; exact e_up_eq _ _ _ _))))), (by omega)⟩ (by omega))
  exact ⟨rfl, rfl, trivial⟩
theorem c_4 {d : Nat} {w : eW} (hT : e_Has kTy w) {a cd x : Int} (ga : 0 ≤ a ∧ a ≤ 3) (hcd : isCd cd) (hx : w (17 * a + 86) 7 = x) (hxr : 0 ≤ x ∧ x ≤ 145) : e_Ok 20 elay kcode eI d 4 (0, [(0, (1, 17 * a + 86)), (1, (1, cd))], [], w) (fun r w' => r = [(1, x)] ∧ e_fr (kXc a) w w' ∧ e_Has kTy w' ∧ w' (17 * a + 86) 7 = cd) := by
  have hcd2 := hcd; unfold isCd at hcd2
  have hcd3 : 2 ≤ cd ∧ cd ≤ 145 := by omega
  refine e_Ok.run (t' := (1, [(0, (1, 17 * a + 86)), (1, (1, cd))], [(1, 17 * a + 86)], w)) 1 rfl ?_
  refine e_Ok.getr (z := x) rfl (lA0 (a := a) (by omega) (by omega)) rfl rfl hx (by omega) ?_
  refine e_Ok.run (t' := (7, [(2, (1, x)), (0, (1, 17 * a + 86)), (1, (1, cd))], [(1, cd), (1, 17 * a + 86)], w)) 3 rfl ?_
  refine e_Ok.putr rfl (lA0 (a := a) (by omega) (by omega)) rfl rfl (by omega) ?_
  generalize hw1 : e_up w (17 * a + 86) 7 cd = w1
  have f2 : e_fr (kXc a) w w1 := e_fr.up (e_fr.refl w) hw1 (by unfold kXc; omega)
  have hT3 : e_Has kTy w1 := e_Has.ups hT hw1 (kA_7 (a := a) (by omega) (by omega))
  refine e_Ok.run (t' := (11, [(2, (1, x)), (0, (1, 17 * a + 86)), (1, (1, cd))], [(1, x)], w1)) 1 rfl ?_
  refine e_Ok.rets rfl rfl ?_
  exact ⟨rfl, f2, hT3, (by rw [← hw1]; exact e_up_eq _ _ _ _)⟩
set_option maxHeartbeats 4000000 in
theorem c_210 {d : Nat} (hd : 451 ≤ d) {w : eW} (hT : e_Has kTy w) (hH : e_Has kRy w) (hO : 0 ≤ w 0 13 ∧ w 0 13 ≤ 1) {cd a : Int} (hc : w 1 3 = cd) (hcd : isCd cd) (g_a : -2147483648 ≤ a ∧ a ≤ 2147483647) (hC : ∀ a, 0 ≤ a → a ≤ 3 → isCd (w (17 * a + 86) 7)) : e_Ok 20 elay kcode eI d 210 (0, [(0, (1, 0)), (1, (0, a))], [], w) (fun r w' => ∃ z : Int, r = [(0, z)] ∧ ((w' = w ∧ (w 0 13 = 1 ∨ a < 0 ∨ w 0 11 ≤ a)) ∨ ((w 0 13 = 0 ∧ 0 ≤ a ∧ a < w 0 11) ∧ e_fr (kPg cd a) w w' ∧ e_Has kTy w' ∧ e_Has kRy w' ∧ w' 1 0 = 0 ∧ ((w' 1 3 = cd ∧ w' (17 * a + 86) 7 = w (17 * a + 86) 7) ∨ (w' 1 3 = w (17 * a + 86) 7 ∧ w' (17 * a + 86) 7 = cd ∧ codK w' cd))))) := by
  obtain ⟨d, rfl⟩ : ∃ e, d = e + 1 := ⟨d - 1, by omega⟩
  have hw0 := e_Has.get hT (c := 0) (k := 11) (lo := 0) (hi := 4) rfl (by decide)
  have hcd2 := hcd; unfold isCd at hcd2
  have hcd3 : 2 ≤ cd ∧ cd ≤ 145 := by omega
  have h1r := e_Has.get hH (c := 1) (k := 2) (lo := (-2147483648)) (hi := 2147483647) rfl (by decide)
  refine e_Ok.run (t' := (2, [(0, (1, 0)), (1, (0, a))], [(0, a), (1, 0)], w)) 2 rfl ?_
  refine e_Ok.callV rfl (by omega) rfl rfl rfl rfl (c_246 (by omega) hT (by omega)) (fun r1 w2 h3 => ?_)
  obtain ⟨z4, rfl, rfl, q5⟩ := h3
  obtain ⟨rfl, q5⟩ | ⟨rfl, q5⟩ := q5
  · show e_Ok 20 elay kcode eI (d + 1) 210 (5, [(0, (1, 0)), (1, (0, a))], [(0, 1)], w) _
    refine e_Ok.if1 rfl (fun h6 => ?_) (fun h6 => ?_)
    · replace h6 : (1 : Int) ≠ 0 := h6
      have hca := hC a (by omega) (by omega); unfold isCd at hca
      refine e_Ok.run (t' := (11, [(0, (1, 0)), (1, (0, a))], [(1, 0)], w)) 1 rfl ?_
      refine e_Ok.getf (z := w 0 13) rfl (el_o rfl) rfl rfl rfl (by omega) ?_
      refine e_Ok.if1 rfl (fun h7 => ?_) (fun h7 => ?_)
      · replace h7 : (w 0 13 : Int) = 0 := h7
        refine e_Ok.run (t' := (21, [(0, (1, 0)), (1, (0, a))], [(1, 0)], w)) 1 rfl ?_
        refine e_Ok.getr (z := 1) rfl (el_o rfl) rfl rfl (Eq.trans (e_Has.eq hT rfl) (by omega)) (by omega) ?_
        refine e_Ok.callV rfl (by omega) rfl rfl rfl rfl (c_119 (by omega) hT hH hc hcd) (fun r8 w9 h10 => ?_)
        obtain ⟨rfl, qf, qT, qH, qc, qx⟩ := h10
        have f11 : e_fr (kPg cd a) w w9 := e_fr.trans (e_fr.refl w) (e_fr.mono qf (fun c k q => by exact Or.inl q))
        show e_Ok 20 elay kcode eI (d + 1) 210 (27, [(0, (1, 0)), (1, (0, a))], [], w9) _
        refine e_Ok.run (t' := (28, [(0, (1, 0)), (1, (0, a))], [(1, 0)], w9)) 1 rfl ?_
        refine e_Ok.getr (z := 1) rfl (el_o rfl) rfl rfl ((qf 0 0 (by unfold kRr; omega)).trans (Eq.trans (e_Has.eq hT rfl) (by omega))) (by omega) ?_
        refine e_Ok.run (t' := (32, [(0, (1, 0)), (1, (0, a))], [(0, 0), (1, 1)], w9)) 1 rfl ?_
        refine e_Ok.putf rfl (el_o rfl) rfl rfl ?_
        generalize hw12 : e_up w9 1 0 0 = w12
        have f13 : e_fr (kPg cd a) w w12 := e_fr.up f11 hw12 (by unfold kPg kRr; omega)
        have hT14 : e_Has kTy w12 := e_Has.ups qT hw12 rfl
        have hH15 : e_Has kRy w12 := e_Has.upr qH hw12 rfl (by omega)
        refine e_Ok.run (t' := (36, [(0, (1, 0)), (1, (0, a))], [(1, 0)], w12)) 1 rfl ?_
        refine e_Ok.getr (z := 1) rfl (el_o rfl) rfl rfl (by rw [← hw12]; exact (e_up_ne _ _ (Or.inl (by omega))).trans ((qf 0 0 (by unfold kRr; omega)).trans (Eq.trans (e_Has.eq hT rfl) (by omega)))) (by omega) ?_
        have h16 := (e_Has.get qH (c := 1) (k := 1) (lo := (-2147483648)) (hi := 2147483647) rfl (by decide))
        refine e_Ok.getf (z := w9 1 1) rfl (el_o rfl) rfl rfl (by rw [← hw12]; exact (e_up_ne _ _ (Or.inr (by omega))).trans rfl) (by omega) ?_
        refine e_Ok.if1 rfl (fun h17 => ?_) (fun h17 => ?_)
        · replace h17 : (w9 1 1 : Int) = 0 := h17
          refine e_Ok.run (t' := (57, [(0, (1, 0)), (1, (0, a))], [(1, 0)], w12)) 1 rfl ?_
          refine e_Ok.getr (z := 1) rfl (el_o rfl) rfl rfl (by rw [← hw12]; exact (e_up_ne _ _ (Or.inl (by omega))).trans ((qf 0 0 (by unfold kRr; omega)).trans (Eq.trans (e_Has.eq hT rfl) (by omega)))) (by omega) ?_
          refine e_Ok.run (t' := (61, [(0, (1, 0)), (1, (0, a))], [(1, 0), (1, 1)], w12)) 1 rfl ?_
          refine e_Ok.getr (z := 9) rfl (el_o rfl) rfl rfl (by rw [← hw12]; exact (e_up_ne _ _ (Or.inl (by omega))).trans ((qf 0 2 (by unfold kRr; omega)).trans (Eq.trans (e_Has.eq hT rfl) (by omega)))) (by omega) ?_
          refine e_Ok.run (t' := (65, [(0, (1, 0)), (1, (0, a))], [(0, a), (1, 9), (1, 1)], w12)) 1 rfl ?_
          refine e_Ok.aald (z := 17 * a + 86) rfl (el_o rfl) rfl (by omega) (by rw [← hw12]; exact (e_up_ne _ _ (Or.inl (by omega))).trans ((qf 9 a (by unfold kRr; omega)).trans (Eq.trans (e_Has.eq hT (k9 (by omega))) (by omega)))) (by omega) ?_
          refine e_Ok.run (t' := (67, [(0, (1, 0)), (1, (0, a))], [(1, 0), (1, 17 * a + 86), (1, 1)], w12)) 1 rfl ?_
          refine e_Ok.getr (z := 1) rfl (el_o rfl) rfl rfl (by rw [← hw12]; exact (e_up_ne _ _ (Or.inl (by omega))).trans ((qf 0 0 (by unfold kRr; omega)).trans (Eq.trans (e_Has.eq hT rfl) (by omega)))) (by omega) ?_
          refine e_Ok.getr (z := cd) rfl (el_o rfl) rfl rfl (by rw [← hw12]; exact (e_up_ne _ _ (Or.inr (by omega))).trans ((qf 1 3 (by unfold kRr; omega)).trans hc)) (by omega) ?_
          refine e_Ok.callV rfl (by omega) rfl (lA0 (a := a) (by omega) (by omega)) rfl rfl (c_4 hT14 (by omega) hcd (x := w (17 * a + 86) 7) (by rw [← hw12]; exact (e_up_ne _ _ (Or.inr (by omega))).trans ((qf (17 * a + 86) 7 (by unfold kRr; omega)).trans rfl)) (by omega)) (fun r18 w19 h20 => ?_)
          obtain ⟨rfl, ef, eT, ex⟩ := h20
          have f21 : e_fr (kPg cd a) w w19 := e_fr.trans f13 (e_fr.mono ef (fun c k q => by unfold kXc at q; unfold kPg kRr; omega))
          have eH : e_Has kRy w19 := H_fr ef (fun c k g => by unfold kXc at g; omega) hH15
          show e_Ok 20 elay kcode eI (d + 1) 210 (76, [(0, (1, 0)), (1, (0, a))], [(1, w (17 * a + 86) 7), (1, 1)], w19) _
          refine e_Ok.putr rfl (el_o rfl) rfl rfl (by omega) ?_
          generalize hw22 : e_up w19 1 3 (w (17 * a + 86) 7) = w22
          have f23 : e_fr (kPg cd a) w w22 := e_fr.up f21 hw22 (by unfold kPg kRr; omega)
          have hT24 : e_Has kTy w22 := e_Has.ups eT hw22 rfl
          have hH25 : e_Has kRy w22 := e_Has.ups eH hw22 rfl
          refine e_Ok.run (t' := (80, [(0, (1, 0)), (1, (0, a))], [(1, 0)], w22)) 1 rfl ?_
          refine e_Ok.getr (z := 9) rfl (el_o rfl) rfl rfl (by rw [← hw22]; exact (e_up_ne _ _ (Or.inl (by omega))).trans ((ef 0 2 (by unfold kXc; omega)).trans (by rw [← hw12]; exact (e_up_ne _ _ (Or.inl (by omega))).trans ((qf 0 2 (by unfold kRr; omega)).trans (Eq.trans (e_Has.eq hT rfl) (by omega)))))) (by omega) ?_
          refine e_Ok.run (t' := (84, [(0, (1, 0)), (1, (0, a))], [(0, a), (1, 9)], w22)) 1 rfl ?_
          refine e_Ok.aald (z := 17 * a + 86) rfl (el_o rfl) rfl (by omega) (by rw [← hw22]; exact (e_up_ne _ _ (Or.inl (by omega))).trans ((ef 9 a (by unfold kXc; omega)).trans (by rw [← hw12]; exact (e_up_ne _ _ (Or.inl (by omega))).trans ((qf 9 a (by unfold kRr; omega)).trans (Eq.trans (e_Has.eq hT (k9 (by omega))) (by omega)))))) (by omega) ?_
          refine e_Ok.getr (z := cd) rfl (lA0 (a := a) (by omega) (by omega)) rfl rfl (by rw [← hw22]; exact (e_up_ne _ _ (Or.inr (by omega))).trans ex) (by omega) ?_
          have h26 := (e_Has.get qT (c := cd) (k := 1) (lo := 0) (hi := 32) (kD_1 hcd) (by decide))
          refine e_Ok.getf (z := w9 cd 1) rfl (lD0 hcd) rfl rfl (by rw [← hw22]; exact (e_up_ne _ _ (Or.inr (by omega))).trans ((ef cd 1 (by unfold kXc; omega)).trans (by rw [← hw12]; exact (e_up_ne _ _ (Or.inr (by omega))).trans rfl))) (by omega) ?_
          refine e_Ok.rets rfl rfl ?_
          exact ⟨_, rfl, Or.inr ⟨by omega, f23, hT24, hH25, (by rw [← hw22]; exact (e_up_ne _ _ (Or.inr (by omega))).trans ((ef 1 0 (by unfold kXc; omega)).trans (by rw [← hw12]; exact e_up_eq _ _ _ _))), Or.inr ⟨(by rw [← hw22]; exact e_up_eq _ _ _ _), (by rw [← hw22]; exact (e_up_ne _ _ (Or.inr (by omega))).trans ex), (qx (by omega)).eq (fun c k g => by rw [← hw22, e_up_ne _ _ (by omega), ef _ _ (by unfold kXc; omega), ← hw12, e_up_ne _ _ (by omega)])⟩⟩⟩
        · replace h17 : (w9 1 1 : Int) ≠ 0 := by have q : ¬ ((w9 1 1 : Int) = 0) := h17; omega
          refine e_Ok.run (t' := (48, [(0, (1, 0)), (1, (0, a))], [(1, 0), (0, (-10))], w12)) 2 rfl ?_
          refine e_Ok.getr (z := 1) rfl (el_o rfl) rfl rfl (by rw [← hw12]; exact (e_up_ne _ _ (Or.inl (by omega))).trans ((qf 0 0 (by unfold kRr; omega)).trans (Eq.trans (e_Has.eq hT rfl) (by omega)))) (by omega) ?_
          have h27 := (e_Has.get qH (c := 1) (k := 2) (lo := (-2147483648)) (hi := 2147483647) rfl (by decide))
          refine e_Ok.getf (z := w9 1 2) rfl (el_o rfl) rfl rfl (by rw [← hw12]; exact (e_up_ne _ _ (Or.inr (by omega))).trans rfl) (by omega) ?_
          refine e_Ok.any rfl (eF_sub_any _ _) (fun z28 z28a z28b => ?_)
          refine e_Ok.rets rfl rfl ?_
          exact ⟨_, rfl, Or.inr ⟨by omega, f13, hT14, hH15, (by rw [← hw12]; exact e_up_eq _ _ _ _), Or.inl ⟨(by rw [← hw12]; exact (e_up_ne _ _ (Or.inr (by omega))).trans ((qf 1 3 (by unfold kRr; omega)).trans hc)), (by rw [← hw12]; exact (e_up_ne _ _ (Or.inr (by omega))).trans ((qf (17 * a + 86) 7 (by unfold kRr; omega)).trans rfl))⟩⟩⟩
      · replace h7 : (w 0 13 : Int) ≠ 0 := by have q : ¬ ((w 0 13 : Int) = 0) := h7; omega
        refine e_Ok.run (t' := (19, [(0, (1, 0)), (1, (0, a))], [(0, (-2))], w)) 1 rfl ?_
        refine e_Ok.rets rfl rfl ?_
        exact ⟨_, rfl, Or.inl ⟨rfl, by omega⟩⟩
    · replace h6 : (1 : Int) = 0 := by have q : ¬ ((1 : Int) ≠ 0) := h6; omega
      exfalso; omega
  · show e_Ok 20 elay kcode eI (d + 1) 210 (5, [(0, (1, 0)), (1, (0, a))], [(0, 0)], w) _
    refine e_Ok.if1 rfl (fun h29 => ?_) (fun h29 => ?_)
    · replace h29 : (0 : Int) ≠ 0 := h29
      exfalso; omega
    · replace h29 : (0 : Int) = 0 := by have q : ¬ ((0 : Int) ≠ 0) := h29; omega
      refine e_Ok.run (t' := (9, [(0, (1, 0)), (1, (0, a))], [(0, (-1))], w)) 1 rfl ?_
      refine e_Ok.rets rfl rfl ?_
      exact ⟨_, rfl, Or.inl ⟨rfl, by omega⟩⟩
end
