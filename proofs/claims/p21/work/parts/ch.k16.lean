noncomputable section
/-! the class: leaveFurther -/
def kLf (t : Int) (c k : Int) : Prop := (c = 6 * t + 154 ∧ (k = 3 ∨ k = 4 ∨ k = 6 ∨ k = 15)) ∨ c = 6 * t + 158 ∨ c = 6 * t + 159 ∨ (c = 8 ∧ (k = 8 ∨ k = 10 ∨ k = 11)) ∨ c = 84
def kLd (t : Int) (c k : Int) : Prop := (c = 6 * t + 154 ∧ (k = 1 ∨ k = 3 ∨ k = 4 ∨ k = 6 ∨ k = 15)) ∨ (6 * t + 157 ≤ c ∧ c ≤ 6 * t + 159) ∨ (c = 8 ∧ (k = 8 ∨ k = 10 ∨ k = 11)) ∨ c = 84 ∨ (c = 74 ∧ k = 1) ∨ c = 75 ∨ c = 83
theorem c_72_0 {d : Nat} (hd : 24 ≤ d) {w : eW} (hT : e_Has kTy w) {t : Int} (g_t : 0 ≤ t ∧ t ≤ 15) {OP OD CL : Int → Int → Int} {h : Int} (q : kI w OP OD CL h t) (hk : sK w) (hst : w (6 * t + 154) 1 = 1) {a : Int} (ga : 0 ≤ a ∧ a ≤ 3) (ha : w (6 * t + 154) 2 = a) {cd : Int} (hcv : w (17 * a + 86) 7 = cd) : e_Ok 20 elay kcode eI d 72 (0, [(0, (1, 8)), (1, (1, 6 * t + 154)), (2, (1, cd)), (3, (0, 0))], [], w) (fun r w' => r = [] ∧ e_fr (kLf t) w w' ∧ e_Has kTy w' ∧ (kI w' OP OD CL h t ∧ sK w' ∧ w' (6 * t + 154) 1 = 1 ∧ w' (6 * t + 154) 2 = a ∧ (w' (6 * t + 154) 3 = w (6 * t + 154) 3 ∨ 40 ≤ OP a (w' (6 * t + 154) 3) ∨ w' (6 * t + 154) 4 = 0))) := by
  obtain ⟨d, rfl⟩ : ∃ e, d = e + 1 := ⟨d - 1, by omega⟩
  have hco := q.co (a := a) (by omega) (by omega)
  rw [hcv] at hco
  have hcd := hco.1.1
  have hcd0 := hcd
  unfold isCd at hcd0
  have hD := hco.2.1
  have hts := q.tsx0 (by omega) hst
  rw [ha] at hts
  refine e_Ok.run (t' := (2, [(0, (1, 8)), (1, (1, 6 * t + 154)), (2, (1, cd)), (3, (0, 0))], [(0, 1), (0, 0)], w)) 2 rfl ?_
  refine e_Ok.if2 rfl (fun h1 => ?_) (fun h1 => ?_)
  · replace h1 : (0 : Int) ≠ 1 := h1
    refine e_Ok.run (t' := (17, [(0, (1, 8)), (1, (1, 6 * t + 154)), (2, (1, cd)), (3, (0, 0))], [(0, 0)], w)) 1 rfl ?_
    refine e_Ok.if1 rfl (fun h2 => ?_) (fun h2 => ?_)
    · replace h2 : (0 : Int) = 0 := h2
      refine e_Ok.rets rfl rfl ?_
      exact ⟨rfl, (e_fr.refl w), hT, ⟨q, hk, hst, ha, Or.inl rfl⟩⟩
    · replace h2 : (0 : Int) ≠ 0 := by have q : ¬ ((0 : Int) = 0) := h2; omega
      exfalso; omega
  · replace h1 : (0 : Int) = 1 := by have q : ¬ ((0 : Int) ≠ 1) := h1; omega
    exfalso; omega
theorem c_72_1 {d : Nat} (hd : 24 ≤ d) {w : eW} (hT : e_Has kTy w) {t : Int} (g_t : 0 ≤ t ∧ t ≤ 15) {OP OD CL : Int → Int → Int} {h : Int} (q : kI w OP OD CL h t) (hk : sK w) (hst : w (6 * t + 154) 1 = 1) {a : Int} (ga : 0 ≤ a ∧ a ≤ 3) (ha : w (6 * t + 154) 2 = a) {cd : Int} (hcv : w (17 * a + 86) 7 = cd) (h6 : w (6 * t + 154) 15 < 600) (hv : -2147483648 ≤ w ((6 * t + 154) + 5) (w (6 * t + 154) 15) ∧ w ((6 * t + 154) + 5) (w (6 * t + 154) 15) ≤ 2147483647) : e_Ok 20 elay kcode eI d 72 (0, [(0, (1, 8)), (1, (1, 6 * t + 154)), (2, (1, cd)), (3, (0, 1))], [], w) (fun r w' => r = [] ∧ e_fr (kLf t) w w' ∧ e_Has kTy w' ∧ (kI w' OP OD CL h t ∧ sK w' ∧ w' (6 * t + 154) 1 = 1 ∧ w' (6 * t + 154) 2 = a ∧ (w' (6 * t + 154) 3 = w (6 * t + 154) 3 ∨ 40 ≤ OP a (w' (6 * t + 154) 3) ∨ w' (6 * t + 154) 4 = 0))) := by
  obtain ⟨d, rfl⟩ : ∃ e, d = e + 1 := ⟨d - 1, by omega⟩
  have hco := q.co (a := a) (by omega) (by omega)
  rw [hcv] at hco
  have hcd := hco.1.1
  have hcd0 := hcd
  unfold isCd at hcd0
  have hD := hco.2.1
  have hts := q.tsx0 (by omega) hst
  rw [ha] at hts
  refine e_Ok.run (t' := (2, [(0, (1, 8)), (1, (1, 6 * t + 154)), (2, (1, cd)), (3, (0, 1))], [(0, 1), (0, 1)], w)) 2 rfl ?_
  refine e_Ok.if2 rfl (fun h1 => ?_) (fun h1 => ?_)
  · replace h1 : (1 : Int) ≠ 1 := h1
    exfalso; omega
  · replace h1 : (1 : Int) = 1 := by have q : ¬ ((1 : Int) ≠ 1) := h1; omega
    refine e_Ok.run (t' := (7, [(0, (1, 8)), (1, (1, 6 * t + 154)), (2, (1, cd)), (3, (0, 1))], [(1, 6 * t + 154), (1, 8)], w)) 2 rfl ?_
    refine e_Ok.callV rfl (by omega) rfl (lT0 (t := t) (by omega) (by omega)) rfl rfl (c_187 (t := t) (op := OP a) hT (by omega) rfl hv (by omega)) (fun r2 w3 h4 => ?_)
    obtain ⟨z5, rfl, rfl, q6⟩ := h4
    show e_Ok 20 elay kcode eI (d + 1) 72 (10, [(0, (1, 8)), (1, (1, 6 * t + 154)), (2, (1, cd)), (3, (0, 1))], [(0, z5), (1, 8)], w) _
    refine e_Ok.callV rfl (by omega) rfl rfl rfl rfl (c_46 hT (by omega) hk) (fun r7 w8 h9 => ?_)
    obtain ⟨rfl, q10f, q10T, q10x⟩ := h9
    have f11 : e_fr (kLf t) w w8 := e_fr.trans (e_fr.refl w) (e_fr.mono q10f (fun c k q => by unfold kDs at q; unfold kLf; omega))
    have Q12 := kI.hm q q10T (e_fr.mono q10f (fun c k g => hm_kDs g))
    show e_Ok 20 elay kcode eI (d + 1) 72 (13, [(0, (1, 8)), (1, (1, 6 * t + 154)), (2, (1, cd)), (3, (0, 1))], [], w8) _
    refine e_Ok.run (t' := (31, [(0, (1, 8)), (1, (1, 6 * t + 154)), (2, (1, cd)), (3, (0, 1))], [], w8)) 1 rfl ?_
    refine e_Ok.rets rfl rfl ?_
    exact ⟨rfl, f11, q10T, ⟨Q12, q10x, (Eq.trans (show w8 (6 * t + 154) 1 = w (6 * t + 154) 1 from ((q10f (6 * t + 154) 1 (by unfold kDs; omega)).trans rfl)) hst), (show w8 (6 * t + 154) 2 = a from ((q10f (6 * t + 154) 2 (by unfold kDs; omega)).trans ha)), Or.inl ((q10f (6 * t + 154) 3 (by unfold kDs; omega)).trans rfl)⟩⟩
theorem c_72_2 {d : Nat} (hd : 24 ≤ d) {w : eW} (hT : e_Has kTy w) {t : Int} (g_t : 0 ≤ t ∧ t ≤ 15) {OP OD CL : Int → Int → Int} {h : Int} (q : kI w OP OD CL h t) (hk : sK w) (hst : w (6 * t + 154) 1 = 1) {a : Int} (ga : 0 ≤ a ∧ a ≤ 3) (ha : w (6 * t + 154) 2 = a) {cd : Int} (hcv : w (17 * a + 86) 7 = cd) (h6 : w (6 * t + 154) 15 < 600) (hv : -2147483648 ≤ w ((6 * t + 154) + 5) (w (6 * t + 154) 15) ∧ w ((6 * t + 154) + 5) (w (6 * t + 154) 15) ≤ 2147483647) : e_Ok 20 elay kcode eI d 72 (0, [(0, (1, 8)), (1, (1, 6 * t + 154)), (2, (1, cd)), (3, (0, 2))], [], w) (fun r w' => r = [] ∧ e_fr (kLf t) w w' ∧ e_Has kTy w' ∧ (kI w' OP OD CL h t ∧ sK w' ∧ w' (6 * t + 154) 1 = 1 ∧ w' (6 * t + 154) 2 = a ∧ (w' (6 * t + 154) 3 = w (6 * t + 154) 3 ∨ 40 ≤ OP a (w' (6 * t + 154) 3) ∨ w' (6 * t + 154) 4 = 0))) := by
  obtain ⟨d, rfl⟩ : ∃ e, d = e + 1 := ⟨d - 1, by omega⟩
  have hco := q.co (a := a) (by omega) (by omega)
  rw [hcv] at hco
  have hcd := hco.1.1
  have hcd0 := hcd
  unfold isCd at hcd0
  have hD := hco.2.1
  have hts := q.tsx0 (by omega) hst
  rw [ha] at hts
  refine e_Ok.run (t' := (2, [(0, (1, 8)), (1, (1, 6 * t + 154)), (2, (1, cd)), (3, (0, 2))], [(0, 1), (0, 2)], w)) 2 rfl ?_
  refine e_Ok.if2 rfl (fun h1 => ?_) (fun h1 => ?_)
  · replace h1 : (2 : Int) ≠ 1 := h1
    refine e_Ok.run (t' := (17, [(0, (1, 8)), (1, (1, 6 * t + 154)), (2, (1, cd)), (3, (0, 2))], [(0, 2)], w)) 1 rfl ?_
    refine e_Ok.if1 rfl (fun h2 => ?_) (fun h2 => ?_)
    · replace h2 : (2 : Int) = 0 := h2
      exfalso; omega
    · replace h2 : (2 : Int) ≠ 0 := by have q : ¬ ((2 : Int) = 0) := h2; omega
      refine e_Ok.run (t' := (24, [(0, (1, 8)), (1, (1, 6 * t + 154)), (2, (1, cd)), (3, (0, 2))], [(1, 6 * t + 154), (0, 2), (1, cd), (1, 6 * t + 154)], w)) 4 rfl ?_
      refine e_Ok.callV rfl (by omega) rfl (lT0 (t := t) (by omega) (by omega)) rfl rfl (c_187 (t := t) (op := OP a) hT (by omega) rfl hv (by omega)) (fun r3 w4 h5 => ?_)
      obtain ⟨z6, rfl, rfl, q7⟩ := h5
      show e_Ok 20 elay kcode eI (d + 1) 72 (27, [(0, (1, 8)), (1, (1, 6 * t + 154)), (2, (1, cd)), (3, (0, 2))], [(0, z6), (0, 2), (1, cd), (1, 6 * t + 154)], w) _
      obtain ⟨H, hH10⟩ := hts
      refine e_Ok.callV rfl (by omega) rfl (lT0 (t := t) (by omega) (by omega)) rfl rfl (c_188_2 (by omega) (t := t) (op := OP a) (od := OD a) (cd := cd) (H := H) hT (by omega) hco.1 hD (val := z6) (by omega) hH10) (fun r8 w9 h10 => ?_)
      obtain ⟨z12, rfl, q11f, q11T, q11s, q11z, q11x⟩ := h10
      have f13 : e_fr (kLf t) w w9 := e_fr.trans (e_fr.refl w) (e_fr.mono q11f (fun c k q => by unfold kLv at q; unfold kLf; omega))
      have Q14 := kI.tsx q q11T (by omega) q11f (fun c k g => th_kLv g) (by unfold kLv; omega) hst (by rw [ha]; exact ⟨H, q11s⟩)
      show e_Ok 20 elay kcode eI (d + 1) 72 (30, [(0, (1, 8)), (1, (1, 6 * t + 154)), (2, (1, cd)), (3, (0, 2))], [(0, z12)], w9) _
      refine e_Ok.run (t' := (31, [(0, (1, 8)), (1, (1, 6 * t + 154)), (2, (1, cd)), (3, (0, 2))], [], w9)) 1 rfl ?_
      refine e_Ok.rets rfl rfl ?_
      exact ⟨rfl, f13, q11T, ⟨Q14, (sK.fr q11f (by unfold kLv; omega) (fun k => by unfold kLv; omega) hk), (Eq.trans (show w9 (6 * t + 154) 1 = w (6 * t + 154) 1 from ((q11f (6 * t + 154) 1 (by unfold kLv; omega)).trans rfl)) hst), (show w9 (6 * t + 154) 2 = a from ((q11f (6 * t + 154) 2 (by unfold kLv; omega)).trans ha)), Or.inr q11x⟩⟩
  · replace h1 : (2 : Int) = 1 := by have q : ¬ ((2 : Int) ≠ 1) := h1; omega
    exfalso; omega
theorem c_72_3 {d : Nat} (hd : 24 ≤ d) {w : eW} (hT : e_Has kTy w) {t : Int} (g_t : 0 ≤ t ∧ t ≤ 15) {OP OD CL : Int → Int → Int} {h : Int} (q : kI w OP OD CL h t) (hk : sK w) (hst : w (6 * t + 154) 1 = 1) {a : Int} (ga : 0 ≤ a ∧ a ≤ 3) (ha : w (6 * t + 154) 2 = a) {cd : Int} (hcv : w (17 * a + 86) 7 = cd) (h6 : w (6 * t + 154) 15 < 600) (hv : -2147483648 ≤ w ((6 * t + 154) + 5) (w (6 * t + 154) 15) ∧ w ((6 * t + 154) + 5) (w (6 * t + 154) 15) ≤ 2147483647) (hvb : OP a (w ((6 * t + 154) + 5) (w (6 * t + 154) 15) + 1) = 49) : e_Ok 20 elay kcode eI d 72 (0, [(0, (1, 8)), (1, (1, 6 * t + 154)), (2, (1, cd)), (3, (0, 3))], [], w) (fun r w' => r = [] ∧ e_fr (kLf t) w w' ∧ e_Has kTy w' ∧ (kI w' OP OD CL h t ∧ sK w' ∧ w' (6 * t + 154) 1 = 1 ∧ w' (6 * t + 154) 2 = a ∧ (w' (6 * t + 154) 3 = w (6 * t + 154) 3 ∨ 40 ≤ OP a (w' (6 * t + 154) 3) ∨ w' (6 * t + 154) 4 = 0))) := by
  obtain ⟨d, rfl⟩ : ∃ e, d = e + 1 := ⟨d - 1, by omega⟩
  have hco := q.co (a := a) (by omega) (by omega)
  rw [hcv] at hco
  have hcd := hco.1.1
  have hcd0 := hcd
  unfold isCd at hcd0
  have hD := hco.2.1
  have hts := q.tsx0 (by omega) hst
  rw [ha] at hts
  refine e_Ok.run (t' := (2, [(0, (1, 8)), (1, (1, 6 * t + 154)), (2, (1, cd)), (3, (0, 3))], [(0, 1), (0, 3)], w)) 2 rfl ?_
  refine e_Ok.if2 rfl (fun h1 => ?_) (fun h1 => ?_)
  · replace h1 : (3 : Int) ≠ 1 := h1
    refine e_Ok.run (t' := (17, [(0, (1, 8)), (1, (1, 6 * t + 154)), (2, (1, cd)), (3, (0, 3))], [(0, 3)], w)) 1 rfl ?_
    refine e_Ok.if1 rfl (fun h2 => ?_) (fun h2 => ?_)
    · replace h2 : (3 : Int) = 0 := h2
      exfalso; omega
    · replace h2 : (3 : Int) ≠ 0 := by have q : ¬ ((3 : Int) = 0) := h2; omega
      refine e_Ok.run (t' := (24, [(0, (1, 8)), (1, (1, 6 * t + 154)), (2, (1, cd)), (3, (0, 3))], [(1, 6 * t + 154), (0, 3), (1, cd), (1, 6 * t + 154)], w)) 4 rfl ?_
      refine e_Ok.callV rfl (by omega) rfl (lT0 (t := t) (by omega) (by omega)) rfl rfl (c_187 (t := t) (op := OP a) hT (by omega) rfl hv (by omega)) (fun r3 w4 h5 => ?_)
      obtain ⟨z6, rfl, rfl, q7⟩ := h5
      show e_Ok 20 elay kcode eI (d + 1) 72 (27, [(0, (1, 8)), (1, (1, 6 * t + 154)), (2, (1, cd)), (3, (0, 3))], [(0, z6), (0, 3), (1, cd), (1, 6 * t + 154)], w) _
      obtain ⟨H, hH10⟩ := hts
      refine e_Ok.callV rfl (by omega) rfl (lT0 (t := t) (by omega) (by omega)) rfl rfl (c_188_3 (by omega) (t := t) (op := OP a) (od := OD a) (cd := cd) (H := H) hT (by omega) hco.1 hD (val := z6) (by omega) hH10 (by rw [q7]; exact hvb)) (fun r8 w9 h10 => ?_)
      obtain ⟨z12, rfl, q11f, q11T, q11s, q11z, q11x⟩ := h10
      have f13 : e_fr (kLf t) w w9 := e_fr.trans (e_fr.refl w) (e_fr.mono q11f (fun c k q => by unfold kLv at q; unfold kLf; omega))
      have Q14 := kI.tsx q q11T (by omega) q11f (fun c k g => th_kLv g) (by unfold kLv; omega) hst (by rw [ha]; exact ⟨H, q11s⟩)
      show e_Ok 20 elay kcode eI (d + 1) 72 (30, [(0, (1, 8)), (1, (1, 6 * t + 154)), (2, (1, cd)), (3, (0, 3))], [(0, z12)], w9) _
      refine e_Ok.run (t' := (31, [(0, (1, 8)), (1, (1, 6 * t + 154)), (2, (1, cd)), (3, (0, 3))], [], w9)) 1 rfl ?_
      refine e_Ok.rets rfl rfl ?_
      exact ⟨rfl, f13, q11T, ⟨Q14, (sK.fr q11f (by unfold kLv; omega) (fun k => by unfold kLv; omega) hk), (Eq.trans (show w9 (6 * t + 154) 1 = w (6 * t + 154) 1 from ((q11f (6 * t + 154) 1 (by unfold kLv; omega)).trans rfl)) hst), (show w9 (6 * t + 154) 2 = a from ((q11f (6 * t + 154) 2 (by unfold kLv; omega)).trans ha)), Or.inr q11x⟩⟩
  · replace h1 : (3 : Int) = 1 := by have q : ¬ ((3 : Int) ≠ 1) := h1; omega
    exfalso; omega
end
