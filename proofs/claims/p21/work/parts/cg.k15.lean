noncomputable section
/-! the class: what leads a task -/
def kWc (t : Int) (c k : Int) : Prop := (c = 8 ∧ (k = 8 ∨ k = 10 ∨ k = 11)) ∨ c = 84 ∨ (c = 6 * t + 154 ∧ (k = 3 ∨ k = 4 ∨ k = 13 ∨ k = 14)) ∨ c = 6 * t + 155 ∨ c = 6 * t + 156
def kLe (t a : Int) (c k : Int) : Prop := (c = 6 * t + 154 ∧ (k = 1 ∨ k = 3 ∨ k = 4 ∨ k = 5 ∨ k = 6 ∨ k = 15)) ∨ c = 6 * t + 158 ∨ c = 6 * t + 159 ∨ (154 ≤ c ∧ c ≤ 249 ∧ (c - 154) % 6 = 0 ∧ k = 10) ∨ (c = 74 ∧ k = 1) ∨ c = 75 ∨ c = 83 ∨ (c = 8 ∧ (k = 8 ∨ k = 10 ∨ k = 11)) ∨ c = 84 ∨ (c = 17 * a + 86 ∧ (k = 11 ∨ k = 13 ∨ k = 16 ∨ k = 18))
section Kg
variable {w w' : eW} {OP OD CL : Int → Int → Int} {h t0 : Int}
theorem kI.tsx {t : Int} (q : kI w OP OD CL h t) (hT : e_Has kTy w') (ht : 0 ≤ t ∧ t ≤ 15) {S : Int → Int → Prop} (f : e_fr S w w') (hS : ∀ c k, S c k → kTh t c k) (hk : ¬ S (6 * t + 154) 1 ∧ ¬ S (6 * t + 154) 2 ∧ ¬ S (6 * t + 154) 11 ∧ ¬ S (6 * t + 154) 12 ∧ ¬ S (6 * t + 154) 13) (h1 : w (6 * t + 154) 1 = 1) (hs : tSx w' (6 * t + 154) (OP (w (6 * t + 154) 2))) : kI w' OP OD CL h t := by
  have h2 := e_Has.get q.1 (c := 6 * t + 154) (k := 2) (lo := -1) (hi := 3) (kT_2 (t := t) rfl ht) (by decide)
  have q0 := q.ts ht.1 ht.2
  have qa := q0.1.1 (by omega) (by omega)
  have qg := (q0.2 (by omega) (by omega)).1
  have e1 := f _ _ hk.1
  have e2 := f _ _ hk.2.1
  refine kI.tg q hT ht (f.mono hS) e2 ⟨qa, h2.2⟩ ⟨fun _ _ => by rw [e2]; exact qa, fun g => by omega, fun g => by omega⟩ (fun _ _ => ⟨hs, ?_⟩)
  rw [f _ _ hk.2.2.1, f _ _ hk.2.2.2.1, f _ _ hk.2.2.2.2]
  exact qg.2
theorem kI.tsx0 {t : Int} (q : kI w OP OD CL h t) (ht : 0 ≤ t ∧ t ≤ 15) (h1 : w (6 * t + 154) 1 = 1) : tSx w (6 * t + 154) (OP (w (6 * t + 154) 2)) := ((q.ts ht.1 ht.2).2 (by omega) (by omega)).1.1
theorem kI.pc {t z : Int} (q : kI w OP OD CL h t) (hT : e_Has kTy w') (ht : 0 ≤ t ∧ t ≤ 15) (h1 : w (6 * t + 154) 1 = 1) (hw : e_up w (6 * t + 154) 3 z = w') : kI w' OP OD CL h t :=
  kI.tsx q hT ht (S := fun c k => c = 6 * t + 154 ∧ k = 3) (fun c k g => by rw [← hw]; exact e_up_ne _ _ (by omega)) (fun c k g => Or.inr (by omega)) (by omega) h1 ((q.tsx0 ht h1).eq (fun d k g => by rw [← hw]; exact e_up_ne _ _ (by omega)))
theorem th_kEn {t c k : Int} (g : kEn t c k) : kTh t c k := Or.inr (by unfold kEn at g; omega)
theorem th_kLv {t c k : Int} (g : kLv t c k) : kTh t c k := Or.inr (by unfold kLv at g; omega)
theorem th_kOt {t c k : Int} (g : kOt t c k) : kTh t c k := Or.inr (by unfold kOt at g; omega)
end Kg
theorem nds {c k c' k' : Int} (g : ¬ kHm c k) (h : c' = 8 ∧ 8 ≤ k' ∧ k' ≤ 11) : c ≠ c' ∨ k ≠ k' := by
  by_cases e : c = c'
  · exact Or.inr (fun e2 => g (Or.inl (by rw [e, e2]; exact h)))
  · exact Or.inl e
theorem c_47 {d : Nat} (hd : 23 ≤ d) {w : eW} (hT : e_Has kTy w) {t : Int} (g_t : 0 ≤ t ∧ t ≤ 15) {OP OD CL : Int → Int → Int} {h : Int} (q : kI w OP OD CL h t) (hk : sK w) (hst : w (6 * t + 154) 1 = 1) {a : Int} (ga : 0 ≤ a ∧ a ≤ 3) (ha : w (6 * t + 154) 2 = a) {cd : Int} (hcv : w (17 * a + 86) 7 = cd) (hpc : 40 ≤ OP a (w (6 * t + 154) 3)) : e_Ok 20 elay kcode eI d 47 (0, [(0, (1, 8)), (1, (1, 6 * t + 154)), (2, (1, cd))], [], w) (fun r w' => ∃ z : Int, r = [(0, z)] ∧ e_fr (kWc t) w w' ∧ e_Has kTy w' ∧ (0 ≤ z ∧ z ≤ 1) ∧ (kI w' OP OD CL h t ∧ sK w' ∧ w' (6 * t + 154) 1 = 1 ∧ w' (6 * t + 154) 2 = a ∧ ((z = 0 ∧ w' (6 * t + 154) 3 = w (6 * t + 154) 3) ∨ (z = 1 ∧ 40 ≤ OP a (w' (6 * t + 154) 3))))) := by
  obtain ⟨d, rfl⟩ : ∃ e, d = e + 1 := ⟨d - 1, by omega⟩
  have hco := q.co (a := a) (by omega) (by omega)
  rw [hcv] at hco
  have hcd := hco.1.1
  have hcd0 := hcd
  unfold isCd at hcd0
  have hD := hco.2.1
  have hts := q.tsx0 (by omega) hst
  rw [ha] at hts
  have hac := ((q.ts (t := t) (by omega) (by omega)).2 (by omega) (by omega)).1
  refine e_Ok.run (t' := (1, [(0, (1, 8)), (1, (1, 6 * t + 154)), (2, (1, cd))], [(1, 6 * t + 154)], w)) 1 rfl ?_
  have h1 := (e_Has.get hT (c := 6 * t + 154) (k := 14) (lo := (-2147483648)) (hi := 2147483647) (kT_14 (t := t) (by omega) (by omega)) (by decide))
  refine e_Ok.getf (z := w (6 * t + 154) 14) rfl (lT0 (t := t) (by omega) (by omega)) rfl rfl rfl (by omega) ?_
  refine e_Ok.run (t' := (5, [(0, (1, 8)), (1, (1, 6 * t + 154)), (2, (1, cd))], [(1, 6 * t + 154), (0, w (6 * t + 154) 14)], w)) 1 rfl ?_
  have h2 := (e_Has.get hT (c := 6 * t + 154) (k := 4) (lo := 0) (hi := 20) (kT_4 (t := t) (by omega) (by omega)) (by decide))
  refine e_Ok.getf (z := w (6 * t + 154) 4) rfl (lT0 (t := t) (by omega) (by omega)) rfl rfl rfl (by omega) ?_
  refine e_Ok.if2 rfl (fun h3 => ?_) (fun h3 => ?_)
  · replace h3 : (w (6 * t + 154) 14 : Int) ≤ w (6 * t + 154) 4 := h3
    refine e_Ok.run (t' := (17, [(0, (1, 8)), (1, (1, 6 * t + 154)), (2, (1, cd))], [(1, 6 * t + 154)], w)) 1 rfl ?_
    have h4 := (e_Has.get hT (c := 6 * t + 154) (k := 11) (lo := (-1)) (hi := 63) (kT_11 (t := t) (by omega) (by omega)) (by decide))
    refine e_Ok.getf (z := w (6 * t + 154) 11) rfl (lT0 (t := t) (by omega) (by omega)) rfl rfl rfl (by omega) ?_
    refine e_Ok.if1 rfl (fun h5 => ?_) (fun h5 => ?_)
    · replace h5 : (w (6 * t + 154) 11 : Int) < 0 := h5
      refine e_Ok.run (t' := (31, [(0, (1, 8)), (1, (1, 6 * t + 154)), (2, (1, cd))], [(0, 0)], w)) 1 rfl ?_
      refine e_Ok.rets rfl rfl ?_
      exact ⟨_, rfl, (e_fr.refl w), hT, ⟨by omega, by omega⟩, ⟨q, hk, hst, ha, Or.inl ⟨rfl, rfl⟩⟩⟩
    · replace h5 : (w (6 * t + 154) 11 : Int) ≥ 0 := by have q : ¬ ((w (6 * t + 154) 11 : Int) < 0) := h5; omega
      refine e_Ok.run (t' := (24, [(0, (1, 8)), (1, (1, 6 * t + 154)), (2, (1, cd))], [(1, 6 * t + 154)], w)) 1 rfl ?_
      refine e_Ok.getf (z := w (6 * t + 154) 14) rfl (lT0 (t := t) (by omega) (by omega)) rfl rfl rfl (by omega) ?_
      refine e_Ok.if1 rfl (fun h6 => ?_) (fun h6 => ?_)
      · replace h6 : (w (6 * t + 154) 14 : Int) ≤ 0 := h6
        have hwa := hac.2 (by omega); rw [ha, hcv] at hwa; unfold kn1 at hwa
        have hnr := e_Has.get hT (c := cd) (k := 1) (lo := 0) (hi := 32) (kD_1 hcd) (by decide)
        refine e_Ok.run (t' := (33, [(0, (1, 8)), (1, (1, 6 * t + 154)), (2, (1, cd))], [(1, 8)], w)) 1 rfl ?_
        refine e_Ok.getr (z := 10) rfl (el_o rfl) rfl rfl (Eq.trans (e_Has.eq hT rfl) (by omega)) (by omega) ?_
        refine e_Ok.getr (z := 13) rfl (el_o rfl) rfl rfl (Eq.trans (e_Has.eq hT rfl) (by omega)) (by omega) ?_
        refine e_Ok.run (t' := (40, [(0, (1, 8)), (1, (1, 6 * t + 154)), (2, (1, cd))], [(1, 6 * t + 154), (1, 13)], w)) 1 rfl ?_
        refine e_Ok.getf (z := w (6 * t + 154) 11) rfl (lT0 (t := t) (by omega) (by omega)) rfl rfl rfl (by omega) ?_
        have h7 := (e_Has.get hT (c := 13) (k := w (6 * t + 154) 11) (lo := (-2147483648)) (hi := 2147483647) rfl (by decide))
        refine e_Ok.ald (z := w 13 (w (6 * t + 154) 11)) rfl rfl rfl (by omega) rfl (by omega) ?_
        refine e_Ok.run (t' := (45, [(0, (1, 8)), (1, (1, 6 * t + 154)), (2, (1, cd))], [(1, 6 * t + 154), (0, w 13 (w (6 * t + 154) 11))], w)) 1 rfl ?_
        refine e_Ok.getf (z := w (6 * t + 154) 13) rfl (lT0 (t := t) (by omega) (by omega)) rfl rfl rfl (by omega) ?_
        refine e_Ok.if2 rfl (fun h8 => ?_) (fun h8 => ?_)
        · replace h8 : (w 13 (w (6 * t + 154) 11) : Int) ≠ w (6 * t + 154) 13 := h8
          refine e_Ok.run (t' := (55, [(0, (1, 8)), (1, (1, 6 * t + 154)), (2, (1, cd))], [(1, 8), (1, 6 * t + 154)], w)) 2 rfl ?_
          refine e_Ok.getr (z := 10) rfl (el_o rfl) rfl rfl (Eq.trans (e_Has.eq hT rfl) (by omega)) (by omega) ?_
          refine e_Ok.getr (z := 13) rfl (el_o rfl) rfl rfl (Eq.trans (e_Has.eq hT rfl) (by omega)) (by omega) ?_
          refine e_Ok.run (t' := (62, [(0, (1, 8)), (1, (1, 6 * t + 154)), (2, (1, cd))], [(1, 6 * t + 154), (1, 13), (1, 6 * t + 154)], w)) 1 rfl ?_
          refine e_Ok.getf (z := w (6 * t + 154) 11) rfl (lT0 (t := t) (by omega) (by omega)) rfl rfl rfl (by omega) ?_
          refine e_Ok.ald (z := w 13 (w (6 * t + 154) 11)) rfl rfl rfl (by omega) rfl (by omega) ?_
          refine e_Ok.putf rfl (lT0 (t := t) (by omega) (by omega)) rfl rfl ?_
          generalize hw9 : e_up w (6 * t + 154) 13 (w 13 (w (6 * t + 154) 11)) = w9
          have f10 : e_fr (kWc t) w w9 := e_fr.up (e_fr.refl w) hw9 (by unfold kWc; omega)
          have hT11 : e_Has kTy w9 := e_Has.ups hT hw9 (kT_13 (t := t) (by omega) (by omega))
          have hg0 := ((q.ts (t := t) (by omega) (by omega)).2 (by rw [hst]; decide) (by rw [hst]; decide)).1
          have Q12 : kI w9 OP OD CL h t := kI.tg q hT11 (by omega) (fun c k g => by rw [← hw9]; exact e_up_ne _ _ (by unfold kTh at g; omega)) (by rw [← hw9]; exact e_up_ne _ _ (by omega)) (by rw [ha]; omega) ⟨fun _ _ => by rw [(show w9 (6 * t + 154) 2 = a from (by rw [← hw9]; exact (e_up_ne _ _ (Or.inr (by omega))).trans ha))]; omega, fun g => by rw [(show w9 (6 * t + 154) 1 = w (6 * t + 154) 1 from (by rw [← hw9]; exact (e_up_ne _ _ (Or.inr (by omega))).trans rfl)), hst] at g; omega, fun g => by rw [(show w9 (6 * t + 154) 1 = w (6 * t + 154) 1 from (by rw [← hw9]; exact (e_up_ne _ _ (Or.inr (by omega))).trans rfl)), hst] at g; omega⟩ (fun _ _ => ⟨hg0.1.eq (fun d k g => by rw [← hw9]; exact e_up_ne _ _ (by omega)), fun g => ⟨by rw [show w9 (6 * t + 154) 12 = w (6 * t + 154) 12 from by rw [← hw9]; exact e_up_ne _ _ (by omega)]; exact (hg0.2 (by rw [show w9 (6 * t + 154) 11 = w (6 * t + 154) 11 from by rw [← hw9]; exact e_up_ne _ _ (by omega)] at g; exact g)).1, by rw [show w9 (6 * t + 154) 13 = w 13 (w (6 * t + 154) 11) from (by rw [← hw9]; exact e_up_eq _ _ _ _)]; unfold kn1; omega⟩⟩)
          refine e_Ok.run (t' := (71, [(0, (1, 8)), (1, (1, 6 * t + 154)), (2, (1, cd))], [(1, cd), (1, 6 * t + 154)], w9)) 2 rfl ?_
          refine e_Ok.getr (z := cd + 1) rfl (lD0 hcd) rfl rfl (by rw [← hw9]; exact (e_up_ne _ _ (Or.inr (by omega))).trans (Eq.trans (e_Has.eq hT (kD_3 hcd)) (by omega))) (by omega) ?_
          refine e_Ok.run (t' := (75, [(0, (1, 8)), (1, (1, 6 * t + 154)), (2, (1, cd))], [(1, 6 * t + 154), (1, cd + 1), (1, 6 * t + 154)], w9)) 1 rfl ?_
          refine e_Ok.getf (z := w (6 * t + 154) 12) rfl (lT0 (t := t) (by omega) (by omega)) rfl rfl (by rw [← hw9]; exact (e_up_ne _ _ (Or.inr (by omega))).trans rfl) (by omega) ?_
          have h13 := (e_Has.get hT (c := cd + 1) (k := w (6 * t + 154) 12) (lo := (-2147483648)) (hi := 2147483647) (kD1 (d := cd) _ (by omega) hcd) (by decide))
          refine e_Ok.ald (z := w (cd + 1) (w (6 * t + 154) 12)) rfl (lD1 (d := cd) (by omega) hcd) rfl (by omega) (by rw [← hw9]; exact (e_up_ne _ _ (Or.inl (by omega))).trans rfl) (by omega) ?_
          have ts17 := kI.tsx0 Q12 (by omega) (Eq.trans (show w9 (6 * t + 154) 1 = w (6 * t + 154) 1 from (by rw [← hw9]; exact (e_up_ne _ _ (Or.inr (by omega))).trans rfl)) hst); rw [(show w9 (6 * t + 154) 2 = a from (by rw [← hw9]; exact (e_up_ne _ _ (Or.inr (by omega))).trans ha))] at ts17
          refine e_Ok.callV rfl (by omega) rfl (lT0 (t := t) (by omega) (by omega)) rfl rfl (c_182 (t := t) (op := OP a) hT11 (by omega) (by omega) ts17 (fun _ => by rw [show w9 (6 * t + 154) 3 = w (6 * t + 154) 3 from (by rw [← hw9]; exact (e_up_ne _ _ (Or.inr (by omega))).trans rfl)]; exact hpc)) (fun r14 w15 h16 => ?_)
          obtain ⟨z19, rfl, q18f, q18T, q18s, q18x⟩ := h16
          have f20 : e_fr (kWc t) w w15 := e_fr.trans f10 (e_fr.mono q18f (fun c k q => by unfold kEn at q; unfold kWc; omega))
          have Q21 := kI.tsx Q12 q18T (by omega) q18f (fun c k g => th_kEn g) (by unfold kEn; omega) (Eq.trans (show w9 (6 * t + 154) 1 = w (6 * t + 154) 1 from (by rw [← hw9]; exact (e_up_ne _ _ (Or.inr (by omega))).trans rfl)) hst) (by rw [(show w9 (6 * t + 154) 2 = a from (by rw [← hw9]; exact (e_up_ne _ _ (Or.inr (by omega))).trans ha))]; exact q18s)
          show e_Ok 20 elay kcode eI (d + 1) 47 (82, [(0, (1, 8)), (1, (1, 6 * t + 154)), (2, (1, cd))], [(0, z19)], w15) _
          refine e_Ok.if1 rfl (fun h22 => ?_) (fun h22 => ?_)
          · replace h22 : (z19 : Int) = 0 := h22
            refine e_Ok.run (t' := (99, [(0, (1, 8)), (1, (1, 6 * t + 154)), (2, (1, cd))], [(0, 8), (1, 8)], w15)) 2 rfl ?_
            refine e_Ok.callV rfl (by omega) rfl rfl rfl rfl (c_46 q18T (by omega) (sK.fr q18f (by unfold kEn; omega) (fun k => by unfold kEn; omega) (sK.eq (fun c k g => by rw [← hw9, e_up_ne _ _ (by omega)]) hk))) (fun r23 w24 h25 => ?_)
            obtain ⟨rfl, q26f, q26T, q26x⟩ := h25
            have f27 : e_fr (kWc t) w w24 := e_fr.trans f20 (e_fr.mono q26f (fun c k q => by unfold kDs at q; unfold kWc; omega))
            have Q28 := kI.hm Q21 q26T (e_fr.mono q26f (fun c k g => hm_kDs g))
            show e_Ok 20 elay kcode eI (d + 1) 47 (102, [(0, (1, 8)), (1, (1, 6 * t + 154)), (2, (1, cd))], [], w24) _
            refine e_Ok.run (t' := (103, [(0, (1, 8)), (1, (1, 6 * t + 154)), (2, (1, cd))], [(0, 1)], w24)) 1 rfl ?_
            refine e_Ok.rets rfl rfl ?_
            have e3 : w24 (6 * t + 154) 3 = w15 (6 * t + 154) 3 := ((q26f (6 * t + 154) 3 (by unfold kDs; omega)).trans rfl)
            have e30 : w9 (6 * t + 154) 3 = w (6 * t + 154) 3 := (by rw [← hw9]; exact (e_up_ne _ _ (Or.inr (by omega))).trans rfl)
            exact ⟨_, rfl, f27, q26T, ⟨by omega, by omega⟩, ⟨Q28, q26x, (Eq.trans (show w24 (6 * t + 154) 1 = w (6 * t + 154) 1 from ((q26f (6 * t + 154) 1 (by unfold kDs; omega)).trans ((q18f (6 * t + 154) 1 (by unfold kEn; omega)).trans (by rw [← hw9]; exact (e_up_ne _ _ (Or.inr (by omega))).trans rfl)))) hst), (show w24 (6 * t + 154) 2 = a from ((q26f (6 * t + 154) 2 (by unfold kDs; omega)).trans ((q18f (6 * t + 154) 2 (by unfold kEn; omega)).trans (by rw [← hw9]; exact (e_up_ne _ _ (Or.inr (by omega))).trans ha)))), Or.inr ⟨rfl, (by rw [e3]; rcases q18x with ⟨g1, g2, g3⟩ | ⟨g1, g2, g3⟩; (rw [g3]; exact hco.2.2.1 _ (by omega) (by omega)); (rw [g2, e30]; exact hpc))⟩⟩⟩
          · replace h22 : (z19 : Int) ≠ 0 := by have q : ¬ ((z19 : Int) = 0) := h22; omega
            refine e_Ok.run (t' := (87, [(0, (1, 8)), (1, (1, 6 * t + 154)), (2, (1, cd))], [(1, 6 * t + 154), (1, 6 * t + 154)], w15)) 2 rfl ?_
            have h29 := (e_Has.get q18T (c := 6 * t + 154) (k := 4) (lo := 0) (hi := 20) (kT_4 (t := t) (by omega) (by omega)) (by decide))
            refine e_Ok.getf (z := w15 (6 * t + 154) 4) rfl (lT0 (t := t) (by omega) (by omega)) rfl rfl rfl (by omega) ?_
            refine e_Ok.putf rfl (lT0 (t := t) (by omega) (by omega)) rfl rfl ?_
            generalize hw30 : e_up w15 (6 * t + 154) 14 (w15 (6 * t + 154) 4) = w30
            have f31 : e_fr (kWc t) w w30 := e_fr.up f20 hw30 (by unfold kWc; omega)
            have hT32 : e_Has kTy w30 := e_Has.upr q18T hw30 (kT_14 (t := t) (by omega) (by omega)) (by omega)
            refine e_Ok.run (t' := (103, [(0, (1, 8)), (1, (1, 6 * t + 154)), (2, (1, cd))], [(0, 1)], w30)) 2 rfl ?_
            refine e_Ok.rets rfl rfl ?_
            have Q33 := kI.hu Q21 hT32 hw30 (hm_t (by omega) (by omega))
            have e3 : w30 (6 * t + 154) 3 = w15 (6 * t + 154) 3 := (by rw [← hw30]; exact (e_up_ne _ _ (Or.inr (by omega))).trans rfl)
            have e30 : w9 (6 * t + 154) 3 = w (6 * t + 154) 3 := (by rw [← hw9]; exact (e_up_ne _ _ (Or.inr (by omega))).trans rfl)
            exact ⟨_, rfl, f31, hT32, ⟨by omega, by omega⟩, ⟨Q33, (sK.eq (fun c k g => by rw [← hw30, e_up_ne _ _ (by omega)]) (sK.fr q18f (by unfold kEn; omega) (fun k => by unfold kEn; omega) (sK.eq (fun c k g => by rw [← hw9, e_up_ne _ _ (by omega)]) hk))), (Eq.trans (show w30 (6 * t + 154) 1 = w (6 * t + 154) 1 from (by rw [← hw30]; exact (e_up_ne _ _ (Or.inr (by omega))).trans ((q18f (6 * t + 154) 1 (by unfold kEn; omega)).trans (by rw [← hw9]; exact (e_up_ne _ _ (Or.inr (by omega))).trans rfl)))) hst), (show w30 (6 * t + 154) 2 = a from (by rw [← hw30]; exact (e_up_ne _ _ (Or.inr (by omega))).trans ((q18f (6 * t + 154) 2 (by unfold kEn; omega)).trans (by rw [← hw9]; exact (e_up_ne _ _ (Or.inr (by omega))).trans ha)))), Or.inr ⟨rfl, (by rw [e3]; rcases q18x with ⟨g1, g2, g3⟩ | ⟨g1, g2, g3⟩; (rw [g3]; exact hco.2.2.1 _ (by omega) (by omega)); (rw [g2, e30]; exact hpc))⟩⟩⟩
        · replace h8 : (w 13 (w (6 * t + 154) 11) : Int) = w (6 * t + 154) 13 := by have q : ¬ ((w 13 (w (6 * t + 154) 11) : Int) ≠ w (6 * t + 154) 13) := h8; omega
          refine e_Ok.run (t' := (52, [(0, (1, 8)), (1, (1, 6 * t + 154)), (2, (1, cd))], [(0, 0)], w)) 1 rfl ?_
          refine e_Ok.rets rfl rfl ?_
          exact ⟨_, rfl, (e_fr.refl w), hT, ⟨by omega, by omega⟩, ⟨q, hk, hst, ha, Or.inl ⟨rfl, rfl⟩⟩⟩
      · replace h6 : (w (6 * t + 154) 14 : Int) > 0 := by have q : ¬ ((w (6 * t + 154) 14 : Int) ≤ 0) := h6; omega
        refine e_Ok.run (t' := (31, [(0, (1, 8)), (1, (1, 6 * t + 154)), (2, (1, cd))], [(0, 0)], w)) 1 rfl ?_
        refine e_Ok.rets rfl rfl ?_
        exact ⟨_, rfl, (e_fr.refl w), hT, ⟨by omega, by omega⟩, ⟨q, hk, hst, ha, Or.inl ⟨rfl, rfl⟩⟩⟩
  · replace h3 : (w (6 * t + 154) 14 : Int) > w (6 * t + 154) 4 := by have q : ¬ ((w (6 * t + 154) 14 : Int) ≤ w (6 * t + 154) 4) := h3; omega
    refine e_Ok.run (t' := (13, [(0, (1, 8)), (1, (1, 6 * t + 154)), (2, (1, cd))], [(0, 0), (1, 6 * t + 154)], w)) 2 rfl ?_
    refine e_Ok.putf rfl (lT0 (t := t) (by omega) (by omega)) rfl rfl ?_
    generalize hw34 : e_up w (6 * t + 154) 14 0 = w34
    have f35 : e_fr (kWc t) w w34 := e_fr.up (e_fr.refl w) hw34 (by unfold kWc; omega)
    have hT36 : e_Has kTy w34 := e_Has.upr hT hw34 (kT_14 (t := t) (by omega) (by omega)) (by omega)
    refine e_Ok.run (t' := (17, [(0, (1, 8)), (1, (1, 6 * t + 154)), (2, (1, cd))], [(1, 6 * t + 154)], w34)) 1 rfl ?_
    have h37 := (e_Has.get hT (c := 6 * t + 154) (k := 11) (lo := (-1)) (hi := 63) (kT_11 (t := t) (by omega) (by omega)) (by decide))
    refine e_Ok.getf (z := w (6 * t + 154) 11) rfl (lT0 (t := t) (by omega) (by omega)) rfl rfl (by rw [← hw34]; exact (e_up_ne _ _ (Or.inr (by omega))).trans rfl) (by omega) ?_
    refine e_Ok.if1 rfl (fun h38 => ?_) (fun h38 => ?_)
    · replace h38 : (w (6 * t + 154) 11 : Int) < 0 := h38
      refine e_Ok.run (t' := (31, [(0, (1, 8)), (1, (1, 6 * t + 154)), (2, (1, cd))], [(0, 0)], w34)) 1 rfl ?_
      refine e_Ok.rets rfl rfl ?_
      have Q40 := kI.hu q hT36 hw34 (hm_t (by omega) (by omega))
      exact ⟨_, rfl, f35, hT36, ⟨by omega, by omega⟩, ⟨Q40, (sK.eq (fun c k g => by rw [← hw34, e_up_ne _ _ (by omega)]) hk), (Eq.trans (show w34 (6 * t + 154) 1 = w (6 * t + 154) 1 from (by rw [← hw34]; exact (e_up_ne _ _ (Or.inr (by omega))).trans rfl)) hst), (show w34 (6 * t + 154) 2 = a from (by rw [← hw34]; exact (e_up_ne _ _ (Or.inr (by omega))).trans ha)), Or.inl ⟨rfl, (by rw [← hw34]; exact (e_up_ne _ _ (Or.inr (by omega))).trans rfl)⟩⟩⟩
    · replace h38 : (w (6 * t + 154) 11 : Int) ≥ 0 := by have q : ¬ ((w (6 * t + 154) 11 : Int) < 0) := h38; omega
      refine e_Ok.run (t' := (24, [(0, (1, 8)), (1, (1, 6 * t + 154)), (2, (1, cd))], [(1, 6 * t + 154)], w34)) 1 rfl ?_
      refine e_Ok.getf (z := 0) rfl (lT0 (t := t) (by omega) (by omega)) rfl rfl (by rw [← hw34]; exact e_up_eq _ _ _ _) (by omega) ?_
      refine e_Ok.if1 rfl (fun h41 => ?_) (fun h41 => ?_)
      · replace h41 : (0 : Int) ≤ 0 := h41
        have hwa := hac.2 (by omega); rw [ha, hcv] at hwa; unfold kn1 at hwa
        have hnr := e_Has.get hT (c := cd) (k := 1) (lo := 0) (hi := 32) (kD_1 hcd) (by decide)
        refine e_Ok.run (t' := (33, [(0, (1, 8)), (1, (1, 6 * t + 154)), (2, (1, cd))], [(1, 8)], w34)) 1 rfl ?_
        refine e_Ok.getr (z := 10) rfl (el_o rfl) rfl rfl (by rw [← hw34]; exact (e_up_ne _ _ (Or.inr (by omega))).trans (Eq.trans (e_Has.eq hT rfl) (by omega))) (by omega) ?_
        refine e_Ok.getr (z := 13) rfl (el_o rfl) rfl rfl (by rw [← hw34]; exact (e_up_ne _ _ (Or.inr (by omega))).trans (Eq.trans (e_Has.eq hT rfl) (by omega))) (by omega) ?_
        refine e_Ok.run (t' := (40, [(0, (1, 8)), (1, (1, 6 * t + 154)), (2, (1, cd))], [(1, 6 * t + 154), (1, 13)], w34)) 1 rfl ?_
        refine e_Ok.getf (z := w (6 * t + 154) 11) rfl (lT0 (t := t) (by omega) (by omega)) rfl rfl (by rw [← hw34]; exact (e_up_ne _ _ (Or.inr (by omega))).trans rfl) (by omega) ?_
        have h42 := (e_Has.get hT (c := 13) (k := w (6 * t + 154) 11) (lo := (-2147483648)) (hi := 2147483647) rfl (by decide))
        refine e_Ok.ald (z := w 13 (w (6 * t + 154) 11)) rfl rfl rfl (by omega) (by rw [← hw34]; exact (e_up_ne _ _ (Or.inl (by omega))).trans rfl) (by omega) ?_
        refine e_Ok.run (t' := (45, [(0, (1, 8)), (1, (1, 6 * t + 154)), (2, (1, cd))], [(1, 6 * t + 154), (0, w 13 (w (6 * t + 154) 11))], w34)) 1 rfl ?_
        refine e_Ok.getf (z := w (6 * t + 154) 13) rfl (lT0 (t := t) (by omega) (by omega)) rfl rfl (by rw [← hw34]; exact (e_up_ne _ _ (Or.inr (by omega))).trans rfl) (by omega) ?_
        refine e_Ok.if2 rfl (fun h43 => ?_) (fun h43 => ?_)
        · replace h43 : (w 13 (w (6 * t + 154) 11) : Int) ≠ w (6 * t + 154) 13 := h43
          refine e_Ok.run (t' := (55, [(0, (1, 8)), (1, (1, 6 * t + 154)), (2, (1, cd))], [(1, 8), (1, 6 * t + 154)], w34)) 2 rfl ?_
          refine e_Ok.getr (z := 10) rfl (el_o rfl) rfl rfl (by rw [← hw34]; exact (e_up_ne _ _ (Or.inr (by omega))).trans (Eq.trans (e_Has.eq hT rfl) (by omega))) (by omega) ?_
          refine e_Ok.getr (z := 13) rfl (el_o rfl) rfl rfl (by rw [← hw34]; exact (e_up_ne _ _ (Or.inr (by omega))).trans (Eq.trans (e_Has.eq hT rfl) (by omega))) (by omega) ?_
          refine e_Ok.run (t' := (62, [(0, (1, 8)), (1, (1, 6 * t + 154)), (2, (1, cd))], [(1, 6 * t + 154), (1, 13), (1, 6 * t + 154)], w34)) 1 rfl ?_
          refine e_Ok.getf (z := w (6 * t + 154) 11) rfl (lT0 (t := t) (by omega) (by omega)) rfl rfl (by rw [← hw34]; exact (e_up_ne _ _ (Or.inr (by omega))).trans rfl) (by omega) ?_
          refine e_Ok.ald (z := w 13 (w (6 * t + 154) 11)) rfl rfl rfl (by omega) (by rw [← hw34]; exact (e_up_ne _ _ (Or.inl (by omega))).trans rfl) (by omega) ?_
          refine e_Ok.putf rfl (lT0 (t := t) (by omega) (by omega)) rfl rfl ?_
          generalize hw44 : e_up w34 (6 * t + 154) 13 (w 13 (w (6 * t + 154) 11)) = w44
          have f45 : e_fr (kWc t) w w44 := e_fr.up f35 hw44 (by unfold kWc; omega)
          have hT46 : e_Has kTy w44 := e_Has.ups hT36 hw44 (kT_13 (t := t) (by omega) (by omega))
          have Q47 := kI.hu q hT36 hw34 (hm_t (by omega) (by omega))
          have hg0 := ((Q47.ts (t := t) (by omega) (by omega)).2 (by rw [(Eq.trans (show w34 (6 * t + 154) 1 = w (6 * t + 154) 1 from (by rw [← hw34]; exact (e_up_ne _ _ (Or.inr (by omega))).trans rfl)) hst)]; decide) (by rw [(Eq.trans (show w34 (6 * t + 154) 1 = w (6 * t + 154) 1 from (by rw [← hw34]; exact (e_up_ne _ _ (Or.inr (by omega))).trans rfl)) hst)]; decide)).1
          have Q48 : kI w44 OP OD CL h t := kI.tg Q47 hT46 (by omega) (fun c k g => by rw [← hw44]; exact e_up_ne _ _ (by unfold kTh at g; omega)) (by rw [← hw44]; exact e_up_ne _ _ (by omega)) (by rw [(show w34 (6 * t + 154) 2 = a from (by rw [← hw34]; exact (e_up_ne _ _ (Or.inr (by omega))).trans ha))]; omega) ⟨fun _ _ => by rw [(show w44 (6 * t + 154) 2 = a from (by rw [← hw44]; exact (e_up_ne _ _ (Or.inr (by omega))).trans (by rw [← hw34]; exact (e_up_ne _ _ (Or.inr (by omega))).trans ha)))]; omega, fun g => by rw [(show w44 (6 * t + 154) 1 = w (6 * t + 154) 1 from (by rw [← hw44]; exact (e_up_ne _ _ (Or.inr (by omega))).trans (by rw [← hw34]; exact (e_up_ne _ _ (Or.inr (by omega))).trans rfl))), hst] at g; omega, fun g => by rw [(show w44 (6 * t + 154) 1 = w (6 * t + 154) 1 from (by rw [← hw44]; exact (e_up_ne _ _ (Or.inr (by omega))).trans (by rw [← hw34]; exact (e_up_ne _ _ (Or.inr (by omega))).trans rfl))), hst] at g; omega⟩ (fun _ _ => ⟨hg0.1.eq (fun d k g => by rw [← hw44]; exact e_up_ne _ _ (by omega)), fun g => ⟨by rw [show w44 (6 * t + 154) 12 = w34 (6 * t + 154) 12 from by rw [← hw44]; exact e_up_ne _ _ (by omega)]; exact (hg0.2 (by rw [show w44 (6 * t + 154) 11 = w34 (6 * t + 154) 11 from by rw [← hw44]; exact e_up_ne _ _ (by omega)] at g; exact g)).1, by rw [show w44 (6 * t + 154) 13 = w 13 (w (6 * t + 154) 11) from (by rw [← hw44]; exact e_up_eq _ _ _ _)]; unfold kn1; omega⟩⟩)
          refine e_Ok.run (t' := (71, [(0, (1, 8)), (1, (1, 6 * t + 154)), (2, (1, cd))], [(1, cd), (1, 6 * t + 154)], w44)) 2 rfl ?_
          refine e_Ok.getr (z := cd + 1) rfl (lD0 hcd) rfl rfl (by rw [← hw44]; exact (e_up_ne _ _ (Or.inr (by omega))).trans (by rw [← hw34]; exact (e_up_ne _ _ (Or.inr (by omega))).trans (Eq.trans (e_Has.eq hT (kD_3 hcd)) (by omega)))) (by omega) ?_
          refine e_Ok.run (t' := (75, [(0, (1, 8)), (1, (1, 6 * t + 154)), (2, (1, cd))], [(1, 6 * t + 154), (1, cd + 1), (1, 6 * t + 154)], w44)) 1 rfl ?_
          refine e_Ok.getf (z := w (6 * t + 154) 12) rfl (lT0 (t := t) (by omega) (by omega)) rfl rfl (by rw [← hw44]; exact (e_up_ne _ _ (Or.inr (by omega))).trans (by rw [← hw34]; exact (e_up_ne _ _ (Or.inr (by omega))).trans rfl)) (by omega) ?_
          have h49 := (e_Has.get hT (c := cd + 1) (k := w (6 * t + 154) 12) (lo := (-2147483648)) (hi := 2147483647) (kD1 (d := cd) _ (by omega) hcd) (by decide))
          refine e_Ok.ald (z := w (cd + 1) (w (6 * t + 154) 12)) rfl (lD1 (d := cd) (by omega) hcd) rfl (by omega) (by rw [← hw44]; exact (e_up_ne _ _ (Or.inl (by omega))).trans (by rw [← hw34]; exact (e_up_ne _ _ (Or.inl (by omega))).trans rfl)) (by omega) ?_
          have ts53 := kI.tsx0 Q48 (by omega) (Eq.trans (show w44 (6 * t + 154) 1 = w (6 * t + 154) 1 from (by rw [← hw44]; exact (e_up_ne _ _ (Or.inr (by omega))).trans (by rw [← hw34]; exact (e_up_ne _ _ (Or.inr (by omega))).trans rfl))) hst); rw [(show w44 (6 * t + 154) 2 = a from (by rw [← hw44]; exact (e_up_ne _ _ (Or.inr (by omega))).trans (by rw [← hw34]; exact (e_up_ne _ _ (Or.inr (by omega))).trans ha)))] at ts53
          refine e_Ok.callV rfl (by omega) rfl (lT0 (t := t) (by omega) (by omega)) rfl rfl (c_182 (t := t) (op := OP a) hT46 (by omega) (by omega) ts53 (fun _ => by rw [show w44 (6 * t + 154) 3 = w (6 * t + 154) 3 from (by rw [← hw44]; exact (e_up_ne _ _ (Or.inr (by omega))).trans (by rw [← hw34]; exact (e_up_ne _ _ (Or.inr (by omega))).trans rfl))]; exact hpc)) (fun r50 w51 h52 => ?_)
          obtain ⟨z55, rfl, q54f, q54T, q54s, q54x⟩ := h52
          have f56 : e_fr (kWc t) w w51 := e_fr.trans f45 (e_fr.mono q54f (fun c k q => by unfold kEn at q; unfold kWc; omega))
          have Q57 := kI.tsx Q48 q54T (by omega) q54f (fun c k g => th_kEn g) (by unfold kEn; omega) (Eq.trans (show w44 (6 * t + 154) 1 = w (6 * t + 154) 1 from (by rw [← hw44]; exact (e_up_ne _ _ (Or.inr (by omega))).trans (by rw [← hw34]; exact (e_up_ne _ _ (Or.inr (by omega))).trans rfl))) hst) (by rw [(show w44 (6 * t + 154) 2 = a from (by rw [← hw44]; exact (e_up_ne _ _ (Or.inr (by omega))).trans (by rw [← hw34]; exact (e_up_ne _ _ (Or.inr (by omega))).trans ha)))]; exact q54s)
          show e_Ok 20 elay kcode eI (d + 1) 47 (82, [(0, (1, 8)), (1, (1, 6 * t + 154)), (2, (1, cd))], [(0, z55)], w51) _
          refine e_Ok.if1 rfl (fun h58 => ?_) (fun h58 => ?_)
          · replace h58 : (z55 : Int) = 0 := h58
            refine e_Ok.run (t' := (99, [(0, (1, 8)), (1, (1, 6 * t + 154)), (2, (1, cd))], [(0, 8), (1, 8)], w51)) 2 rfl ?_
            refine e_Ok.callV rfl (by omega) rfl rfl rfl rfl (c_46 q54T (by omega) (sK.fr q54f (by unfold kEn; omega) (fun k => by unfold kEn; omega) (sK.eq (fun c k g => by rw [← hw44, e_up_ne _ _ (by omega), ← hw34, e_up_ne _ _ (by omega)]) hk))) (fun r59 w60 h61 => ?_)
            obtain ⟨rfl, q62f, q62T, q62x⟩ := h61
            have f63 : e_fr (kWc t) w w60 := e_fr.trans f56 (e_fr.mono q62f (fun c k q => by unfold kDs at q; unfold kWc; omega))
            have Q64 := kI.hm Q57 q62T (e_fr.mono q62f (fun c k g => hm_kDs g))
            show e_Ok 20 elay kcode eI (d + 1) 47 (102, [(0, (1, 8)), (1, (1, 6 * t + 154)), (2, (1, cd))], [], w60) _
            refine e_Ok.run (t' := (103, [(0, (1, 8)), (1, (1, 6 * t + 154)), (2, (1, cd))], [(0, 1)], w60)) 1 rfl ?_
            refine e_Ok.rets rfl rfl ?_
            have e3 : w60 (6 * t + 154) 3 = w51 (6 * t + 154) 3 := ((q62f (6 * t + 154) 3 (by unfold kDs; omega)).trans rfl)
            have e30 : w44 (6 * t + 154) 3 = w (6 * t + 154) 3 := (by rw [← hw44]; exact (e_up_ne _ _ (Or.inr (by omega))).trans (by rw [← hw34]; exact (e_up_ne _ _ (Or.inr (by omega))).trans rfl))
            exact ⟨_, rfl, f63, q62T, ⟨by omega, by omega⟩, ⟨Q64, q62x, (Eq.trans (show w60 (6 * t + 154) 1 = w (6 * t + 154) 1 from ((q62f (6 * t + 154) 1 (by unfold kDs; omega)).trans ((q54f (6 * t + 154) 1 (by unfold kEn; omega)).trans (by rw [← hw44]; exact (e_up_ne _ _ (Or.inr (by omega))).trans (by rw [← hw34]; exact (e_up_ne _ _ (Or.inr (by omega))).trans rfl))))) hst), (show w60 (6 * t + 154) 2 = a from ((q62f (6 * t + 154) 2 (by unfold kDs; omega)).trans ((q54f (6 * t + 154) 2 (by unfold kEn; omega)).trans (by rw [← hw44]; exact (e_up_ne _ _ (Or.inr (by omega))).trans (by rw [← hw34]; exact (e_up_ne _ _ (Or.inr (by omega))).trans ha))))), Or.inr ⟨rfl, (by rw [e3]; rcases q54x with ⟨g1, g2, g3⟩ | ⟨g1, g2, g3⟩; (rw [g3]; exact hco.2.2.1 _ (by omega) (by omega)); (rw [g2, e30]; exact hpc))⟩⟩⟩
          · replace h58 : (z55 : Int) ≠ 0 := by have q : ¬ ((z55 : Int) = 0) := h58; omega
            refine e_Ok.run (t' := (87, [(0, (1, 8)), (1, (1, 6 * t + 154)), (2, (1, cd))], [(1, 6 * t + 154), (1, 6 * t + 154)], w51)) 2 rfl ?_
            have h65 := (e_Has.get q54T (c := 6 * t + 154) (k := 4) (lo := 0) (hi := 20) (kT_4 (t := t) (by omega) (by omega)) (by decide))
            refine e_Ok.getf (z := w51 (6 * t + 154) 4) rfl (lT0 (t := t) (by omega) (by omega)) rfl rfl rfl (by omega) ?_
            refine e_Ok.putf rfl (lT0 (t := t) (by omega) (by omega)) rfl rfl ?_
            generalize hw66 : e_up w51 (6 * t + 154) 14 (w51 (6 * t + 154) 4) = w66
            have f67 : e_fr (kWc t) w w66 := e_fr.up f56 hw66 (by unfold kWc; omega)
            have hT68 : e_Has kTy w66 := e_Has.upr q54T hw66 (kT_14 (t := t) (by omega) (by omega)) (by omega)
            refine e_Ok.run (t' := (103, [(0, (1, 8)), (1, (1, 6 * t + 154)), (2, (1, cd))], [(0, 1)], w66)) 2 rfl ?_
            refine e_Ok.rets rfl rfl ?_
            have Q69 := kI.hu Q57 hT68 hw66 (hm_t (by omega) (by omega))
            have e3 : w66 (6 * t + 154) 3 = w51 (6 * t + 154) 3 := (by rw [← hw66]; exact (e_up_ne _ _ (Or.inr (by omega))).trans rfl)
            have e30 : w44 (6 * t + 154) 3 = w (6 * t + 154) 3 := (by rw [← hw44]; exact (e_up_ne _ _ (Or.inr (by omega))).trans (by rw [← hw34]; exact (e_up_ne _ _ (Or.inr (by omega))).trans rfl))
            exact ⟨_, rfl, f67, hT68, ⟨by omega, by omega⟩, ⟨Q69, (sK.eq (fun c k g => by rw [← hw66, e_up_ne _ _ (by omega)]) (sK.fr q54f (by unfold kEn; omega) (fun k => by unfold kEn; omega) (sK.eq (fun c k g => by rw [← hw44, e_up_ne _ _ (by omega), ← hw34, e_up_ne _ _ (by omega)]) hk))), (Eq.trans (show w66 (6 * t + 154) 1 = w (6 * t + 154) 1 from (by rw [← hw66]; exact (e_up_ne _ _ (Or.inr (by omega))).trans ((q54f (6 * t + 154) 1 (by unfold kEn; omega)).trans (by rw [← hw44]; exact (e_up_ne _ _ (Or.inr (by omega))).trans (by rw [← hw34]; exact (e_up_ne _ _ (Or.inr (by omega))).trans rfl))))) hst), (show w66 (6 * t + 154) 2 = a from (by rw [← hw66]; exact (e_up_ne _ _ (Or.inr (by omega))).trans ((q54f (6 * t + 154) 2 (by unfold kEn; omega)).trans (by rw [← hw44]; exact (e_up_ne _ _ (Or.inr (by omega))).trans (by rw [← hw34]; exact (e_up_ne _ _ (Or.inr (by omega))).trans ha))))), Or.inr ⟨rfl, (by rw [e3]; rcases q54x with ⟨g1, g2, g3⟩ | ⟨g1, g2, g3⟩; (rw [g3]; exact hco.2.2.1 _ (by omega) (by omega)); (rw [g2, e30]; exact hpc))⟩⟩⟩
        · replace h43 : (w 13 (w (6 * t + 154) 11) : Int) = w (6 * t + 154) 13 := by have q : ¬ ((w 13 (w (6 * t + 154) 11) : Int) ≠ w (6 * t + 154) 13) := h43; omega
          refine e_Ok.run (t' := (52, [(0, (1, 8)), (1, (1, 6 * t + 154)), (2, (1, cd))], [(0, 0)], w34)) 1 rfl ?_
          refine e_Ok.rets rfl rfl ?_
          have Q70 := kI.hu q hT36 hw34 (hm_t (by omega) (by omega))
          exact ⟨_, rfl, f35, hT36, ⟨by omega, by omega⟩, ⟨Q70, (sK.eq (fun c k g => by rw [← hw34, e_up_ne _ _ (by omega)]) hk), (Eq.trans (show w34 (6 * t + 154) 1 = w (6 * t + 154) 1 from (by rw [← hw34]; exact (e_up_ne _ _ (Or.inr (by omega))).trans rfl)) hst), (show w34 (6 * t + 154) 2 = a from (by rw [← hw34]; exact (e_up_ne _ _ (Or.inr (by omega))).trans ha)), Or.inl ⟨rfl, (by rw [← hw34]; exact (e_up_ne _ _ (Or.inr (by omega))).trans rfl)⟩⟩⟩
      · replace h41 : (0 : Int) > 0 := by have q : ¬ ((0 : Int) ≤ 0) := h41; omega
        exfalso; omega
theorem c_44 {d : Nat} (hd : 25 ≤ d) {w : eW} (hT : e_Has kTy w) {t : Int} (g_t : 0 ≤ t ∧ t ≤ 15) {OP OD CL : Int → Int → Int} {h : Int} (q : kI w OP OD CL h t) (hk : sK w) (hst : w (6 * t + 154) 1 = 1) {a : Int} (ga : 0 ≤ a ∧ a ≤ 3) (ha : w (6 * t + 154) 2 = a) {cd : Int} (hcv : w (17 * a + 86) 7 = cd) (hr : w 8 11 = 1) (he : w 74 1 < 2147483646) : e_Ok 20 elay kcode eI d 44 (0, [(0, (1, 8)), (1, (1, 6 * t + 154)), (2, (1, cd))], [], w) (fun r w' => r = [] ∧ e_fr (kLe t a) w w' ∧ e_Has kTy w' ∧ (kI w' OP OD CL h t ∧ sK w' ∧ w' (6 * t + 154) 2 = a ∧ w 74 1 ≤ w' 74 1 ∧ w' 74 1 ≤ w 74 1 + 2 ∧ ((w' (6 * t + 154) 1 = 1 ∧ (40 ≤ OP a (w' (6 * t + 154) 3)) ∧ w' 74 1 = w 74 1) ∨ w' (6 * t + 154) 1 = 7))) := by
  obtain ⟨d, rfl⟩ : ∃ e, d = e + 1 := ⟨d - 1, by omega⟩
  have hco := q.co (a := a) (by omega) (by omega)
  rw [hcv] at hco
  have hcd := hco.1.1
  have hcd0 := hcd
  unfold isCd at hcd0
  have hD := hco.2.1
  have hts := q.tsx0 (by omega) hst
  rw [ha] at hts
  have h74 := e_Has.get hT (c := 74) (k := 1) (lo := 0) (hi := 2147483647) rfl (by decide)
  have hre := hk.2.2.2 hr
  refine e_Ok.run (t' := (2, [(0, (1, 8)), (1, (1, 6 * t + 154)), (2, (1, cd))], [(0, 0), (1, 8)], w)) 2 rfl ?_
  refine e_Ok.putb rfl (el_o rfl) rfl rfl (by omega) ?_
  generalize hw1 : e_up w 8 11 0 = w1
  have f2 : e_fr (kLe t a) w w1 := e_fr.up (e_fr.refl w) hw1 (by unfold kLe; omega)
  have hT3 : e_Has kTy w1 := e_Has.ups hT hw1 rfl
  refine e_Ok.run (t' := (7, [(0, (1, 8)), (1, (1, 6 * t + 154)), (2, (1, cd))], [(0, 0), (1, 8)], w1)) 2 rfl ?_
  refine e_Ok.putf rfl (el_o rfl) rfl rfl ?_
  generalize hw4 : e_up w1 8 8 0 = w4
  have f5 : e_fr (kLe t a) w w4 := e_fr.up f2 hw4 (by unfold kLe; omega)
  have hT6 : e_Has kTy w4 := e_Has.ups hT3 hw4 rfl
  have Q7 := kI.hm q hT6 (fun c k g => by rw [← hw4, e_up_ne _ _ (nds g (by decide)), ← hw1]; exact e_up_ne _ _ (nds g (by decide)))
  have hsk : sK w4 := sK.init hw1 hw4
  refine e_Ok.run (t' := (14, [(0, (1, 8)), (1, (1, 6 * t + 154)), (2, (1, cd))], [(1, 8), (0, 1), (1, cd), (1, 6 * t + 154)], w4)) 4 rfl ?_
  refine e_Ok.getf (z := w 8 10) rfl (el_o rfl) rfl rfl (by rw [← hw4]; exact (e_up_ne _ _ (Or.inr (by omega))).trans (by rw [← hw1]; exact (e_up_ne _ _ (Or.inr (by omega))).trans rfl)) (by omega) ?_
  have ts11 := kI.tsx0 Q7 (by omega) (Eq.trans (show w4 (6 * t + 154) 1 = w (6 * t + 154) 1 from (by rw [← hw4]; exact (e_up_ne _ _ (Or.inr (by omega))).trans (by rw [← hw1]; exact (e_up_ne _ _ (Or.inr (by omega))).trans rfl))) hst); rw [(show w4 (6 * t + 154) 2 = a from (by rw [← hw4]; exact (e_up_ne _ _ (Or.inr (by omega))).trans (by rw [← hw1]; exact (e_up_ne _ _ (Or.inr (by omega))).trans ha)))] at ts11
  obtain ⟨H, hH11⟩ := ts11
  refine e_Ok.callV rfl (by omega) rfl (lT0 (t := t) (by omega) (by omega)) rfl rfl (c_188_1 (by omega) (t := t) (op := OP a) (od := OD a) (cd := cd) (H := H) hT6 (by omega) (hco.1.eq (fun c k g => f5 c k (by unfold kLe; omega))) hD (val := w 8 10) (by omega) hH11) (fun r8 w9 h10 => ?_)
  obtain ⟨z13, rfl, q12f, q12T, q12s, q12x⟩ := h10
  have f14 : e_fr (kLe t a) w w9 := e_fr.trans f5 (e_fr.mono q12f (fun c k q => by unfold kLv at q; unfold kLe; omega))
  have Q15 := kI.tsx Q7 q12T (by omega) q12f (fun c k g => th_kLv g) (by unfold kLv; omega) (Eq.trans (show w4 (6 * t + 154) 1 = w (6 * t + 154) 1 from (by rw [← hw4]; exact (e_up_ne _ _ (Or.inr (by omega))).trans (by rw [← hw1]; exact (e_up_ne _ _ (Or.inr (by omega))).trans rfl))) hst) (by rw [(show w4 (6 * t + 154) 2 = a from (by rw [← hw4]; exact (e_up_ne _ _ (Or.inr (by omega))).trans (by rw [← hw1]; exact (e_up_ne _ _ (Or.inr (by omega))).trans ha)))]; exact ⟨H, q12s⟩)
  have ev1 : w9 74 1 = w 74 1 := Eq.trans (q12f _ _ (by unfold kLv; omega)) (by rw [← hw4, e_up_ne _ _ (by omega), ← hw1, e_up_ne _ _ (by omega)])
  show e_Ok 20 elay kcode eI (d + 1) 44 (20, [(0, (1, 8)), (1, (1, 6 * t + 154)), (2, (1, cd))], [(0, z13)], w9) _
  refine e_Ok.if1 rfl (fun h16 => ?_) (fun h16 => ?_)
  · replace h16 : (z13 : Int) ≠ 0 := h16
    refine e_Ok.rets rfl rfl ?_
    exact ⟨rfl, f14, q12T, ⟨Q15, (sK.fr q12f (by unfold kLv; omega) (fun k => by unfold kLv; omega) hsk), (show w9 (6 * t + 154) 2 = a from ((q12f (6 * t + 154) 2 (by unfold kLv; omega)).trans (by rw [← hw4]; exact (e_up_ne _ _ (Or.inr (by omega))).trans (by rw [← hw1]; exact (e_up_ne _ _ (Or.inr (by omega))).trans ha)))), by omega, by omega, Or.inl ⟨(Eq.trans (show w9 (6 * t + 154) 1 = w (6 * t + 154) 1 from ((q12f (6 * t + 154) 1 (by unfold kLv; omega)).trans (by rw [← hw4]; exact (e_up_ne _ _ (Or.inr (by omega))).trans (by rw [← hw1]; exact (e_up_ne _ _ (Or.inr (by omega))).trans rfl)))) hst), by rcases q12x with g | g; exact g.2; exact absurd g (by omega), ev1⟩⟩⟩
  · replace h16 : (z13 : Int) = 0 := by have q : ¬ ((z13 : Int) ≠ 0) := h16; omega
    refine e_Ok.run (t' := (26, [(0, (1, 8)), (1, (1, 6 * t + 154)), (2, (1, cd))], [(1, 8), (1, 6 * t + 154), (1, 8)], w9)) 3 rfl ?_
    refine e_Ok.getf (z := w 8 10) rfl (el_o rfl) rfl rfl ((q12f 8 10 (by unfold kLv; omega)).trans (by rw [← hw4]; exact (e_up_ne _ _ (Or.inr (by omega))).trans (by rw [← hw1]; exact (e_up_ne _ _ (Or.inr (by omega))).trans rfl))) (by omega) ?_
    refine e_Ok.callV rfl (by omega) rfl rfl rfl rfl (c_48 (by omega) (t := t) (a := a) q12T (by omega) (by omega) (by omega) Q15 (show w9 (6 * t + 154) 2 = a from ((q12f (6 * t + 154) 2 (by unfold kLv; omega)).trans (by rw [← hw4]; exact (e_up_ne _ _ (Or.inr (by omega))).trans (by rw [← hw1]; exact (e_up_ne _ _ (Or.inr (by omega))).trans ha)))) (by omega)) (fun r17 w18 h19 => ?_)
    obtain ⟨rfl, q20f, q20T, q20x⟩ := h19
    have f21 : e_fr (kLe t a) w w18 := e_fr.trans f14 (e_fr.mono q20f (fun c k q => by unfold kFb at q; unfold kLe; omega))
    have q20e := q20x.2.2
    show e_Ok 20 elay kcode eI (d + 1) 44 (32, [(0, (1, 8)), (1, (1, 6 * t + 154)), (2, (1, cd))], [], w18) _
    refine e_Ok.rets rfl rfl ?_
    exact ⟨rfl, f21, q20T, ⟨q20x.1, (sK.fr q20f (by unfold kFb; omega) (fun k => by unfold kFb; omega) (sK.fr q12f (by unfold kLv; omega) (fun k => by unfold kLv; omega) hsk)), (show w18 (6 * t + 154) 2 = a from ((q20f (6 * t + 154) 2 (by unfold kFb; omega)).trans ((q12f (6 * t + 154) 2 (by unfold kLv; omega)).trans (by rw [← hw4]; exact (e_up_ne _ _ (Or.inr (by omega))).trans (by rw [← hw1]; exact (e_up_ne _ _ (Or.inr (by omega))).trans ha))))), by omega, by omega, Or.inr q20x.2.1⟩⟩
end
