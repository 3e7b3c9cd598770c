-- part cg
section
noncomputable section
/-! the class: what leads a task -/
def kWc (t : Int) (c k : Int) : Prop := (c = 8 ∧ (k = 8 ∨ k = 10 ∨ k = 11)) ∨ c = 84 ∨ (c = 6 * t + 154 ∧ (k = 3 ∨ k = 4 ∨ k = 13 ∨ k = 14)) ∨ c = 6 * t + 155 ∨ c = 6 * t + 156
def kLe (t a : Int) (c k : Int) : Prop := (c = 6 * t + 154 ∧ (k = 1 ∨ k = 3 ∨ k = 4 ∨ k = 5 ∨ k = 6 ∨ k = 15)) ∨ c = 6 * t + 158 ∨ c = 6 * t + 159 ∨ (154 ≤ c ∧ c ≤ 249 ∧ (c - 154) % 6 = 0 ∧ k = 10) ∨ (c = 74 ∧ k = 1) ∨ c = 75 ∨ c = 83 ∨ (c = 8 ∧ (k = 8 ∨ k = 10 ∨ k = 11)) ∨ c = 84 ∨ (c = 17 * a + 86 ∧ (k = 11 ∨ k = 13 ∨ k = 16 ∨ k = 18))
section Kg
variable {w w' : eW} {OP OD CL : Int → Int → Int} {h t0 : Int}
theorem kI.tsx {t : Int} (q : kI w OP OD CL h t) (hT : e_Has kTy w') (ht : 0 ≤ t ∧ t ≤ 15) {S : Int → Int → Prop} (f : e_fr S w w') (hS : ∀ c k, S c k → kTh t c k) (hk : ¬ S (6 * t + 154) 1 ∧ ¬ S (6 * t + 154) 2 ∧ ¬ S (6 * t + 154) 11 ∧ ¬ S (6 * t + 154) 12 ∧ ¬ S (6 * t + 154) 13) (h1 : w (6 * t + 154) 1 = 1) (hs : tSx w' (6 * t + 154) (OP (w (6 * t + 154) 2))) : kI w' OP OD CL h t := by
  have h2 := e_Has.get q.1 (c := 6 * t + 154) (k := 2) (lo := -1) (hi := 3) (kT_2 (t := t) rfl ht) (by decide)
  have q0 := q.ts ht.1 ht.2
  have qa := q0.1.1 (by omega) (by omega)
  have qg := (q0.2 (by omega) (by omega)).1
  have e1 := f _ _ hk.1
  have e2 := f _ _ hk.2.1
  refine kI.tg q hT ht (f.mono hS) e2 ⟨qa, h2.2⟩ ⟨fun _ _ => by rw [e2]; exact qa, fun g => by omega, fun g => by omega⟩ (fun _ _ => ⟨hs, ?_⟩)
  rw [f _ _ hk.2.2.1, f _ _ hk.2.2.2.1, f _ _ hk.2.2.2.2]
  exact qg.2
theorem kI.tsx0 {t : Int} (q : kI w OP OD CL h t) (ht : 0 ≤ t ∧ t ≤ 15) (h1 : w (6 * t + 154) 1 = 1) : tSx w (6 * t + 154) (OP (w (6 * t + 154) 2)) := ((q.ts ht.1 ht.2).2 (by omega) (by omega)).1.1
theorem kI.pc {t z : Int} (q : kI w OP OD CL h t) (hT : e_Has kTy w') (ht : 0 ≤ t ∧ t ≤ 15) (h1 : w (6 * t + 154) 1 = 1) (hw : e_up w (6 * t + 154) 3 z = w') : kI w' OP OD CL h t :=
  kI.tsx q hT ht (S := fun c k => c = 6 * t + 154 ∧ k = 3) (fun c k g => by rw [← hw]; exact e_up_ne _ _ (by omega)) (fun c k g => Or.inr (by omega)) (by omega) h1 ((q.tsx0 ht h1).eq (fun d k g => by rw [← hw]; exact e_up_ne _ _ (by omega)))
theorem th_kEn {t c k : Int} (g : kEn t c k) : kTh t c k := Or.inr (by unfold kEn at g; omega)
theorem th_kLv {t c k : Int} (g : kLv t c k) : kTh t c k := Or.inr (by unfold kLv at g; omega)
theorem th_kOt {t c k : Int} (g : kOt t c k) : kTh t c k := Or.inr (by unfold kOt at g; omega)
end Kg
theorem nds {c k c' k' : Int} (g : ¬ kHm c k) (h : c' = 8 ∧ 8 ≤ k' ∧ k' ≤ 11) : c ≠ c' ∨ k ≠ k' := by
  by_cases e : c = c'
  · exact Or.inr (fun e2 => g (Or.inl (by rw [e, e2]; exact h)))
  · exact Or.inl e
theorem no_cg_0 {t : Int} (ht : 0 ≤ t ∧ t ≤ 15) : ¬ kDs (6 * t + 154) 3 := by unfold kDs; omega
theorem no_cg_1 {t : Int} (ht : 0 ≤ t ∧ t ≤ 15) : ¬ kDs (6 * t + 154) 1 := by unfold kDs; omega
theorem no_cg_2 {t : Int} (ht : 0 ≤ t ∧ t ≤ 15) : ¬ kEn t (6 * t + 154) 1 := by unfold kEn; omega
theorem no_cg_3 {t : Int} (ht : 0 ≤ t ∧ t ≤ 15) : ¬ kDs (6 * t + 154) 2 := by unfold kDs; omega
theorem no_cg_4 {t : Int} (ht : 0 ≤ t ∧ t ≤ 15) : ¬ kEn t (6 * t + 154) 2 := by unfold kEn; omega
theorem su_cg_9 {t : Int} {c k : Int} (q : kEn t c k) : kWc t c k := by
  unfold kEn at q
  rcases q with ⟨q, (q | q)⟩ | q | q
  · exact Or.inr (Or.inr (Or.inl ⟨(by omega), Or.inl (by omega)⟩))
  · exact Or.inr (Or.inr (Or.inl ⟨(by omega), Or.inr (Or.inl (by omega))⟩))
  · exact Or.inr (Or.inr (Or.inr (Or.inl (by omega))))
  · exact Or.inr (Or.inr (Or.inr (Or.inr (by omega))))
theorem su_cg_10 {t : Int} {c k : Int} (q : kDs c k) : kWc t c k := by
  unfold kDs at q
  rcases q with ⟨q, (q | q | q)⟩ | q
  · exact Or.inl ⟨(by omega), Or.inl (by omega)⟩
  · exact Or.inl ⟨(by omega), Or.inr (Or.inl (by omega))⟩
  · exact Or.inl ⟨(by omega), Or.inr (Or.inr (by omega))⟩
  · exact Or.inr (Or.inl (by omega))
theorem c_47 {d : Nat} (hd : 23 ≤ d) {w : eW} (hT : e_Has kTy w) {t : Int} (g_t : 0 ≤ t ∧ t ≤ 15) {OP OD CL : Int → Int → Int} {h : Int} (q : kI w OP OD CL h t) (hk : sK w) (hst : w (6 * t + 154) 1 = 1) {a : Int} (ga : 0 ≤ a ∧ a ≤ 3) (ha : w (6 * t + 154) 2 = a) {cd : Int} (hcv : w (17 * a + 86) 7 = cd) (hpc : 40 ≤ OP a (w (6 * t + 154) 3)) : e_Ok 20 elay kcode eI d 47 (0, [(0, (1, 8)), (1, (1, 6 * t + 154)), (2, (1, cd))], [], w) (fun r w' => ∃ z : Int, r = [(0, z)] ∧ e_fr (kWc t) w w' ∧ e_Has kTy w' ∧ (0 ≤ z ∧ z ≤ 1) ∧ (kI w' OP OD CL h t ∧ sK w' ∧ w' (6 * t + 154) 1 = 1 ∧ w' (6 * t + 154) 2 = a ∧ ((z = 0 ∧ w' (6 * t + 154) 3 = w (6 * t + 154) 3) ∨ (z = 1 ∧ 40 ≤ OP a (w' (6 * t + 154) 3))))) := by
  obtain ⟨d, rfl⟩ : ∃ e, d = e + 1 := ⟨d - 1, by omega⟩
  have hco := q.co (a := a) (by omega) (by omega)
  rw [hcv] at hco
  have hcd := hco.1.1
  have hcd0 := hcd
  unfold isCd at hcd0
  have hD := hco.2.1
  have hts := q.tsx0 (by omega) hst
  rw [ha] at hts
  have hac := ((q.ts (t := t) (by omega) (by omega)).2 (by omega) (by omega)).1
  refine e_Ok.run (t' := (1, [(0, (1, 8)), (1, (1, 6 * t + 154)), (2, (1, cd))], [(1, 6 * t + 154)], w)) 1 rfl ?_
  have h1 := (e_Has.get hT (c := 6 * t + 154) (k := 14) (lo := (-2147483648)) (hi := 2147483647) (kT_14 (t := t) rfl g_t) (by decide))
  refine e_Ok.getf (z := w (6 * t + 154) 14) rfl (lT0 (t := t) rfl g_t) rfl rfl rfl (e_bq h1 (by decide) (by decide)) ?_
  refine e_Ok.ps1 (x := (1, 6 * t + 154)) (q := 5) 1 rfl ?_
  have h2 := (e_Has.get hT (c := 6 * t + 154) (k := 4) (lo := 0) (hi := 20) (kT_4 (t := t) rfl g_t) (by decide))
  refine e_Ok.getf (z := w (6 * t + 154) 4) rfl (lT0 (t := t) rfl g_t) rfl rfl rfl (e_bq h2 (by decide) (by decide)) ?_
  refine e_Ok.if2 rfl (fun h3 => ?_) (fun h3 => ?_)
  · replace h3 : (w (6 * t + 154) 14 : Int) ≤ w (6 * t + 154) 4 := h3
    refine e_Ok.ps1 (x := (1, 6 * t + 154)) (q := 17) 1 rfl ?_
    have h4 := (e_Has.get hT (c := 6 * t + 154) (k := 11) (lo := (-1)) (hi := 63) (kT_11 (t := t) rfl g_t) (by decide))
    refine e_Ok.getf (z := w (6 * t + 154) 11) rfl (lT0 (t := t) rfl g_t) rfl rfl rfl (e_bq h4 (by decide) (by decide)) ?_
    refine e_Ok.if1 rfl (fun h5 => ?_) (fun h5 => ?_)
    · replace h5 : (w (6 * t + 154) 11 : Int) < 0 := h5
      refine e_Ok.ps1 (x := (0, 0)) (q := 31) 1 rfl ?_
      refine e_Ok.rets rfl rfl ?_
      exact ⟨_, rfl, (e_fr.refl w), hT, ⟨by omega, by omega⟩, ⟨q, hk, hst, ha, Or.inl ⟨rfl, rfl⟩⟩⟩
    · replace h5 : (w (6 * t + 154) 11 : Int) ≥ 0 := Int.not_lt.mp (show ¬ ((w (6 * t + 154) 11 : Int) < 0) from h5)
      refine e_Ok.ps1 (x := (1, 6 * t + 154)) (q := 24) 1 rfl ?_
      refine e_Ok.getf (z := w (6 * t + 154) 14) rfl (lT0 (t := t) rfl g_t) rfl rfl rfl (by omega) ?_
      refine e_Ok.if1 rfl (fun h6 => ?_) (fun h6 => ?_)
      · replace h6 : (w (6 * t + 154) 14 : Int) ≤ 0 := h6
        have hwa := hac.2 (by omega); rw [ha, hcv] at hwa; unfold kn1 at hwa
        have hnr := e_Has.get hT (c := cd) (k := 1) (lo := 0) (hi := 32) (kD_1 hcd) (by decide)
        refine e_Ok.ps1 (x := (1, 8)) (q := 33) 1 rfl ?_
        refine e_Ok.getr (z := 10) rfl (el_o rfl) rfl rfl (e_Has.eq hT (kt_o rfl)) ⟨by decide, by decide⟩ ?_
        refine e_Ok.getr (z := 13) rfl (el_o rfl) rfl rfl (e_Has.eq hT (kt_o rfl)) ⟨by decide, by decide⟩ ?_
        refine e_Ok.ps1 (x := (1, 6 * t + 154)) (q := 40) 1 rfl ?_
        refine e_Ok.getf (z := w (6 * t + 154) 11) rfl (lT0 (t := t) rfl g_t) rfl rfl rfl (by omega) ?_
        have h7 := (e_Has.get hT (c := 13) (k := w (6 * t + 154) 11) (lo := (-2147483648)) (hi := 2147483647) rfl (by decide))
        refine e_Ok.ald (z := w 13 (w (6 * t + 154) 11)) rfl rfl rfl (by omega) rfl (e_bq h7 (by decide) (by decide)) ?_
        refine e_Ok.ps1 (x := (1, 6 * t + 154)) (q := 45) 1 rfl ?_
        refine e_Ok.getf (z := w (6 * t + 154) 13) rfl (lT0 (t := t) rfl g_t) rfl rfl rfl (by omega) ?_
        refine e_Ok.if2 rfl (fun h8 => ?_) (fun h8 => ?_)
        · replace h8 : (w 13 (w (6 * t + 154) 11) : Int) ≠ w (6 * t + 154) 13 := h8
          refine e_Ok.ps2 (x := (1, 8)) (y := (1, 6 * t + 154)) (q := 55) 2 rfl ?_
          refine e_Ok.getr (z := 10) rfl (el_o rfl) rfl rfl (e_Has.eq hT (kt_o rfl)) ⟨by decide, by decide⟩ ?_
          refine e_Ok.getr (z := 13) rfl (el_o rfl) rfl rfl (e_Has.eq hT (kt_o rfl)) ⟨by decide, by decide⟩ ?_
          refine e_Ok.ps1 (x := (1, 6 * t + 154)) (q := 62) 1 rfl ?_
          refine e_Ok.getf (z := w (6 * t + 154) 11) rfl (lT0 (t := t) rfl g_t) rfl rfl rfl (by omega) ?_
          refine e_Ok.ald (z := w 13 (w (6 * t + 154) 11)) rfl rfl rfl (by omega) rfl (by omega) ?_
          refine e_Ok.putf rfl (lT0 (t := t) rfl g_t) rfl rfl ?_
          generalize hw9 : e_up w (6 * t + 154) 13 (w 13 (w (6 * t + 154) 11)) = w9
          have hT11 : e_Has kTy w9 := e_Has.ups hT hw9 (kT_13 (t := t) rfl g_t)
          have hg0 := ((q.ts (t := t) (by omega) (by omega)).2 (by rw [hst]; decide) (by rw [hst]; decide)).1
          have Q12 : kI w9 OP OD CL h t := kI.tg q hT11 (by omega) (fun c k g => by rw [← hw9]; exact e_up_ne _ _ (by unfold kTh at g; omega)) (e_un hw9 (by omega)) (by rw [ha]; omega) ⟨fun _ _ => by rw [(show w9 (6 * t + 154) 2 = a from (e_uq hw9 (Or.inr (by omega)) ha))]; omega, fun g => by rw [(show w9 (6 * t + 154) 1 = w (6 * t + 154) 1 from (e_uq hw9 (Or.inr (by omega)) rfl)), hst] at g; omega, fun g => by rw [(show w9 (6 * t + 154) 1 = w (6 * t + 154) 1 from (e_uq hw9 (Or.inr (by omega)) rfl)), hst] at g; omega⟩ (fun _ _ => ⟨hg0.1.eq (fun d k g => by rw [← hw9]; exact e_up_ne _ _ (by omega)), fun g => ⟨by rw [show w9 (6 * t + 154) 12 = w (6 * t + 154) 12 from by rw [← hw9]; exact e_up_ne _ _ (by omega)]; exact (hg0.2 (by rw [show w9 (6 * t + 154) 11 = w (6 * t + 154) 11 from by rw [← hw9]; exact e_up_ne _ _ (by omega)] at g; exact g)).1, by rw [show w9 (6 * t + 154) 13 = w 13 (w (6 * t + 154) 11) from (e_ue hw9)]; unfold kn1; omega⟩⟩)
          refine e_Ok.ps2 (x := (1, cd)) (y := (1, 6 * t + 154)) (q := 71) 2 rfl ?_
          refine e_Ok.getr (z := cd + 1) rfl (lD0 hcd) rfl rfl (e_uq hw9 (Or.inr (by decide)) (Eq.trans (e_Has.eq hT (kD_3 hcd)) (by omega))) (by omega) ?_
          refine e_Ok.ps1 (x := (1, 6 * t + 154)) (q := 75) 1 rfl ?_
          refine e_Ok.getf (z := w (6 * t + 154) 12) rfl (lT0 (t := t) rfl g_t) rfl rfl (e_uq hw9 (Or.inr (by decide)) rfl) (by omega) ?_
          have h13 := (e_Has.get hT (c := cd + 1) (k := w (6 * t + 154) 12) (lo := (-2147483648)) (hi := 2147483647) (kD1 (d := cd) _ (by omega) hcd) (by decide))
          refine e_Ok.ald (z := w (cd + 1) (w (6 * t + 154) 12)) rfl (lD1 (d := cd) (by omega) hcd) rfl (by omega) (e_uq hw9 (Or.inl (by omega)) rfl) (e_bq h13 (by decide) (by decide)) ?_
          have ts17 := kI.tsx0 Q12 (by omega) (Eq.trans (show w9 (6 * t + 154) 1 = w (6 * t + 154) 1 from (e_uq hw9 (Or.inr (by first | decide | omega)) rfl)) hst); rw [(show w9 (6 * t + 154) 2 = a from (e_uq hw9 (Or.inr (by first | decide | omega)) ha))] at ts17
          refine e_Ok.callV rfl (e_dq hd rfl) rfl (lT0 (t := t) rfl g_t) rfl rfl (c_182 (t := t) (op := OP a) hT11 (by omega) (by omega) ts17 (fun _ => by rw [show w9 (6 * t + 154) 3 = w (6 * t + 154) 3 from (e_uq hw9 (Or.inr (by first | decide | omega)) rfl)]; exact hpc)) (fun r14 w15 h16 => ?_)
          obtain ⟨z19, rfl, q18f, q18T, q18s, q18x⟩ := h16
          have f20 : e_fr (kWc t) w w15 := e_fr.trans (show e_fr (kWc t) w w9 from e_fr.up (e_fr.refl w) hw9 (by first | exact Or.inr (Or.inr (Or.inl ⟨(by omega), Or.inr (Or.inr (Or.inl rfl))⟩)) | (unfold kWc; omega))) (e_fr.mono q18f (fun c k q => by first | exact su_cg_9 q | (unfold kEn at q; unfold kWc; omega)))
          have Q21 := kI.tsx Q12 q18T (by omega) q18f (fun c k g => th_kEn g) (by unfold kEn; omega) (Eq.trans (show w9 (6 * t + 154) 1 = w (6 * t + 154) 1 from (e_uq hw9 (Or.inr (by omega)) rfl)) hst) (by rw [(show w9 (6 * t + 154) 2 = a from (e_uq hw9 (Or.inr (by omega)) ha))]; exact q18s)
          refine e_Ok.nrm (q := 82) (st' := [(0, z19)]) rfl rfl ?_
          refine e_Ok.if1 rfl (fun h22 => ?_) (fun h22 => ?_)
          · replace h22 : (z19 : Int) = 0 := h22
            refine e_Ok.ps2 (x := (0, 8)) (y := (1, 8)) (q := 99) 2 rfl ?_
            refine e_Ok.callV rfl (e_dq hd rfl) rfl rfl rfl rfl (c_46 q18T (by omega) (sK.fr q18f (by unfold kEn; omega) (fun k => by unfold kEn; omega) (sK.eq (fun c k g => by rw [← hw9, e_up_ne _ _ (by omega)]) hk))) (fun r23 w24 h25 => ?_)
            obtain ⟨rfl, q26f, q26T, q26x⟩ := h25
            have Q28 := kI.hm Q21 q26T (e_fr.mono q26f (fun c k g => hm_kDs g))
            refine e_Ok.nrm (q := 102) (st' := []) rfl rfl ?_
            refine e_Ok.ps1 (x := (0, 1)) (q := 103) 1 rfl ?_
            refine e_Ok.rets rfl rfl ?_
            have e3 : w24 (6 * t + 154) 3 = w15 (6 * t + 154) 3 := ((q26f (6 * t + 154) 3 (by first | exact no_cg_0 (by omega) | (unfold kDs; omega))).trans rfl)
            have e30 : w9 (6 * t + 154) 3 = w (6 * t + 154) 3 := (e_uq hw9 (Or.inr (by decide)) rfl)
            exact ⟨_, rfl, (show e_fr (kWc t) w w24 from e_fr.trans f20 (e_fr.mono q26f (fun c k q => by first | exact su_cg_10 q | (unfold kDs at q; unfold kWc; omega)))), q26T, ⟨by omega, by omega⟩, ⟨Q28, q26x, (Eq.trans (show w24 (6 * t + 154) 1 = w (6 * t + 154) 1 from ((q26f (6 * t + 154) 1 (by first | exact no_cg_1 (by omega) | (unfold kDs; omega))).trans ((q18f (6 * t + 154) 1 (by first | exact no_cg_2 (by omega) | (unfold kEn; omega))).trans (e_uq hw9 (Or.inr (by first | decide | omega)) rfl)))) hst), (show w24 (6 * t + 154) 2 = a from ((q26f (6 * t + 154) 2 (by first | exact no_cg_3 (by omega) | (unfold kDs; omega))).trans ((q18f (6 * t + 154) 2 (by first | exact no_cg_4 (by omega) | (unfold kEn; omega))).trans (e_uq hw9 (Or.inr (by first | decide | omega)) ha)))), Or.inr ⟨rfl, (by rw [e3]; rcases q18x with ⟨g1, g2, g3⟩ | ⟨g1, g2, g3⟩; (rw [g3]; exact hco.2.2.1 _ (by omega) (by omega)); (rw [g2, e30]; exact hpc))⟩⟩⟩
          · replace h22 : (z19 : Int) ≠ 0 := (show ¬ ((z19 : Int) = 0) from h22)
            refine e_Ok.ps2 (x := (1, 6 * t + 154)) (y := (1, 6 * t + 154)) (q := 87) 2 rfl ?_
            have h29 := (e_Has.get q18T (c := 6 * t + 154) (k := 4) (lo := 0) (hi := 20) (kT_4 (t := t) rfl g_t) (by decide))
            refine e_Ok.getf (z := w15 (6 * t + 154) 4) rfl (lT0 (t := t) rfl g_t) rfl rfl rfl (e_bq h29 (by decide) (by decide)) ?_
            refine e_Ok.putf rfl (lT0 (t := t) rfl g_t) rfl rfl ?_
            generalize hw30 : e_up w15 (6 * t + 154) 14 (w15 (6 * t + 154) 4) = w30
            have hT32 : e_Has kTy w30 := e_Has.upr q18T hw30 (kT_14 (t := t) rfl g_t) (by omega)
            refine e_Ok.ps1 (x := (0, 1)) (q := 103) 2 rfl ?_
            refine e_Ok.rets rfl rfl ?_
            have Q33 := kI.hu Q21 hT32 hw30 (hm_t (by omega) (by omega))
            have e3 : w30 (6 * t + 154) 3 = w15 (6 * t + 154) 3 := (e_uq hw30 (Or.inr (by decide)) rfl)
            have e30 : w9 (6 * t + 154) 3 = w (6 * t + 154) 3 := (e_uq hw9 (Or.inr (by decide)) rfl)
            exact ⟨_, rfl, (show e_fr (kWc t) w w30 from e_fr.up f20 hw30 (by first | exact Or.inr (Or.inr (Or.inl ⟨(by omega), Or.inr (Or.inr (Or.inr rfl))⟩)) | (unfold kWc; omega))), hT32, ⟨by omega, by omega⟩, ⟨Q33, (sK.eq (fun c k g => by rw [← hw30, e_up_ne _ _ (by omega)]) (sK.fr q18f (by unfold kEn; omega) (fun k => by unfold kEn; omega) (sK.eq (fun c k g => by rw [← hw9, e_up_ne _ _ (by omega)]) hk))), (Eq.trans (show w30 (6 * t + 154) 1 = w (6 * t + 154) 1 from (e_uq hw30 (Or.inr (by omega)) ((q18f (6 * t + 154) 1 (by first | exact no_cg_2 (by omega) | (unfold kEn; omega))).trans (e_uq hw9 (Or.inr (by omega)) rfl)))) hst), (show w30 (6 * t + 154) 2 = a from (e_uq hw30 (Or.inr (by omega)) ((q18f (6 * t + 154) 2 (by first | exact no_cg_4 (by omega) | (unfold kEn; omega))).trans (e_uq hw9 (Or.inr (by omega)) ha)))), Or.inr ⟨rfl, (by rw [e3]; rcases q18x with ⟨g1, g2, g3⟩ | ⟨g1, g2, g3⟩; (rw [g3]; exact hco.2.2.1 _ (by omega) (by omega)); (rw [g2, e30]; exact hpc))⟩⟩⟩
        · replace h8 : (w 13 (w (6 * t + 154) 11) : Int) = w (6 * t + 154) 13 := Classical.not_not.mp (show ¬ ((w 13 (w (6 * t + 154) 11) : Int) ≠ w (6 * t + 154) 13) from h8)
          refine e_Ok.ps1 (x := (0, 0)) (q := 52) 1 rfl ?_
          refine e_Ok.rets rfl rfl ?_
          exact ⟨_, rfl, (e_fr.refl w), hT, ⟨by omega, by omega⟩, ⟨q, hk, hst, ha, Or.inl ⟨rfl, rfl⟩⟩⟩
      · replace h6 : (w (6 * t + 154) 14 : Int) > 0 := Int.not_le.mp (show ¬ ((w (6 * t + 154) 14 : Int) ≤ 0) from h6)
        refine e_Ok.ps1 (x := (0, 0)) (q := 31) 1 rfl ?_
        refine e_Ok.rets rfl rfl ?_
        exact ⟨_, rfl, (e_fr.refl w), hT, ⟨by omega, by omega⟩, ⟨q, hk, hst, ha, Or.inl ⟨rfl, rfl⟩⟩⟩
  · replace h3 : (w (6 * t + 154) 14 : Int) > w (6 * t + 154) 4 := Int.not_le.mp (show ¬ ((w (6 * t + 154) 14 : Int) ≤ w (6 * t + 154) 4) from h3)
    refine e_Ok.ps2 (x := (0, 0)) (y := (1, 6 * t + 154)) (q := 13) 2 rfl ?_
    refine e_Ok.putf rfl (lT0 (t := t) rfl g_t) rfl rfl ?_
    generalize hw34 : e_up w (6 * t + 154) 14 0 = w34
    have f35 : e_fr (kWc t) w w34 := e_fr.up (e_fr.refl w) hw34 (by first | exact Or.inr (Or.inr (Or.inl ⟨(by omega), Or.inr (Or.inr (Or.inr rfl))⟩)) | (unfold kWc; omega))
    have hT36 : e_Has kTy w34 := e_Has.upr hT hw34 (kT_14 (t := t) rfl g_t) (by omega)
    refine e_Ok.ps1 (x := (1, 6 * t + 154)) (q := 17) 1 rfl ?_
    have h37 := (e_Has.get hT (c := 6 * t + 154) (k := 11) (lo := (-1)) (hi := 63) (kT_11 (t := t) rfl g_t) (by decide))
    refine e_Ok.getf (z := w (6 * t + 154) 11) rfl (lT0 (t := t) rfl g_t) rfl rfl (e_uq hw34 (Or.inr (by decide)) rfl) (e_bq h37 (by decide) (by decide)) ?_
    refine e_Ok.if1 rfl (fun h38 => ?_) (fun h38 => ?_)
    · replace h38 : (w (6 * t + 154) 11 : Int) < 0 := h38
      refine e_Ok.ps1 (x := (0, 0)) (q := 31) 1 rfl ?_
      refine e_Ok.rets rfl rfl ?_
      have Q40 := kI.hu q hT36 hw34 (hm_t (by omega) (by omega))
      exact ⟨_, rfl, f35, hT36, ⟨by omega, by omega⟩, ⟨Q40, (sK.eq (fun c k g => by rw [← hw34, e_up_ne _ _ (by omega)]) hk), (Eq.trans (show w34 (6 * t + 154) 1 = w (6 * t + 154) 1 from (e_uq hw34 (Or.inr (by omega)) rfl)) hst), (show w34 (6 * t + 154) 2 = a from (e_uq hw34 (Or.inr (by omega)) ha)), Or.inl ⟨rfl, (e_uq hw34 (Or.inr (by omega)) rfl)⟩⟩⟩
    · replace h38 : (w (6 * t + 154) 11 : Int) ≥ 0 := Int.not_lt.mp (show ¬ ((w (6 * t + 154) 11 : Int) < 0) from h38)
      refine e_Ok.ps1 (x := (1, 6 * t + 154)) (q := 24) 1 rfl ?_
      refine e_Ok.getf (z := 0) rfl (lT0 (t := t) rfl g_t) rfl rfl (e_ue hw34) (by omega) ?_
      refine e_Ok.if1 rfl (fun h41 => ?_) (fun h41 => ?_)
      · replace h41 : (0 : Int) ≤ 0 := h41
        have hwa := hac.2 (by omega); rw [ha, hcv] at hwa; unfold kn1 at hwa
        have hnr := e_Has.get hT (c := cd) (k := 1) (lo := 0) (hi := 32) (kD_1 hcd) (by decide)
        refine e_Ok.ps1 (x := (1, 8)) (q := 33) 1 rfl ?_
        refine e_Ok.getr (z := 10) rfl (el_o rfl) rfl rfl (e_uq hw34 (Or.inr (by decide)) (e_Has.eq hT (kt_o rfl))) ⟨by decide, by decide⟩ ?_
        refine e_Ok.getr (z := 13) rfl (el_o rfl) rfl rfl (e_uq hw34 (Or.inr (by decide)) (e_Has.eq hT (kt_o rfl))) ⟨by decide, by decide⟩ ?_
        refine e_Ok.ps1 (x := (1, 6 * t + 154)) (q := 40) 1 rfl ?_
        refine e_Ok.getf (z := w (6 * t + 154) 11) rfl (lT0 (t := t) rfl g_t) rfl rfl (e_uq hw34 (Or.inr (by decide)) rfl) (by omega) ?_
        have h42 := (e_Has.get hT (c := 13) (k := w (6 * t + 154) 11) (lo := (-2147483648)) (hi := 2147483647) rfl (by decide))
        refine e_Ok.ald (z := w 13 (w (6 * t + 154) 11)) rfl rfl rfl (by omega) (e_uq hw34 (Or.inl (by omega)) rfl) (e_bq h42 (by decide) (by decide)) ?_
        refine e_Ok.ps1 (x := (1, 6 * t + 154)) (q := 45) 1 rfl ?_
        refine e_Ok.getf (z := w (6 * t + 154) 13) rfl (lT0 (t := t) rfl g_t) rfl rfl (e_uq hw34 (Or.inr (by decide)) rfl) (by omega) ?_
        refine e_Ok.if2 rfl (fun h43 => ?_) (fun h43 => ?_)
        · replace h43 : (w 13 (w (6 * t + 154) 11) : Int) ≠ w (6 * t + 154) 13 := h43
          refine e_Ok.ps2 (x := (1, 8)) (y := (1, 6 * t + 154)) (q := 55) 2 rfl ?_
          refine e_Ok.getr (z := 10) rfl (el_o rfl) rfl rfl (e_uq hw34 (Or.inr (by decide)) (e_Has.eq hT (kt_o rfl))) ⟨by decide, by decide⟩ ?_
          refine e_Ok.getr (z := 13) rfl (el_o rfl) rfl rfl (e_uq hw34 (Or.inr (by decide)) (e_Has.eq hT (kt_o rfl))) ⟨by decide, by decide⟩ ?_
          refine e_Ok.ps1 (x := (1, 6 * t + 154)) (q := 62) 1 rfl ?_
          refine e_Ok.getf (z := w (6 * t + 154) 11) rfl (lT0 (t := t) rfl g_t) rfl rfl (e_uq hw34 (Or.inr (by decide)) rfl) (by omega) ?_
          refine e_Ok.ald (z := w 13 (w (6 * t + 154) 11)) rfl rfl rfl (by omega) (e_uq hw34 (Or.inl (by omega)) rfl) (by omega) ?_
          refine e_Ok.putf rfl (lT0 (t := t) rfl g_t) rfl rfl ?_
          generalize hw44 : e_up w34 (6 * t + 154) 13 (w 13 (w (6 * t + 154) 11)) = w44
          have hT46 : e_Has kTy w44 := e_Has.ups hT36 hw44 (kT_13 (t := t) rfl g_t)
          have Q47 := kI.hu q hT36 hw34 (hm_t (by omega) (by omega))
          have hg0 := ((Q47.ts (t := t) (by omega) (by omega)).2 (by rw [(Eq.trans (show w34 (6 * t + 154) 1 = w (6 * t + 154) 1 from (e_uq hw34 (Or.inr (by first | decide | omega)) rfl)) hst)]; decide) (by rw [(Eq.trans (show w34 (6 * t + 154) 1 = w (6 * t + 154) 1 from (e_uq hw34 (Or.inr (by first | decide | omega)) rfl)) hst)]; decide)).1
          have Q48 : kI w44 OP OD CL h t := kI.tg Q47 hT46 (by omega) (fun c k g => by rw [← hw44]; exact e_up_ne _ _ (by unfold kTh at g; omega)) (e_un hw44 (by omega)) (by rw [(show w34 (6 * t + 154) 2 = a from (e_uq hw34 (Or.inr (by omega)) ha))]; omega) ⟨fun _ _ => by rw [(show w44 (6 * t + 154) 2 = a from (e_uq hw44 (Or.inr (by omega)) (e_uq hw34 (Or.inr (by omega)) ha)))]; omega, fun g => by rw [(show w44 (6 * t + 154) 1 = w (6 * t + 154) 1 from (e_uq hw44 (Or.inr (by omega)) (e_uq hw34 (Or.inr (by omega)) rfl))), hst] at g; omega, fun g => by rw [(show w44 (6 * t + 154) 1 = w (6 * t + 154) 1 from (e_uq hw44 (Or.inr (by omega)) (e_uq hw34 (Or.inr (by omega)) rfl))), hst] at g; omega⟩ (fun _ _ => ⟨hg0.1.eq (fun d k g => by rw [← hw44]; exact e_up_ne _ _ (by omega)), fun g => ⟨by rw [show w44 (6 * t + 154) 12 = w34 (6 * t + 154) 12 from by rw [← hw44]; exact e_up_ne _ _ (by omega)]; exact (hg0.2 (by rw [show w44 (6 * t + 154) 11 = w34 (6 * t + 154) 11 from by rw [← hw44]; exact e_up_ne _ _ (by omega)] at g; exact g)).1, by rw [show w44 (6 * t + 154) 13 = w 13 (w (6 * t + 154) 11) from (e_ue hw44)]; unfold kn1; omega⟩⟩)
          refine e_Ok.ps2 (x := (1, cd)) (y := (1, 6 * t + 154)) (q := 71) 2 rfl ?_
          refine e_Ok.getr (z := cd + 1) rfl (lD0 hcd) rfl rfl (e_uq hw44 (Or.inr (by decide)) (e_uq hw34 (Or.inr (by decide)) (Eq.trans (e_Has.eq hT (kD_3 hcd)) (by omega)))) (by omega) ?_
          refine e_Ok.ps1 (x := (1, 6 * t + 154)) (q := 75) 1 rfl ?_
          refine e_Ok.getf (z := w (6 * t + 154) 12) rfl (lT0 (t := t) rfl g_t) rfl rfl (e_uq hw44 (Or.inr (by decide)) (e_uq hw34 (Or.inr (by decide)) rfl)) (by omega) ?_
          have h49 := (e_Has.get hT (c := cd + 1) (k := w (6 * t + 154) 12) (lo := (-2147483648)) (hi := 2147483647) (kD1 (d := cd) _ (by omega) hcd) (by decide))
          refine e_Ok.ald (z := w (cd + 1) (w (6 * t + 154) 12)) rfl (lD1 (d := cd) (by omega) hcd) rfl (by omega) (e_uq hw44 (Or.inl (by omega)) (e_uq hw34 (Or.inl (by omega)) rfl)) (e_bq h49 (by decide) (by decide)) ?_
          have ts53 := kI.tsx0 Q48 (by omega) (Eq.trans (show w44 (6 * t + 154) 1 = w (6 * t + 154) 1 from (e_uq hw44 (Or.inr (by first | decide | omega)) (e_uq hw34 (Or.inr (by first | decide | omega)) rfl))) hst); rw [(show w44 (6 * t + 154) 2 = a from (e_uq hw44 (Or.inr (by first | decide | omega)) (e_uq hw34 (Or.inr (by first | decide | omega)) ha)))] at ts53
          refine e_Ok.callV rfl (e_dq hd rfl) rfl (lT0 (t := t) rfl g_t) rfl rfl (c_182 (t := t) (op := OP a) hT46 (by omega) (by omega) ts53 (fun _ => by rw [show w44 (6 * t + 154) 3 = w (6 * t + 154) 3 from (e_uq hw44 (Or.inr (by first | decide | omega)) (e_uq hw34 (Or.inr (by first | decide | omega)) rfl))]; exact hpc)) (fun r50 w51 h52 => ?_)
          obtain ⟨z55, rfl, q54f, q54T, q54s, q54x⟩ := h52
          have f56 : e_fr (kWc t) w w51 := e_fr.trans (show e_fr (kWc t) w w44 from e_fr.up f35 hw44 (by first | exact Or.inr (Or.inr (Or.inl ⟨(by omega), Or.inr (Or.inr (Or.inl rfl))⟩)) | (unfold kWc; omega))) (e_fr.mono q54f (fun c k q => by first | exact su_cg_9 q | (unfold kEn at q; unfold kWc; omega)))
          have Q57 := kI.tsx Q48 q54T (by omega) q54f (fun c k g => th_kEn g) (by unfold kEn; omega) (Eq.trans (show w44 (6 * t + 154) 1 = w (6 * t + 154) 1 from (e_uq hw44 (Or.inr (by omega)) (e_uq hw34 (Or.inr (by omega)) rfl))) hst) (by rw [(show w44 (6 * t + 154) 2 = a from (e_uq hw44 (Or.inr (by omega)) (e_uq hw34 (Or.inr (by omega)) ha)))]; exact q54s)
          refine e_Ok.nrm (q := 82) (st' := [(0, z55)]) rfl rfl ?_
          refine e_Ok.if1 rfl (fun h58 => ?_) (fun h58 => ?_)
          · replace h58 : (z55 : Int) = 0 := h58
            refine e_Ok.ps2 (x := (0, 8)) (y := (1, 8)) (q := 99) 2 rfl ?_
            refine e_Ok.callV rfl (e_dq hd rfl) rfl rfl rfl rfl (c_46 q54T (by omega) (sK.fr q54f (by unfold kEn; omega) (fun k => by unfold kEn; omega) (sK.eq (fun c k g => by rw [← hw44, e_up_ne _ _ (by omega), ← hw34, e_up_ne _ _ (by omega)]) hk))) (fun r59 w60 h61 => ?_)
            obtain ⟨rfl, q62f, q62T, q62x⟩ := h61
            have Q64 := kI.hm Q57 q62T (e_fr.mono q62f (fun c k g => hm_kDs g))
            refine e_Ok.nrm (q := 102) (st' := []) rfl rfl ?_
            refine e_Ok.ps1 (x := (0, 1)) (q := 103) 1 rfl ?_
            refine e_Ok.rets rfl rfl ?_
            have e3 : w60 (6 * t + 154) 3 = w51 (6 * t + 154) 3 := ((q62f (6 * t + 154) 3 (by first | exact no_cg_0 (by omega) | (unfold kDs; omega))).trans rfl)
            have e30 : w44 (6 * t + 154) 3 = w (6 * t + 154) 3 := (e_uq hw44 (Or.inr (by decide)) (e_uq hw34 (Or.inr (by decide)) rfl))
            exact ⟨_, rfl, (show e_fr (kWc t) w w60 from e_fr.trans f56 (e_fr.mono q62f (fun c k q => by first | exact su_cg_10 q | (unfold kDs at q; unfold kWc; omega)))), q62T, ⟨by omega, by omega⟩, ⟨Q64, q62x, (Eq.trans (show w60 (6 * t + 154) 1 = w (6 * t + 154) 1 from ((q62f (6 * t + 154) 1 (by first | exact no_cg_1 (by omega) | (unfold kDs; omega))).trans ((q54f (6 * t + 154) 1 (by first | exact no_cg_2 (by omega) | (unfold kEn; omega))).trans (e_uq hw44 (Or.inr (by first | decide | omega)) (e_uq hw34 (Or.inr (by first | decide | omega)) rfl))))) hst), (show w60 (6 * t + 154) 2 = a from ((q62f (6 * t + 154) 2 (by first | exact no_cg_3 (by omega) | (unfold kDs; omega))).trans ((q54f (6 * t + 154) 2 (by first | exact no_cg_4 (by omega) | (unfold kEn; omega))).trans (e_uq hw44 (Or.inr (by first | decide | omega)) (e_uq hw34 (Or.inr (by first | decide | omega)) ha))))), Or.inr ⟨rfl, (by rw [e3]; rcases q54x with ⟨g1, g2, g3⟩ | ⟨g1, g2, g3⟩; (rw [g3]; exact hco.2.2.1 _ (by omega) (by omega)); (rw [g2, e30]; exact hpc))⟩⟩⟩
          · replace h58 : (z55 : Int) ≠ 0 := (show ¬ ((z55 : Int) = 0) from h58)
            refine e_Ok.ps2 (x := (1, 6 * t + 154)) (y := (1, 6 * t + 154)) (q := 87) 2 rfl ?_
            have h65 := (e_Has.get q54T (c := 6 * t + 154) (k := 4) (lo := 0) (hi := 20) (kT_4 (t := t) rfl g_t) (by decide))
            refine e_Ok.getf (z := w51 (6 * t + 154) 4) rfl (lT0 (t := t) rfl g_t) rfl rfl rfl (e_bq h65 (by decide) (by decide)) ?_
            refine e_Ok.putf rfl (lT0 (t := t) rfl g_t) rfl rfl ?_
            generalize hw66 : e_up w51 (6 * t + 154) 14 (w51 (6 * t + 154) 4) = w66
            have hT68 : e_Has kTy w66 := e_Has.upr q54T hw66 (kT_14 (t := t) rfl g_t) (by omega)
            refine e_Ok.ps1 (x := (0, 1)) (q := 103) 2 rfl ?_
            refine e_Ok.rets rfl rfl ?_
            have Q69 := kI.hu Q57 hT68 hw66 (hm_t (by omega) (by omega))
            have e3 : w66 (6 * t + 154) 3 = w51 (6 * t + 154) 3 := (e_uq hw66 (Or.inr (by decide)) rfl)
            have e30 : w44 (6 * t + 154) 3 = w (6 * t + 154) 3 := (e_uq hw44 (Or.inr (by decide)) (e_uq hw34 (Or.inr (by decide)) rfl))
            exact ⟨_, rfl, (show e_fr (kWc t) w w66 from e_fr.up f56 hw66 (by first | exact Or.inr (Or.inr (Or.inl ⟨(by omega), Or.inr (Or.inr (Or.inr rfl))⟩)) | (unfold kWc; omega))), hT68, ⟨by omega, by omega⟩, ⟨Q69, (sK.eq (fun c k g => by rw [← hw66, e_up_ne _ _ (by omega)]) (sK.fr q54f (by unfold kEn; omega) (fun k => by unfold kEn; omega) (sK.eq (fun c k g => by rw [← hw44, e_up_ne _ _ (by omega), ← hw34, e_up_ne _ _ (by omega)]) hk))), (Eq.trans (show w66 (6 * t + 154) 1 = w (6 * t + 154) 1 from (e_uq hw66 (Or.inr (by omega)) ((q54f (6 * t + 154) 1 (by first | exact no_cg_2 (by omega) | (unfold kEn; omega))).trans (e_uq hw44 (Or.inr (by omega)) (e_uq hw34 (Or.inr (by omega)) rfl))))) hst), (show w66 (6 * t + 154) 2 = a from (e_uq hw66 (Or.inr (by omega)) ((q54f (6 * t + 154) 2 (by first | exact no_cg_4 (by omega) | (unfold kEn; omega))).trans (e_uq hw44 (Or.inr (by omega)) (e_uq hw34 (Or.inr (by omega)) ha))))), Or.inr ⟨rfl, (by rw [e3]; rcases q54x with ⟨g1, g2, g3⟩ | ⟨g1, g2, g3⟩; (rw [g3]; exact hco.2.2.1 _ (by omega) (by omega)); (rw [g2, e30]; exact hpc))⟩⟩⟩
        · replace h43 : (w 13 (w (6 * t + 154) 11) : Int) = w (6 * t + 154) 13 := Classical.not_not.mp (show ¬ ((w 13 (w (6 * t + 154) 11) : Int) ≠ w (6 * t + 154) 13) from h43)
          refine e_Ok.ps1 (x := (0, 0)) (q := 52) 1 rfl ?_
          refine e_Ok.rets rfl rfl ?_
          have Q70 := kI.hu q hT36 hw34 (hm_t (by omega) (by omega))
          exact ⟨_, rfl, f35, hT36, ⟨by omega, by omega⟩, ⟨Q70, (sK.eq (fun c k g => by rw [← hw34, e_up_ne _ _ (by omega)]) hk), (Eq.trans (show w34 (6 * t + 154) 1 = w (6 * t + 154) 1 from (e_uq hw34 (Or.inr (by omega)) rfl)) hst), (show w34 (6 * t + 154) 2 = a from (e_uq hw34 (Or.inr (by omega)) ha)), Or.inl ⟨rfl, (e_uq hw34 (Or.inr (by omega)) rfl)⟩⟩⟩
      · replace h41 : (0 : Int) > 0 := Int.not_le.mp (show ¬ ((0 : Int) ≤ 0) from h41)
        exfalso; omega
theorem no_cg_5 {t : Int} (ht : 0 ≤ t ∧ t ≤ 15) : ¬ kLv t (6 * t + 154) 2 := by unfold kLv; omega
theorem no_cg_6 {t : Int} (ht : 0 ≤ t ∧ t ≤ 15) : ¬ kLv t (6 * t + 154) 1 := by unfold kLv; omega
theorem no_cg_7 {t : Int} (ht : 0 ≤ t ∧ t ≤ 15) : ¬ kLv t 8 10 := by unfold kLv; omega
theorem no_cg_8 {t : Int} {a : Int} (ht : 0 ≤ t ∧ t ≤ 15) (ha : 0 ≤ a ∧ a ≤ 3) : ¬ kFb t a (6 * t + 154) 2 := by unfold kFb; omega
theorem su_cg_11 {t : Int} {a : Int} {c k : Int} (q : kLv t c k) : kLe t a c k := by
  unfold kLv at q
  rcases q with ⟨q, (q | q | q | q)⟩ | q | q
  · exact Or.inl ⟨(by omega), Or.inr (Or.inl (by omega))⟩
  · exact Or.inl ⟨(by omega), Or.inr (Or.inr (Or.inl (by omega)))⟩
  · exact Or.inl ⟨(by omega), Or.inr (Or.inr (Or.inr (Or.inr (Or.inl (by omega)))))⟩
  · exact Or.inl ⟨(by omega), Or.inr (Or.inr (Or.inr (Or.inr (Or.inr (by omega)))))⟩
  · exact Or.inr (Or.inl (by omega))
  · exact Or.inr (Or.inr (Or.inl (by omega)))
theorem su_cg_12 {t : Int} {a : Int} {c k : Int} (q : kFb t a c k) : kLe t a c k := by
  unfold kFb at q
  rcases q with ⟨q, (q | q | q | q)⟩ | ⟨q, ⟨q, ⟨q, q⟩⟩⟩ | ⟨q, q⟩ | q | q | ⟨q, (q | q | q | q)⟩
  · exact Or.inl ⟨(by omega), Or.inl (by omega)⟩
  · exact Or.inl ⟨(by omega), Or.inr (Or.inr (Or.inl (by omega)))⟩
  · exact Or.inl ⟨(by omega), Or.inr (Or.inr (Or.inr (Or.inl (by omega))))⟩
  · exact Or.inl ⟨(by omega), Or.inr (Or.inr (Or.inr (Or.inr (Or.inr (by omega)))))⟩
  · exact Or.inr (Or.inr (Or.inr (Or.inl ⟨(by omega), ⟨(by omega), ⟨(by omega), (by omega)⟩⟩⟩)))
  · exact Or.inr (Or.inr (Or.inr (Or.inr (Or.inl ⟨(by omega), (by omega)⟩))))
  · exact Or.inr (Or.inr (Or.inr (Or.inr (Or.inr (Or.inl (by omega))))))
  · exact Or.inr (Or.inr (Or.inr (Or.inr (Or.inr (Or.inr (Or.inl (by omega)))))))
  · exact Or.inr (Or.inr (Or.inr (Or.inr (Or.inr (Or.inr (Or.inr (Or.inr (Or.inr ⟨(by omega), Or.inl (by omega)⟩))))))))
  · exact Or.inr (Or.inr (Or.inr (Or.inr (Or.inr (Or.inr (Or.inr (Or.inr (Or.inr ⟨(by omega), Or.inr (Or.inl (by omega))⟩))))))))
  · exact Or.inr (Or.inr (Or.inr (Or.inr (Or.inr (Or.inr (Or.inr (Or.inr (Or.inr ⟨(by omega), Or.inr (Or.inr (Or.inl (by omega)))⟩))))))))
  · exact Or.inr (Or.inr (Or.inr (Or.inr (Or.inr (Or.inr (Or.inr (Or.inr (Or.inr ⟨(by omega), Or.inr (Or.inr (Or.inr (by omega)))⟩))))))))
theorem c_44 {d : Nat} (hd : 25 ≤ d) {w : eW} (hT : e_Has kTy w) {t : Int} (g_t : 0 ≤ t ∧ t ≤ 15) {OP OD CL : Int → Int → Int} {h : Int} (q : kI w OP OD CL h t) (hk : sK w) (hst : w (6 * t + 154) 1 = 1) {a : Int} (ga : 0 ≤ a ∧ a ≤ 3) (ha : w (6 * t + 154) 2 = a) {cd : Int} (hcv : w (17 * a + 86) 7 = cd) (hr : w 8 11 = 1) (he : w 74 1 < 2147483646) : e_Ok 20 elay kcode eI d 44 (0, [(0, (1, 8)), (1, (1, 6 * t + 154)), (2, (1, cd))], [], w) (fun r w' => r = [] ∧ e_fr (kLe t a) w w' ∧ e_Has kTy w' ∧ (kI w' OP OD CL h t ∧ sK w' ∧ w' (6 * t + 154) 2 = a ∧ w 74 1 ≤ w' 74 1 ∧ w' 74 1 ≤ w 74 1 + 2 ∧ ((w' (6 * t + 154) 1 = 1 ∧ (40 ≤ OP a (w' (6 * t + 154) 3)) ∧ w' 74 1 = w 74 1) ∨ w' (6 * t + 154) 1 = 7))) := by
  obtain ⟨d, rfl⟩ : ∃ e, d = e + 1 := ⟨d - 1, by omega⟩
  have hco := q.co (a := a) (by omega) (by omega)
  rw [hcv] at hco
  have hcd := hco.1.1
  have hcd0 := hcd
  unfold isCd at hcd0
  have hD := hco.2.1
  have hts := q.tsx0 (by omega) hst
  rw [ha] at hts
  have h74 := e_Has.get hT (c := 74) (k := 1) (lo := 0) (hi := 2147483647) (kt_o rfl) (by decide)
  have hre := hk.2.2.2 hr
  refine e_Ok.run (t' := (2, [(0, (1, 8)), (1, (1, 6 * t + 154)), (2, (1, cd))], [(0, 0), (1, 8)], w)) 2 rfl ?_
  refine e_Ok.putb rfl (el_o rfl) rfl rfl (by omega) ?_
  generalize hw1 : e_up w 8 11 0 = w1
  have hT3 : e_Has kTy w1 := e_Has.ups hT hw1 (kt_o rfl)
  refine e_Ok.ps2 (x := (0, 0)) (y := (1, 8)) (q := 7) 2 rfl ?_
  refine e_Ok.putf rfl (el_o rfl) rfl rfl ?_
  generalize hw4 : e_up w1 8 8 0 = w4
  have f5 : e_fr (kLe t a) w w4 := e_fr.up (show e_fr (kLe t a) w w1 from e_fr.up (e_fr.refl w) hw1 (by first | exact Or.inr (Or.inr (Or.inr (Or.inr (Or.inr (Or.inr (Or.inr (Or.inl ⟨rfl, Or.inr (Or.inr rfl)⟩))))))) | (unfold kLe; omega))) hw4 (by first | exact Or.inr (Or.inr (Or.inr (Or.inr (Or.inr (Or.inr (Or.inr (Or.inl ⟨rfl, Or.inl rfl⟩))))))) | (unfold kLe; omega))
  have hT6 : e_Has kTy w4 := e_Has.ups hT3 hw4 (kt_o rfl)
  have Q7 := kI.hm q hT6 (fun c k g => by rw [← hw4, e_up_ne _ _ (nds g (by decide)), ← hw1]; exact e_up_ne _ _ (nds g (by decide)))
  have hsk : sK w4 := sK.init hw1 hw4
  refine e_Ok.ps4 (x := (1, 8)) (y := (0, 1)) (z := (1, cd)) (u := (1, 6 * t + 154)) (q := 14) 4 rfl ?_
  refine e_Ok.getf (z := w 8 10) rfl (el_o rfl) rfl rfl (e_uq hw4 (Or.inr (by decide)) (e_uq hw1 (Or.inr (by decide)) rfl)) (by omega) ?_
  have ts11 := kI.tsx0 Q7 (by omega) (Eq.trans (show w4 (6 * t + 154) 1 = w (6 * t + 154) 1 from (e_uq hw4 (Or.inr (by first | decide | omega)) (e_uq hw1 (Or.inr (by first | decide | omega)) rfl))) hst); rw [(show w4 (6 * t + 154) 2 = a from (e_uq hw4 (Or.inr (by first | decide | omega)) (e_uq hw1 (Or.inr (by first | decide | omega)) ha)))] at ts11
  obtain ⟨H, hH11⟩ := ts11
  refine e_Ok.callV rfl (e_dq hd rfl) rfl (lT0 (t := t) rfl g_t) rfl rfl (c_188_1 (e_dq hd rfl) (t := t) (op := OP a) (od := OD a) (cd := cd) (H := H) hT6 (by omega) (hco.1.eq (fun c k g => f5 c k (by unfold kLe; omega))) hD (val := w 8 10) (by omega) hH11) (fun r8 w9 h10 => ?_)
  obtain ⟨z13, rfl, q12f, q12T, q12s, q12x⟩ := h10
  have f14 : e_fr (kLe t a) w w9 := e_fr.trans f5 (e_fr.mono q12f (fun c k q => by first | exact su_cg_11 q | (unfold kLv at q; unfold kLe; omega)))
  have Q15 := kI.tsx Q7 q12T (by omega) q12f (fun c k g => th_kLv g) (by unfold kLv; omega) (Eq.trans (show w4 (6 * t + 154) 1 = w (6 * t + 154) 1 from (e_uq hw4 (Or.inr (by omega)) (e_uq hw1 (Or.inr (by omega)) rfl))) hst) (by rw [(show w4 (6 * t + 154) 2 = a from (e_uq hw4 (Or.inr (by omega)) (e_uq hw1 (Or.inr (by omega)) ha)))]; exact ⟨H, q12s⟩)
  have ev1 : w9 74 1 = w 74 1 := Eq.trans (q12f _ _ (by unfold kLv; omega)) (by rw [← hw4, e_up_ne _ _ (by omega), ← hw1, e_up_ne _ _ (by omega)])
  refine e_Ok.nrm (q := 20) (st' := [(0, z13)]) rfl rfl ?_
  refine e_Ok.if1 rfl (fun h16 => ?_) (fun h16 => ?_)
  · replace h16 : (z13 : Int) ≠ 0 := h16
    refine e_Ok.rets rfl rfl ?_
    exact ⟨rfl, f14, q12T, ⟨Q15, (sK.fr q12f (by unfold kLv; omega) (fun k => by unfold kLv; omega) hsk), (show w9 (6 * t + 154) 2 = a from ((q12f (6 * t + 154) 2 (by first | exact no_cg_5 (by omega) | (unfold kLv; omega))).trans (e_uq hw4 (Or.inr (by first | decide | omega)) (e_uq hw1 (Or.inr (by first | decide | omega)) ha)))), by omega, by omega, Or.inl ⟨(Eq.trans (show w9 (6 * t + 154) 1 = w (6 * t + 154) 1 from ((q12f (6 * t + 154) 1 (by first | exact no_cg_6 (by omega) | (unfold kLv; omega))).trans (e_uq hw4 (Or.inr (by first | decide | omega)) (e_uq hw1 (Or.inr (by first | decide | omega)) rfl)))) hst), by rcases q12x with g | g; exact g.2; exact absurd g (by omega), ev1⟩⟩⟩
  · replace h16 : (z13 : Int) = 0 := Classical.not_not.mp (show ¬ ((z13 : Int) ≠ 0) from h16)
    refine e_Ok.ps3 (x := (1, 8)) (y := (1, 6 * t + 154)) (z := (1, 8)) (q := 26) 3 rfl ?_
    refine e_Ok.getf (z := w 8 10) rfl (el_o rfl) rfl rfl ((q12f 8 10 (by first | exact no_cg_7 (by omega) | (unfold kLv; omega))).trans (e_uq hw4 (Or.inr (by decide)) (e_uq hw1 (Or.inr (by decide)) rfl))) (by omega) ?_
    refine e_Ok.callV rfl (e_dq hd rfl) rfl rfl rfl rfl (c_48 (e_dq hd rfl) (t := t) (a := a) q12T (by omega) (by omega) (by omega) Q15 (show w9 (6 * t + 154) 2 = a from ((q12f (6 * t + 154) 2 (by first | exact no_cg_5 (by omega) | (unfold kLv; omega))).trans (e_uq hw4 (Or.inr (by first | decide | omega)) (e_uq hw1 (Or.inr (by first | decide | omega)) ha)))) (by omega)) (fun r17 w18 h19 => ?_)
    obtain ⟨rfl, q20f, q20T, q20x⟩ := h19
    have q20e := q20x.2.2
    refine e_Ok.nrm (q := 32) (st' := []) rfl rfl ?_
    refine e_Ok.rets rfl rfl ?_
    exact ⟨rfl, (show e_fr (kLe t a) w w18 from e_fr.trans f14 (e_fr.mono q20f (fun c k q => by first | exact su_cg_12 q | (unfold kFb at q; unfold kLe; omega)))), q20T, ⟨q20x.1, (sK.fr q20f (by unfold kFb; omega) (fun k => by unfold kFb; omega) (sK.fr q12f (by unfold kLv; omega) (fun k => by unfold kLv; omega) hsk)), (show w18 (6 * t + 154) 2 = a from ((q20f (6 * t + 154) 2 (by first | exact no_cg_8 (by omega) (by omega) | (unfold kFb; omega))).trans ((q12f (6 * t + 154) 2 (by first | exact no_cg_5 (by omega) | (unfold kLv; omega))).trans (e_uq hw4 (Or.inr (by first | decide | omega)) (e_uq hw1 (Or.inr (by first | decide | omega)) ha))))), by omega, by omega, Or.inr q20x.2.1⟩⟩
end
end
-- part ch
section
noncomputable section
/-! the class: leaveFurther -/
def kLf (t : Int) (c k : Int) : Prop := (c = 6 * t + 154 ∧ (k = 3 ∨ k = 4 ∨ k = 6 ∨ k = 15)) ∨ c = 6 * t + 158 ∨ c = 6 * t + 159 ∨ (c = 8 ∧ (k = 8 ∨ k = 10 ∨ k = 11)) ∨ c = 84
def kLd (t : Int) (c k : Int) : Prop := (c = 6 * t + 154 ∧ (k = 1 ∨ k = 3 ∨ k = 4 ∨ k = 6 ∨ k = 15)) ∨ (6 * t + 157 ≤ c ∧ c ≤ 6 * t + 159) ∨ (c = 8 ∧ (k = 8 ∨ k = 10 ∨ k = 11)) ∨ c = 84 ∨ (c = 74 ∧ k = 1) ∨ c = 75 ∨ c = 83
theorem c_72_0 {d : Nat} (hd : 24 ≤ d) {w : eW} (hT : e_Has kTy w) {t : Int} (g_t : 0 ≤ t ∧ t ≤ 15) {OP OD CL : Int → Int → Int} {h : Int} (q : kI w OP OD CL h t) (hk : sK w) (hst : w (6 * t + 154) 1 = 1) {a : Int} (ga : 0 ≤ a ∧ a ≤ 3) (ha : w (6 * t + 154) 2 = a) {cd : Int} (hcv : w (17 * a + 86) 7 = cd) : e_Ok 20 elay kcode eI d 72 (0, [(0, (1, 8)), (1, (1, 6 * t + 154)), (2, (1, cd)), (3, (0, 0))], [], w) (fun r w' => r = [] ∧ e_fr (kLf t) w w' ∧ e_Has kTy w' ∧ (kI w' OP OD CL h t ∧ sK w' ∧ w' (6 * t + 154) 1 = 1 ∧ w' (6 * t + 154) 2 = a ∧ (w' (6 * t + 154) 3 = w (6 * t + 154) 3 ∨ 40 ≤ OP a (w' (6 * t + 154) 3) ∨ w' (6 * t + 154) 4 = 0))) := by
  obtain ⟨d, rfl⟩ : ∃ e, d = e + 1 := ⟨d - 1, by omega⟩
  have hco := q.co (a := a) (by omega) (by omega)
  rw [hcv] at hco
  have hcd := hco.1.1
  have hcd0 := hcd
  unfold isCd at hcd0
  have hD := hco.2.1
  have hts := q.tsx0 (by omega) hst
  rw [ha] at hts
  refine e_Ok.run (t' := (2, [(0, (1, 8)), (1, (1, 6 * t + 154)), (2, (1, cd)), (3, (0, 0))], [(0, 1), (0, 0)], w)) 2 rfl ?_
  refine e_Ok.if2 rfl (fun h1 => ?_) (fun h1 => ?_)
  · replace h1 : (0 : Int) ≠ 1 := h1
    refine e_Ok.ps1 (x := (0, 0)) (q := 17) 1 rfl ?_
    refine e_Ok.if1 rfl (fun h2 => ?_) (fun h2 => ?_)
    · replace h2 : (0 : Int) = 0 := h2
      refine e_Ok.rets rfl rfl ?_
      exact ⟨rfl, (e_fr.refl w), hT, ⟨q, hk, hst, ha, Or.inl rfl⟩⟩
    · replace h2 : (0 : Int) ≠ 0 := (show ¬ ((0 : Int) = 0) from h2)
      exfalso; omega
  · replace h1 : (0 : Int) = 1 := Classical.not_not.mp (show ¬ ((0 : Int) ≠ 1) from h1)
    exfalso; omega
theorem no_ch_0 {t : Int} (ht : 0 ≤ t ∧ t ≤ 15) : ¬ kDs (6 * t + 154) 1 := by unfold kDs; omega
theorem no_ch_1 {t : Int} (ht : 0 ≤ t ∧ t ≤ 15) : ¬ kDs (6 * t + 154) 2 := by unfold kDs; omega
theorem no_ch_2 {t : Int} (ht : 0 ≤ t ∧ t ≤ 15) : ¬ kDs (6 * t + 154) 3 := by unfold kDs; omega
theorem su_ch_5 {t : Int} {c k : Int} (q : kDs c k) : kLf t c k := by
  unfold kDs at q
  rcases q with ⟨q, (q | q | q)⟩ | q
  · exact Or.inr (Or.inr (Or.inr (Or.inl ⟨(by omega), Or.inl (by omega)⟩)))
  · exact Or.inr (Or.inr (Or.inr (Or.inl ⟨(by omega), Or.inr (Or.inl (by omega))⟩)))
  · exact Or.inr (Or.inr (Or.inr (Or.inl ⟨(by omega), Or.inr (Or.inr (by omega))⟩)))
  · exact Or.inr (Or.inr (Or.inr (Or.inr (by omega))))
theorem c_72_1 {d : Nat} (hd : 24 ≤ d) {w : eW} (hT : e_Has kTy w) {t : Int} (g_t : 0 ≤ t ∧ t ≤ 15) {OP OD CL : Int → Int → Int} {h : Int} (q : kI w OP OD CL h t) (hk : sK w) (hst : w (6 * t + 154) 1 = 1) {a : Int} (ga : 0 ≤ a ∧ a ≤ 3) (ha : w (6 * t + 154) 2 = a) {cd : Int} (hcv : w (17 * a + 86) 7 = cd) (h6 : w (6 * t + 154) 15 < 600) (hv : -2147483648 ≤ w ((6 * t + 154) + 5) (w (6 * t + 154) 15) ∧ w ((6 * t + 154) + 5) (w (6 * t + 154) 15) ≤ 2147483647) : e_Ok 20 elay kcode eI d 72 (0, [(0, (1, 8)), (1, (1, 6 * t + 154)), (2, (1, cd)), (3, (0, 1))], [], w) (fun r w' => r = [] ∧ e_fr (kLf t) w w' ∧ e_Has kTy w' ∧ (kI w' OP OD CL h t ∧ sK w' ∧ w' (6 * t + 154) 1 = 1 ∧ w' (6 * t + 154) 2 = a ∧ (w' (6 * t + 154) 3 = w (6 * t + 154) 3 ∨ 40 ≤ OP a (w' (6 * t + 154) 3) ∨ w' (6 * t + 154) 4 = 0))) := by
  obtain ⟨d, rfl⟩ : ∃ e, d = e + 1 := ⟨d - 1, by omega⟩
  have hco := q.co (a := a) (by omega) (by omega)
  rw [hcv] at hco
  have hcd := hco.1.1
  have hcd0 := hcd
  unfold isCd at hcd0
  have hD := hco.2.1
  have hts := q.tsx0 (by omega) hst
  rw [ha] at hts
  refine e_Ok.run (t' := (2, [(0, (1, 8)), (1, (1, 6 * t + 154)), (2, (1, cd)), (3, (0, 1))], [(0, 1), (0, 1)], w)) 2 rfl ?_
  refine e_Ok.if2 rfl (fun h1 => ?_) (fun h1 => ?_)
  · replace h1 : (1 : Int) ≠ 1 := h1
    exfalso; omega
  · replace h1 : (1 : Int) = 1 := Classical.not_not.mp (show ¬ ((1 : Int) ≠ 1) from h1)
    refine e_Ok.ps2 (x := (1, 6 * t + 154)) (y := (1, 8)) (q := 7) 2 rfl ?_
    refine e_Ok.callV rfl (e_dq hd rfl) rfl (lT0 (t := t) rfl g_t) rfl rfl (c_187 (t := t) (op := OP a) hT (by omega) rfl hv (by omega)) (fun r2 w3 h4 => ?_)
    obtain ⟨z5, rfl, rfl, q6⟩ := h4
    refine e_Ok.nrm (q := 10) (st' := [(0, z5), (1, 8)]) rfl rfl ?_
    refine e_Ok.callV rfl (e_dq hd rfl) rfl rfl rfl rfl (c_46 hT (by omega) hk) (fun r7 w8 h9 => ?_)
    obtain ⟨rfl, q10f, q10T, q10x⟩ := h9
    have Q12 := kI.hm q q10T (e_fr.mono q10f (fun c k g => hm_kDs g))
    refine e_Ok.nrm (q := 13) (st' := []) rfl rfl ?_
    refine e_Ok.ps0 (q := 31) 1 rfl ?_
    refine e_Ok.rets rfl rfl ?_
    exact ⟨rfl, (show e_fr (kLf t) w w8 from e_fr.trans (e_fr.refl w) (e_fr.mono q10f (fun c k q => by first | exact su_ch_5 q | (unfold kDs at q; unfold kLf; omega)))), q10T, ⟨Q12, q10x, (Eq.trans (show w8 (6 * t + 154) 1 = w (6 * t + 154) 1 from ((q10f (6 * t + 154) 1 (by first | exact no_ch_0 (by omega) | (unfold kDs; omega))).trans rfl)) hst), (show w8 (6 * t + 154) 2 = a from ((q10f (6 * t + 154) 2 (by first | exact no_ch_1 (by omega) | (unfold kDs; omega))).trans ha)), Or.inl ((q10f (6 * t + 154) 3 (by first | exact no_ch_2 (by omega) | (unfold kDs; omega))).trans rfl)⟩⟩
theorem no_ch_3 {t : Int} (ht : 0 ≤ t ∧ t ≤ 15) : ¬ kLv t (6 * t + 154) 1 := by unfold kLv; omega
theorem no_ch_4 {t : Int} (ht : 0 ≤ t ∧ t ≤ 15) : ¬ kLv t (6 * t + 154) 2 := by unfold kLv; omega
theorem su_ch_6 {t : Int} {c k : Int} (q : kLv t c k) : kLf t c k := by
  unfold kLv at q
  rcases q with ⟨q, (q | q | q | q)⟩ | q | q
  · exact Or.inl ⟨(by omega), Or.inl (by omega)⟩
  · exact Or.inl ⟨(by omega), Or.inr (Or.inl (by omega))⟩
  · exact Or.inl ⟨(by omega), Or.inr (Or.inr (Or.inl (by omega)))⟩
  · exact Or.inl ⟨(by omega), Or.inr (Or.inr (Or.inr (by omega)))⟩
  · exact Or.inr (Or.inl (by omega))
  · exact Or.inr (Or.inr (Or.inl (by omega)))
theorem c_72_2 {d : Nat} (hd : 24 ≤ d) {w : eW} (hT : e_Has kTy w) {t : Int} (g_t : 0 ≤ t ∧ t ≤ 15) {OP OD CL : Int → Int → Int} {h : Int} (q : kI w OP OD CL h t) (hk : sK w) (hst : w (6 * t + 154) 1 = 1) {a : Int} (ga : 0 ≤ a ∧ a ≤ 3) (ha : w (6 * t + 154) 2 = a) {cd : Int} (hcv : w (17 * a + 86) 7 = cd) (h6 : w (6 * t + 154) 15 < 600) (hv : -2147483648 ≤ w ((6 * t + 154) + 5) (w (6 * t + 154) 15) ∧ w ((6 * t + 154) + 5) (w (6 * t + 154) 15) ≤ 2147483647) : e_Ok 20 elay kcode eI d 72 (0, [(0, (1, 8)), (1, (1, 6 * t + 154)), (2, (1, cd)), (3, (0, 2))], [], w) (fun r w' => r = [] ∧ e_fr (kLf t) w w' ∧ e_Has kTy w' ∧ (kI w' OP OD CL h t ∧ sK w' ∧ w' (6 * t + 154) 1 = 1 ∧ w' (6 * t + 154) 2 = a ∧ (w' (6 * t + 154) 3 = w (6 * t + 154) 3 ∨ 40 ≤ OP a (w' (6 * t + 154) 3) ∨ w' (6 * t + 154) 4 = 0))) := by
  obtain ⟨d, rfl⟩ : ∃ e, d = e + 1 := ⟨d - 1, by omega⟩
  have hco := q.co (a := a) (by omega) (by omega)
  rw [hcv] at hco
  have hcd := hco.1.1
  have hcd0 := hcd
  unfold isCd at hcd0
  have hD := hco.2.1
  have hts := q.tsx0 (by omega) hst
  rw [ha] at hts
  refine e_Ok.run (t' := (2, [(0, (1, 8)), (1, (1, 6 * t + 154)), (2, (1, cd)), (3, (0, 2))], [(0, 1), (0, 2)], w)) 2 rfl ?_
  refine e_Ok.if2 rfl (fun h1 => ?_) (fun h1 => ?_)
  · replace h1 : (2 : Int) ≠ 1 := h1
    refine e_Ok.ps1 (x := (0, 2)) (q := 17) 1 rfl ?_
    refine e_Ok.if1 rfl (fun h2 => ?_) (fun h2 => ?_)
    · replace h2 : (2 : Int) = 0 := h2
      exfalso; omega
    · replace h2 : (2 : Int) ≠ 0 := (show ¬ ((2 : Int) = 0) from h2)
      refine e_Ok.ps4 (x := (1, 6 * t + 154)) (y := (0, 2)) (z := (1, cd)) (u := (1, 6 * t + 154)) (q := 24) 4 rfl ?_
      refine e_Ok.callV rfl (e_dq hd rfl) rfl (lT0 (t := t) rfl g_t) rfl rfl (c_187 (t := t) (op := OP a) hT (by omega) rfl hv (by omega)) (fun r3 w4 h5 => ?_)
      obtain ⟨z6, rfl, rfl, q7⟩ := h5
      refine e_Ok.nrm (q := 27) (st' := [(0, z6), (0, 2), (1, cd), (1, 6 * t + 154)]) rfl rfl ?_
      obtain ⟨H, hH10⟩ := hts
      refine e_Ok.callV rfl (e_dq hd rfl) rfl (lT0 (t := t) rfl g_t) rfl rfl (c_188_2 (e_dq hd rfl) (t := t) (op := OP a) (od := OD a) (cd := cd) (H := H) hT (by omega) hco.1 hD (val := z6) (by omega) hH10) (fun r8 w9 h10 => ?_)
      obtain ⟨z12, rfl, q11f, q11T, q11s, q11z, q11x⟩ := h10
      have Q14 := kI.tsx q q11T (by omega) q11f (fun c k g => th_kLv g) (by unfold kLv; omega) hst (by rw [ha]; exact ⟨H, q11s⟩)
      refine e_Ok.nrm (q := 30) (st' := [(0, z12)]) rfl rfl ?_
      refine e_Ok.run (t' := (31, [(0, (1, 8)), (1, (1, 6 * t + 154)), (2, (1, cd)), (3, (0, 2))], [], w9)) 1 rfl ?_
      refine e_Ok.rets rfl rfl ?_
      exact ⟨rfl, (show e_fr (kLf t) w w9 from e_fr.trans (e_fr.refl w) (e_fr.mono q11f (fun c k q => by first | exact su_ch_6 q | (unfold kLv at q; unfold kLf; omega)))), q11T, ⟨Q14, (sK.fr q11f (by unfold kLv; omega) (fun k => by unfold kLv; omega) hk), (Eq.trans (show w9 (6 * t + 154) 1 = w (6 * t + 154) 1 from ((q11f (6 * t + 154) 1 (by first | exact no_ch_3 (by omega) | (unfold kLv; omega))).trans rfl)) hst), (show w9 (6 * t + 154) 2 = a from ((q11f (6 * t + 154) 2 (by first | exact no_ch_4 (by omega) | (unfold kLv; omega))).trans ha)), Or.inr q11x⟩⟩
  · replace h1 : (2 : Int) = 1 := Classical.not_not.mp (show ¬ ((2 : Int) ≠ 1) from h1)
    exfalso; omega
theorem c_72_3 {d : Nat} (hd : 24 ≤ d) {w : eW} (hT : e_Has kTy w) {t : Int} (g_t : 0 ≤ t ∧ t ≤ 15) {OP OD CL : Int → Int → Int} {h : Int} (q : kI w OP OD CL h t) (hk : sK w) (hst : w (6 * t + 154) 1 = 1) {a : Int} (ga : 0 ≤ a ∧ a ≤ 3) (ha : w (6 * t + 154) 2 = a) {cd : Int} (hcv : w (17 * a + 86) 7 = cd) (h6 : w (6 * t + 154) 15 < 600) (hv : -2147483648 ≤ w ((6 * t + 154) + 5) (w (6 * t + 154) 15) ∧ w ((6 * t + 154) + 5) (w (6 * t + 154) 15) ≤ 2147483647) (hvb : OP a (w ((6 * t + 154) + 5) (w (6 * t + 154) 15) + 1) = 49) : e_Ok 20 elay kcode eI d 72 (0, [(0, (1, 8)), (1, (1, 6 * t + 154)), (2, (1, cd)), (3, (0, 3))], [], w) (fun r w' => r = [] ∧ e_fr (kLf t) w w' ∧ e_Has kTy w' ∧ (kI w' OP OD CL h t ∧ sK w' ∧ w' (6 * t + 154) 1 = 1 ∧ w' (6 * t + 154) 2 = a ∧ (w' (6 * t + 154) 3 = w (6 * t + 154) 3 ∨ 40 ≤ OP a (w' (6 * t + 154) 3) ∨ w' (6 * t + 154) 4 = 0))) := by
  obtain ⟨d, rfl⟩ : ∃ e, d = e + 1 := ⟨d - 1, by omega⟩
  have hco := q.co (a := a) (by omega) (by omega)
  rw [hcv] at hco
  have hcd := hco.1.1
  have hcd0 := hcd
  unfold isCd at hcd0
  have hD := hco.2.1
  have hts := q.tsx0 (by omega) hst
  rw [ha] at hts
  refine e_Ok.run (t' := (2, [(0, (1, 8)), (1, (1, 6 * t + 154)), (2, (1, cd)), (3, (0, 3))], [(0, 1), (0, 3)], w)) 2 rfl ?_
  refine e_Ok.if2 rfl (fun h1 => ?_) (fun h1 => ?_)
  · replace h1 : (3 : Int) ≠ 1 := h1
    refine e_Ok.ps1 (x := (0, 3)) (q := 17) 1 rfl ?_
    refine e_Ok.if1 rfl (fun h2 => ?_) (fun h2 => ?_)
    · replace h2 : (3 : Int) = 0 := h2
      exfalso; omega
    · replace h2 : (3 : Int) ≠ 0 := (show ¬ ((3 : Int) = 0) from h2)
      refine e_Ok.ps4 (x := (1, 6 * t + 154)) (y := (0, 3)) (z := (1, cd)) (u := (1, 6 * t + 154)) (q := 24) 4 rfl ?_
      refine e_Ok.callV rfl (e_dq hd rfl) rfl (lT0 (t := t) rfl g_t) rfl rfl (c_187 (t := t) (op := OP a) hT (by omega) rfl hv (by omega)) (fun r3 w4 h5 => ?_)
      obtain ⟨z6, rfl, rfl, q7⟩ := h5
      refine e_Ok.nrm (q := 27) (st' := [(0, z6), (0, 3), (1, cd), (1, 6 * t + 154)]) rfl rfl ?_
      obtain ⟨H, hH10⟩ := hts
      refine e_Ok.callV rfl (e_dq hd rfl) rfl (lT0 (t := t) rfl g_t) rfl rfl (c_188_3 (e_dq hd rfl) (t := t) (op := OP a) (od := OD a) (cd := cd) (H := H) hT (by omega) hco.1 hD (val := z6) (by omega) hH10 (by rw [q7]; exact hvb)) (fun r8 w9 h10 => ?_)
      obtain ⟨z12, rfl, q11f, q11T, q11s, q11z, q11x⟩ := h10
      have Q14 := kI.tsx q q11T (by omega) q11f (fun c k g => th_kLv g) (by unfold kLv; omega) hst (by rw [ha]; exact ⟨H, q11s⟩)
      refine e_Ok.nrm (q := 30) (st' := [(0, z12)]) rfl rfl ?_
      refine e_Ok.run (t' := (31, [(0, (1, 8)), (1, (1, 6 * t + 154)), (2, (1, cd)), (3, (0, 3))], [], w9)) 1 rfl ?_
      refine e_Ok.rets rfl rfl ?_
      exact ⟨rfl, (show e_fr (kLf t) w w9 from e_fr.trans (e_fr.refl w) (e_fr.mono q11f (fun c k q => by first | exact su_ch_6 q | (unfold kLv at q; unfold kLf; omega)))), q11T, ⟨Q14, (sK.fr q11f (by unfold kLv; omega) (fun k => by unfold kLv; omega) hk), (Eq.trans (show w9 (6 * t + 154) 1 = w (6 * t + 154) 1 from ((q11f (6 * t + 154) 1 (by first | exact no_ch_3 (by omega) | (unfold kLv; omega))).trans rfl)) hst), (show w9 (6 * t + 154) 2 = a from ((q11f (6 * t + 154) 2 (by first | exact no_ch_4 (by omega) | (unfold kLv; omega))).trans ha)), Or.inr q11x⟩⟩
  · replace h1 : (3 : Int) = 1 := Classical.not_not.mp (show ¬ ((3 : Int) ≠ 1) from h1)
    exfalso; omega
end
end
-- part ci
section
noncomputable section
/-! the class: lead -/
theorem c_186_b {d : Nat} {w : eW} (hT : e_Has kTy w) {t : Int} (gt : 0 ≤ t ∧ t ≤ 15) {op : Int → Int} {H : Int} (hs : tS w (6 * t + 154) op H) : e_Ok 20 elay kcode eI d 186 (0, [(0, (1, 6 * t + 154))], [], w) (fun r w' => ∃ z : Int, r = [(0, z)] ∧ e_fr (kLv t) w w' ∧ e_Has kTy w' ∧ tS w' (6 * t + 154) op H ∧ (0 ≤ z ∧ z ≤ 3) ∧ (w' (6 * t + 154) 3 = w (6 * t + 154) 3) ∧ (1 ≤ z → w' (6 * t + 154) 15 < 600 ∧ (-2147483648 ≤ w' ((6 * t + 154) + 5) (w' (6 * t + 154) 15) ∧ w' ((6 * t + 154) + 5) (w' (6 * t + 154) 15) ≤ 2147483647) ∧ (z = 3 → op (w' ((6 * t + 154) + 5) (w' (6 * t + 154) 15) + 1) = 49))) := by
  have h15 := e_Has.get hT (c := 6 * t + 154) (k := 15) (lo := 0) (hi := 600) (kT_15 (t := t) rfl gt) (by decide)
  have h4 := e_Has.get hT (c := 6 * t + 154) (k := 4) (lo := 0) (hi := 20) (kT_4 (t := t) rfl gt) (by decide)
  have hH := hs.1
  refine e_Ok.ps1 (x := (1, 6 * t + 154)) (q := 1) 1 rfl ?_
  have h1 := (e_Has.get hT (c := 6 * t + 154) (k := 15) (lo := 0) (hi := 600) (kT_15 (t := t) rfl gt) (by decide))
  refine e_Ok.getf (z := w (6 * t + 154) 15) rfl (lT0 (t := t) rfl gt) rfl rfl rfl (e_bq h1 (by decide) (by decide)) ?_
  refine e_Ok.ps1 (x := (0, 1)) (q := 5) 1 rfl ?_
  refine e_Ok.if2 rfl (fun h2 => ?_) (fun h2 => ?_)
  · replace h2 : (w (6 * t + 154) 15 : Int) ≥ 1 := h2
    have hq := hs.2.2 (w (6 * t + 154) 15 - 1) (by omega) (by omega)
    have hq3 : ((0 ≤ w (6 * t + 157) (w (6 * t + 154) 15 - 1) ∧ w (6 * t + 157) (w (6 * t + 154) 15 - 1) ≤ 3999) ∧ op (w (6 * t + 157) (w (6 * t + 154) 15 - 1) + 1) = 49 ∧ op (w (6 * t + 157) (w (6 * t + 154) 15 - 1) + 2) = 49 ∧ op (w (6 * t + 157) (w (6 * t + 154) 15 - 1) + 3) = 49) ∧ (0 ≤ w (6 * t + 158) (w (6 * t + 154) 15 - 1) ∧ w (6 * t + 158) (w (6 * t + 154) 15 - 1) ≤ 15) := by rw [show 6 * t + 157 = (6 * t + 154) + 3 by omega, show 6 * t + 158 = (6 * t + 154) + 4 by omega]; exact ⟨hq.1, hq.2.1.1⟩
    refine e_Ok.ps2 (x := (1, 6 * t + 154)) (y := (1, 6 * t + 154)) (q := 12) 2 rfl ?_
    refine e_Ok.getf (z := w (6 * t + 154) 15) rfl (lT0 (t := t) rfl gt) rfl rfl rfl (by omega) ?_
    refine e_Ok.ps1 (x := (0, 1)) (q := 16) 1 rfl ?_
    refine e_Ok.sub' (z := w (6 * t + 154) 15 - 1) rfl rfl (by omega) ?_
    refine e_Ok.putf rfl (lT0 (t := t) rfl gt) rfl rfl ?_
    generalize hw3 : e_up w (6 * t + 154) 15 (w (6 * t + 154) 15 - 1) = w3
    have hT5 : e_Has kTy w3 := e_Has.upr hT hw3 (kT_15 (t := t) rfl gt) (by omega)
    refine e_Ok.ps1 (x := (1, 6 * t + 154)) (q := 21) 1 rfl ?_
    refine e_Ok.getr (z := 6 * t + 158) rfl (lT0 (t := t) rfl gt) rfl rfl (e_uq hw3 (Or.inr (by decide)) (Eq.trans (e_Has.eq hT (kT_19 (t := t) rfl gt)) (by omega))) (by omega) ?_
    refine e_Ok.ps1 (x := (1, 6 * t + 154)) (q := 25) 1 rfl ?_
    refine e_Ok.getf (z := w (6 * t + 154) 15 - 1) rfl (lT0 (t := t) rfl gt) rfl rfl (e_ue hw3) (by omega) ?_
    refine e_Ok.ald (z := w (6 * t + 158) (w (6 * t + 154) 15 - 1)) rfl (lT4 (t := t) rfl gt) rfl (by omega) (e_uq hw3 (Or.inl (e_neo (by decide))) rfl) (by omega) ?_
    refine e_Ok.ps1 (x := (0, 2)) (q := 30) 1 rfl ?_
    refine e_Ok.shr2 rfl (by omega) (fun z6 hz6 => ?_)
    replace hz6 : z6 = (w (6 * t + 158) (w (6 * t + 154) 15 - 1)) / 4 := hz6
    refine e_Ok.rets rfl rfl ?_
    have e15 : w3 (6 * t + 154) 15 = w (6 * t + 154) 15 - 1 := (e_ue hw3)
    exact ⟨_, rfl, (show e_fr (kLv t) w w3 from e_fr.up (e_fr.refl w) hw3 (by first | exact Or.inl ⟨(by omega), Or.inr (Or.inr (Or.inr rfl))⟩ | (unfold kLv; omega))), hT5, tS.less hs (by omega) (by rw [show w3 (6 * t + 154) 4 = w (6 * t + 154) 4 from (e_uq hw3 (Or.inr (by first | decide | omega)) rfl)]; omega) (fun d k g1 g2 => by rw [← hw3, e_up_ne _ _ (by omega)]), by omega, (e_uq hw3 (Or.inr (by first | decide | omega)) rfl), fun g => ⟨by omega, by rw [e15, show w3 ((6 * t + 154) + 5) = w ((6 * t + 154) + 5) from funext fun k => by rw [← hw3, e_up_ne _ _ (by omega)]]; exact ⟨(hq.2.2 (by rw [show (6 * t + 154) + 4 = 6 * t + 158 by omega]; omega)).1, fun g3 => (hq.2.2 (by rw [show (6 * t + 154) + 4 = 6 * t + 158 by omega]; omega)).2 (by rw [show (6 * t + 154) + 4 = 6 * t + 158 by omega]; omega)⟩⟩⟩
  · replace h2 : (w (6 * t + 154) 15 : Int) < 1 := Int.not_le.mp (show ¬ ((w (6 * t + 154) 15 : Int) ≥ 1) from h2)
    refine e_Ok.ps1 (x := (0, 0)) (q := 9) 1 rfl ?_
    refine e_Ok.rets rfl rfl ?_
    exact ⟨_, rfl, e_fr.refl w, hT, hs, by omega, rfl, fun g => by omega⟩
theorem no_ci_0 {k : Int} : ¬ kDs 74 k := by unfold kDs; omega
theorem no_ci_1 {t : Int} (ht : 0 ≤ t ∧ t ≤ 15) : ¬ kDs (6 * t + 154) 2 := by unfold kDs; omega
theorem no_ci_2 {t : Int} (ht : 0 ≤ t ∧ t ≤ 15) : ¬ kDs (6 * t + 154) 3 := by unfold kDs; omega
theorem no_ci_3 {t : Int} (ht : 0 ≤ t ∧ t ≤ 15) : ¬ kDs (6 * t + 154) 1 := by unfold kDs; omega
theorem no_ci_4 {t : Int} (ht : 0 ≤ t ∧ t ≤ 15) : ¬ kLv t 74 1 := by unfold kLv; omega
theorem no_ci_5 {t : Int} (ht : 0 ≤ t ∧ t ≤ 15) : ¬ kLv t (6 * t + 154) 2 := by unfold kLv; omega
theorem no_ci_6 {t : Int} (ht : 0 ≤ t ∧ t ≤ 15) : ¬ kLv t (6 * t + 154) 1 := by unfold kLv; omega
theorem no_ci_7 {t : Int} (ht : 0 ≤ t ∧ t ≤ 15) : ¬ kOt t 74 1 := by unfold kOt; omega
theorem no_ci_8 {t : Int} (ht : 0 ≤ t ∧ t ≤ 15) : ¬ kOt t (6 * t + 154) 2 := by unfold kOt; omega
theorem no_ci_9 {t : Int} (ht : 0 ≤ t ∧ t ≤ 15) : ¬ kOt t (6 * t + 154) 3 := by unfold kOt; omega
theorem no_ci_10 {t : Int} (ht : 0 ≤ t ∧ t ≤ 15) : ¬ kOt t (6 * t + 154) 1 := by unfold kOt; omega
theorem no_ci_11 {t : Int} (ht : 0 ≤ t ∧ t ≤ 15) : ¬ kLf t 74 1 := by unfold kLf; omega
theorem no_ci_12 {t : Int} (ht : 0 ≤ t ∧ t ≤ 15) : ¬ kLf t (6 * t + 154) 2 := by unfold kLf; omega
theorem no_ci_13 {t : Int} (ht : 0 ≤ t ∧ t ≤ 15) : ¬ kLf t (6 * t + 154) 1 := by unfold kLf; omega
theorem su_ci_14 {t : Int} {c k : Int} (q : kEl t c k) : kLd t c k := by
  unfold kEl at q
  rcases q with ⟨q, (q | q | q)⟩ | ⟨q, q⟩ | q | q
  · exact Or.inl ⟨(by omega), Or.inl (by omega)⟩
  · exact Or.inl ⟨(by omega), Or.inr (Or.inr (Or.inl (by omega)))⟩
  · exact Or.inl ⟨(by omega), Or.inr (Or.inr (Or.inr (Or.inr (by omega))))⟩
  · exact Or.inr (Or.inr (Or.inr (Or.inr (Or.inl ⟨(by omega), (by omega)⟩))))
  · exact Or.inr (Or.inr (Or.inr (Or.inr (Or.inr (Or.inl (by omega))))))
  · exact Or.inr (Or.inr (Or.inr (Or.inr (Or.inr (Or.inr (by omega))))))
theorem su_ci_15 {t : Int} {c k : Int} (q : kDs c k) : kLd t c k := by
  unfold kDs at q
  rcases q with ⟨q, (q | q | q)⟩ | q
  · exact Or.inr (Or.inr (Or.inl ⟨(by omega), Or.inl (by omega)⟩))
  · exact Or.inr (Or.inr (Or.inl ⟨(by omega), Or.inr (Or.inl (by omega))⟩))
  · exact Or.inr (Or.inr (Or.inl ⟨(by omega), Or.inr (Or.inr (by omega))⟩))
  · exact Or.inr (Or.inr (Or.inr (Or.inl (by omega))))
theorem su_ci_16 {t : Int} {c k : Int} (q : kLv t c k) : kLd t c k := by
  unfold kLv at q
  rcases q with ⟨q, (q | q | q | q)⟩ | q | q
  · exact Or.inl ⟨(by omega), Or.inr (Or.inl (by omega))⟩
  · exact Or.inl ⟨(by omega), Or.inr (Or.inr (Or.inl (by omega)))⟩
  · exact Or.inl ⟨(by omega), Or.inr (Or.inr (Or.inr (Or.inl (by omega))))⟩
  · exact Or.inl ⟨(by omega), Or.inr (Or.inr (Or.inr (Or.inr (by omega))))⟩
  · exact Or.inr (Or.inl ⟨(by omega), (by omega)⟩)
  · exact Or.inr (Or.inl ⟨(by omega), (by omega)⟩)
theorem su_ci_17 {t : Int} {c k : Int} (q : kOt t c k) : kLd t c k := by
  unfold kOt at q
  rcases q with ⟨q, q⟩ | q | q
  · exact Or.inl ⟨(by omega), Or.inr (Or.inr (Or.inr (Or.inr (by omega))))⟩
  · exact Or.inr (Or.inl ⟨(by omega), (by omega)⟩)
  · exact Or.inr (Or.inl ⟨(by omega), (by omega)⟩)
theorem su_ci_18 {t : Int} {c k : Int} (q : kLf t c k) : kLd t c k := by
  unfold kLf at q
  rcases q with ⟨q, (q | q | q | q)⟩ | q | q | ⟨q, (q | q | q)⟩ | q
  · exact Or.inl ⟨(by omega), Or.inr (Or.inl (by omega))⟩
  · exact Or.inl ⟨(by omega), Or.inr (Or.inr (Or.inl (by omega)))⟩
  · exact Or.inl ⟨(by omega), Or.inr (Or.inr (Or.inr (Or.inl (by omega))))⟩
  · exact Or.inl ⟨(by omega), Or.inr (Or.inr (Or.inr (Or.inr (by omega))))⟩
  · exact Or.inr (Or.inl ⟨(by omega), (by omega)⟩)
  · exact Or.inr (Or.inl ⟨(by omega), (by omega)⟩)
  · exact Or.inr (Or.inr (Or.inl ⟨(by omega), Or.inl (by omega)⟩))
  · exact Or.inr (Or.inr (Or.inl ⟨(by omega), Or.inr (Or.inl (by omega))⟩))
  · exact Or.inr (Or.inr (Or.inl ⟨(by omega), Or.inr (Or.inr (by omega))⟩))
  · exact Or.inr (Or.inr (Or.inr (Or.inl (by omega))))
theorem c_71 {d : Nat} (hd : 25 ≤ d) {w : eW} (hT : e_Has kTy w) {t o n : Int} (g_t : 0 ≤ t ∧ t ≤ 15) (g_o : 40 ≤ o ∧ o ≤ 63) (g_n : 0 ≤ n ∧ n ≤ 33554431) {OP OD CL : Int → Int → Int} {h : Int} (q : kI w OP OD CL h t) (hk : sK w) (hst : w (6 * t + 154) 1 = 1) {a : Int} (ga : 0 ≤ a ∧ a ≤ 3) (ha : w (6 * t + 154) 2 = a) {cd : Int} (hcv : w (17 * a + 86) 7 = cd) (ho : OP a (w (6 * t + 154) 3 - 1) = o) (hn : OD a (w (6 * t + 154) 3 - 1) = n) (h50 : o ≠ 50) (he : w 74 1 < 2147483647) : e_Ok 20 elay kcode eI d 71 (0, [(0, (1, 8)), (1, (1, 6 * t + 154)), (2, (1, cd)), (3, (0, o)), (4, (0, n))], [], w) (fun r w' => r = [] ∧ e_fr (kLd t) w w' ∧ e_Has kTy w' ∧ (kI w' OP OD CL h t ∧ sK w' ∧ w' (6 * t + 154) 2 = a ∧ w 74 1 ≤ w' 74 1 ∧ w' 74 1 ≤ w 74 1 + 1 ∧ (w' (6 * t + 154) 1 = 1 → 40 ≤ OP a (w' (6 * t + 154) 3) ∧ w' 74 1 = w 74 1) ∧ (w' (6 * t + 154) 1 = 1 ∨ w' (6 * t + 154) 1 = 6))) := by
  obtain ⟨d, rfl⟩ : ∃ e, d = e + 1 := ⟨d - 1, by omega⟩
  have hco := q.co (a := a) (by omega) (by omega)
  rw [hcv] at hco
  have hcd := hco.1.1
  have hcd0 := hcd
  unfold isCd at hcd0
  have hD := hco.2.1
  have hts := q.tsx0 (by omega) hst
  rw [ha] at hts
  have h74 := e_Has.get hT (c := 74) (k := 1) (lo := 0) (hi := 2147483647) (kt_o rfl) (by decide)
  have h15 := e_Has.get hT (c := 6 * t + 154) (k := 15) (lo := 0) (hi := 600) (kT_15 (t := t) rfl (by omega)) (by decide)
  have h3 := e_Has.get hT (c := 6 * t + 154) (k := 3) (lo := -2147483648) (hi := 2147483647) (kT_3 (t := t) rfl (by omega)) (by decide)
  refine e_Ok.run (t' := (1, [(0, (1, 8)), (1, (1, 6 * t + 154)), (2, (1, cd)), (3, (0, o)), (4, (0, n))], [(0, o)], w)) 1 rfl ?_
  have hs2 : ∀ x : Int, 40 ≤ x ∧ x ≤ 63 ∧ x ≠ 50 → (x = 40) ∨ (x = 41) ∨ (x = 42) ∨ (x = 43) ∨ (x = 44) ∨ (x = 45 ∨ x = 49 ∨ x = 51 ∨ x = 52 ∨ x = 53 ∨ x = 54 ∨ x = 55 ∨ x = 56 ∨ x = 57 ∨ x = 58 ∨ x = 59 ∨ x = 60 ∨ x = 61 ∨ x = 62 ∨ x = 63) ∨ (x = 46) ∨ (x = 47) ∨ (x = 48) := fun x h => by omega
  obtain h1 | h1 | h1 | h1 | h1 | h1 | h1 | h1 | h1 := hs2 (o) (by omega)
  · refine e_Ok.swk (tg := 52) rfl (by rw [h1]; rfl) ?_
    refine e_Ok.run (t' := (55, [(0, (1, 8)), (1, (1, 6 * t + 154)), (2, (1, cd)), (3, (0, o)), (4, (0, n))], [(0, n), (1, 6 * t + 154)], w)) 2 rfl ?_
    refine e_Ok.putf rfl (lT0 (t := t) rfl g_t) rfl rfl ?_
    generalize hw3 : e_up w (6 * t + 154) 3 n = w3
    have hT5 : e_Has kTy w3 := e_Has.upr hT hw3 (kT_3 (t := t) rfl g_t) (by omega)
    refine e_Ok.ps2 (x := (1, 6 * t + 154)) (y := (1, 8)) (q := 143) 3 rfl ?_
    have Q9 := kI.pc q hT5 (by omega) hst hw3
    have ev0 : w3 74 1 = w 74 1 := (e_uq hw3 (Or.inr (by decide)) rfl)
    refine e_Ok.callV rfl (e_dq hd rfl) rfl rfl rfl rfl (c_49 (e_dq hd rfl) (t := t) hT5 (by omega) Q9 (by rw [(show w3 (6 * t + 154) 2 = a from (e_uq hw3 (Or.inr (by first | decide | omega)) ha))]; omega) (by omega)) (fun r6 w7 h8 => ?_)
    obtain ⟨rfl, q10f, q10T, q10x⟩ := h8
    refine e_Ok.nrm (q := 146) (st' := []) rfl rfl ?_
    refine e_Ok.rets rfl rfl ?_
    have hz : w7 (6 * t + 154) 1 = 1 → 40 ≤ OP a (w7 (6 * t + 154) 3) ∧ w7 74 1 = w 74 1 := fun g => by
      rcases q10x.2.2.2 with ⟨g1, hfr⟩ | g1
      · rw [g1]; exact ⟨(by rw [(show w3 (6 * t + 154) 3 = n from (e_ue hw3)), ← hn]; exact (hD.2.2 (w (6 * t + 154) 3 - 1)).2.1 (by omega)), ev0⟩
      · rw [g1] at g; exact absurd g (by decide)
    have h6 : w7 (6 * t + 154) 1 = 1 ∨ w7 (6 * t + 154) 1 = 6 := by
      rcases q10x.2.2.2 with ⟨g1, -⟩ | g1
      · rw [g1]; exact Or.inl (Eq.trans (show w3 (6 * t + 154) 1 = w (6 * t + 154) 1 from (e_uq hw3 (Or.inr (by first | decide | omega)) rfl)) hst)
      · exact Or.inr g1
    exact ⟨rfl, (show e_fr (kLd t) w w7 from e_fr.trans (show e_fr (kLd t) w w3 from e_fr.up (e_fr.refl w) hw3 (by first | exact Or.inl ⟨(by omega), Or.inr (Or.inl rfl)⟩ | (unfold kLd; omega))) (e_fr.mono q10f (fun c k q => by first | exact su_ci_14 q | (unfold kEl at q; unfold kLd; omega)))), q10T, ⟨q10x.1, sK.fr q10f (by unfold kEl; omega) (fun k => by unfold kEl; omega) (sK.eq (fun c k g => by rw [← hw3, e_up_ne _ _ (by omega)]) hk), Eq.trans (q10f _ _ (by unfold kEl; omega)) (show w3 (6 * t + 154) 2 = a from (e_uq hw3 (Or.inr (by omega)) ha)), by have := q10x.2; omega, by have := q10x.2; omega, hz, h6⟩⟩
  · refine e_Ok.swk (tg := 61) rfl (by rw [h1]; rfl) ?_
    refine e_Ok.run (t' := (62, [(0, (1, 8)), (1, (1, 6 * t + 154)), (2, (1, cd)), (3, (0, o)), (4, (0, n))], [(1, 8)], w)) 1 rfl ?_
    refine e_Ok.callV rfl (e_dq hd rfl) rfl rfl rfl rfl (c_53 hT hk) (fun r12 w13 h14 => ?_)
    obtain ⟨z16, rfl, q15f, q15T, q15r, q15x⟩ := h14
    have f17 : e_fr (kLd t) w w13 := e_fr.trans (e_fr.refl w) (e_fr.mono q15f (fun c k q => by first | exact su_ci_15 q | (unfold kDs at q; unfold kLd; omega)))
    have Q18 := kI.hm q q15T (e_fr.mono q15f (fun c k g => hm_kDs g))
    refine e_Ok.nrm (q := 65) (st' := [(0, z16)]) rfl rfl ?_
    refine e_Ok.if1 rfl (fun h19 => ?_) (fun h19 => ?_)
    · replace h19 : (z16 : Int) ≠ 0 := h19
      refine e_Ok.ps2 (x := (1, 6 * t + 154)) (y := (1, 8)) (q := 143) 2 rfl ?_
      have ev0 : w13 74 1 = w 74 1 := ((q15f 74 1 no_ci_0).trans rfl)
      refine e_Ok.callV rfl (e_dq hd rfl) rfl rfl rfl rfl (c_49 (e_dq hd rfl) (t := t) q15T (by omega) Q18 (by rw [(show w13 (6 * t + 154) 2 = a from ((q15f (6 * t + 154) 2 (by first | exact no_ci_1 (by omega) | (unfold kDs; omega))).trans ha))]; omega) (by omega)) (fun r20 w21 h22 => ?_)
      obtain ⟨rfl, q23f, q23T, q23x⟩ := h22
      refine e_Ok.nrm (q := 146) (st' := []) rfl rfl ?_
      refine e_Ok.rets rfl rfl ?_
      have hz : w21 (6 * t + 154) 1 = 1 → 40 ≤ OP a (w21 (6 * t + 154) 3) ∧ w21 74 1 = w 74 1 := fun g => by
        rcases q23x.2.2.2 with ⟨g1, hfr⟩ | g1
        · rw [g1]; exact ⟨(by rw [(show w13 (6 * t + 154) 3 = w (6 * t + 154) 3 from ((q15f (6 * t + 154) 3 (by first | exact no_ci_2 (by omega) | (unfold kDs; omega))).trans rfl))]; exact (by have g := (hD.2.2 (w (6 * t + 154) 3 - 1)).2.2.1 (by omega); rw [show w (6 * t + 154) 3 - 1 + 1 = w (6 * t + 154) 3 by omega] at g; exact g)), ev0⟩
        · rw [g1] at g; exact absurd g (by decide)
      have h6 : w21 (6 * t + 154) 1 = 1 ∨ w21 (6 * t + 154) 1 = 6 := by
        rcases q23x.2.2.2 with ⟨g1, -⟩ | g1
        · rw [g1]; exact Or.inl (Eq.trans (show w13 (6 * t + 154) 1 = w (6 * t + 154) 1 from ((q15f (6 * t + 154) 1 (by first | exact no_ci_3 (by omega) | (unfold kDs; omega))).trans rfl)) hst)
        · exact Or.inr g1
      exact ⟨rfl, (show e_fr (kLd t) w w21 from e_fr.trans f17 (e_fr.mono q23f (fun c k q => by first | exact su_ci_14 q | (unfold kEl at q; unfold kLd; omega)))), q23T, ⟨q23x.1, sK.fr q23f (by unfold kEl; omega) (fun k => by unfold kEl; omega) q15x, Eq.trans (q23f _ _ (by unfold kEl; omega)) (show w13 (6 * t + 154) 2 = a from ((q15f (6 * t + 154) 2 (by first | exact no_ci_1 (by omega) | (unfold kDs; omega))).trans ha)), by have := q23x.2; omega, by have := q23x.2; omega, hz, h6⟩⟩
    · replace h19 : (z16 : Int) = 0 := Classical.not_not.mp (show ¬ ((z16 : Int) ≠ 0) from h19)
      refine e_Ok.ps2 (x := (0, n)) (y := (1, 6 * t + 154)) (q := 71) 2 rfl ?_
      refine e_Ok.putf rfl (lT0 (t := t) rfl g_t) rfl rfl ?_
      generalize hw25 : e_up w13 (6 * t + 154) 3 n = w25
      have hT27 : e_Has kTy w25 := e_Has.upr q15T hw25 (kT_3 (t := t) rfl g_t) (by omega)
      refine e_Ok.ps2 (x := (1, 6 * t + 154)) (y := (1, 8)) (q := 143) 3 rfl ?_
      have Q31 := kI.pc Q18 hT27 (by omega) (Eq.trans (show w13 (6 * t + 154) 1 = w (6 * t + 154) 1 from ((q15f (6 * t + 154) 1 (by first | exact no_ci_3 (by omega) | (unfold kDs; omega))).trans rfl)) hst) hw25
      have ev0 : w25 74 1 = w 74 1 := (e_uq hw25 (Or.inr (by decide)) ((q15f 74 1 no_ci_0).trans rfl))
      refine e_Ok.callV rfl (e_dq hd rfl) rfl rfl rfl rfl (c_49 (e_dq hd rfl) (t := t) hT27 (by omega) Q31 (by rw [(show w25 (6 * t + 154) 2 = a from (e_uq hw25 (Or.inr (by first | decide | omega)) ((q15f (6 * t + 154) 2 (by first | exact no_ci_1 (by omega) | (unfold kDs; omega))).trans ha)))]; omega) (by omega)) (fun r28 w29 h30 => ?_)
      obtain ⟨rfl, q32f, q32T, q32x⟩ := h30
      refine e_Ok.nrm (q := 146) (st' := []) rfl rfl ?_
      refine e_Ok.rets rfl rfl ?_
      have hz : w29 (6 * t + 154) 1 = 1 → 40 ≤ OP a (w29 (6 * t + 154) 3) ∧ w29 74 1 = w 74 1 := fun g => by
        rcases q32x.2.2.2 with ⟨g1, hfr⟩ | g1
        · rw [g1]; exact ⟨(by rw [(show w25 (6 * t + 154) 3 = n from (e_ue hw25))]; rw [← hn]; exact (hD.2.2 (w (6 * t + 154) 3 - 1)).2.1 (by omega)), ev0⟩
        · rw [g1] at g; exact absurd g (by decide)
      have h6 : w29 (6 * t + 154) 1 = 1 ∨ w29 (6 * t + 154) 1 = 6 := by
        rcases q32x.2.2.2 with ⟨g1, -⟩ | g1
        · rw [g1]; exact Or.inl (Eq.trans (show w25 (6 * t + 154) 1 = w (6 * t + 154) 1 from (e_uq hw25 (Or.inr (by first | decide | omega)) ((q15f (6 * t + 154) 1 (by first | exact no_ci_3 (by omega) | (unfold kDs; omega))).trans rfl))) hst)
        · exact Or.inr g1
      exact ⟨rfl, (show e_fr (kLd t) w w29 from e_fr.trans (show e_fr (kLd t) w w25 from e_fr.up f17 hw25 (by first | exact Or.inl ⟨(by omega), Or.inr (Or.inl rfl)⟩ | (unfold kLd; omega))) (e_fr.mono q32f (fun c k q => by first | exact su_ci_14 q | (unfold kEl at q; unfold kLd; omega)))), q32T, ⟨q32x.1, sK.fr q32f (by unfold kEl; omega) (fun k => by unfold kEl; omega) (sK.eq (fun c k g => by rw [← hw25, e_up_ne _ _ (by omega)]) q15x), Eq.trans (q32f _ _ (by unfold kEl; omega)) (show w25 (6 * t + 154) 2 = a from (e_uq hw25 (Or.inr (by omega)) ((q15f (6 * t + 154) 2 (by first | exact no_ci_1 (by omega) | (unfold kDs; omega))).trans ha))), by have := q32x.2; omega, by have := q32x.2; omega, hz, h6⟩⟩
  · refine e_Ok.swk (tg := 77) rfl (by rw [h1]; rfl) ?_
    refine e_Ok.run (t' := (81, [(0, (1, 8)), (1, (1, 6 * t + 154)), (2, (1, cd)), (3, (0, o)), (4, (0, n))], [(0, 0), (0, 2), (1, cd), (1, 6 * t + 154)], w)) 4 rfl ?_
    obtain ⟨H, hH36⟩ := hts
    refine e_Ok.callV rfl (e_dq hd rfl) rfl (lT0 (t := t) rfl g_t) rfl rfl (c_188_2 (e_dq hd rfl) (t := t) (op := OP a) (od := OD a) (cd := cd) (H := H) hT (by omega) hco.1 hD (val := 0) (by omega) hH36) (fun r34 w35 h36 => ?_)
    obtain ⟨z38, rfl, q37f, q37T, q37s, q37z, q37x⟩ := h36
    have Q41 := kI.tsx q q37T (by omega) q37f (fun c k g => th_kLv g) (by unfold kLv; omega) hst (by rw [ha]; exact ⟨H, q37s⟩)
    refine e_Ok.nrm (q := 84) (st' := [(0, z38)]) rfl rfl ?_
    refine e_Ok.run (t' := (143, [(0, (1, 8)), (1, (1, 6 * t + 154)), (2, (1, cd)), (3, (0, o)), (4, (0, n))], [(1, 6 * t + 154), (1, 8)], w35)) 4 rfl ?_
    have ev0 : w35 74 1 = w 74 1 := ((q37f 74 1 (by first | exact no_ci_4 (by omega) | (unfold kLv; omega))).trans rfl)
    refine e_Ok.callV rfl (e_dq hd rfl) rfl rfl rfl rfl (c_49 (e_dq hd rfl) (t := t) q37T (by omega) Q41 (by rw [(show w35 (6 * t + 154) 2 = a from ((q37f (6 * t + 154) 2 (by first | exact no_ci_5 (by omega) | (unfold kLv; omega))).trans ha))]; omega) (by omega)) (fun r42 w43 h44 => ?_)
    obtain ⟨rfl, q45f, q45T, q45x⟩ := h44
    refine e_Ok.nrm (q := 146) (st' := []) rfl rfl ?_
    refine e_Ok.rets rfl rfl ?_
    have hz : w43 (6 * t + 154) 1 = 1 → 40 ≤ OP a (w43 (6 * t + 154) 3) ∧ w43 74 1 = w 74 1 := fun g => by
      rcases q45x.2.2.2 with ⟨g1, hfr⟩ | g1
      · rw [g1]; exact ⟨(q37x.elim (fun g => g) (fun g => absurd g (by omega))), ev0⟩
      · rw [g1] at g; exact absurd g (by decide)
    have h6 : w43 (6 * t + 154) 1 = 1 ∨ w43 (6 * t + 154) 1 = 6 := by
      rcases q45x.2.2.2 with ⟨g1, -⟩ | g1
      · rw [g1]; exact Or.inl (Eq.trans (show w35 (6 * t + 154) 1 = w (6 * t + 154) 1 from ((q37f (6 * t + 154) 1 (by first | exact no_ci_6 (by omega) | (unfold kLv; omega))).trans rfl)) hst)
      · exact Or.inr g1
    exact ⟨rfl, (show e_fr (kLd t) w w43 from e_fr.trans (show e_fr (kLd t) w w35 from e_fr.trans (e_fr.refl w) (e_fr.mono q37f (fun c k q => by first | exact su_ci_16 q | (unfold kLv at q; unfold kLd; omega)))) (e_fr.mono q45f (fun c k q => by first | exact su_ci_14 q | (unfold kEl at q; unfold kLd; omega)))), q45T, ⟨q45x.1, sK.fr q45f (by unfold kEl; omega) (fun k => by unfold kEl; omega) (sK.fr q37f (by unfold kLv; omega) (fun k => by unfold kLv; omega) hk), Eq.trans (q45f _ _ (by unfold kEl; omega)) (show w35 (6 * t + 154) 2 = a from ((q37f (6 * t + 154) 2 (by first | exact no_ci_5 (by omega) | (unfold kLv; omega))).trans ha)), by have := q45x.2; omega, by have := q45x.2; omega, hz, h6⟩⟩
  · refine e_Ok.swk (tg := 88) rfl (by rw [h1]; rfl) ?_
    refine e_Ok.run (t' := (89, [(0, (1, 8)), (1, (1, 6 * t + 154)), (2, (1, cd)), (3, (0, o)), (4, (0, n))], [(1, 6 * t + 154)], w)) 1 rfl ?_
    obtain ⟨H, hH49⟩ := hts
    refine e_Ok.callV rfl (e_dq hd rfl) rfl (lT0 (t := t) rfl g_t) rfl rfl (c_183 (t := t) (op := OP a) (H := H) hT (by omega) hH49) (fun r47 w48 h49 => ?_)
    obtain ⟨rfl, q51f, q51T, q51s, q51x⟩ := h49
    have Q53 := kI.tsx q q51T (by omega) q51f (fun c k g => th_kLv g) (by unfold kLv; omega) hst (by rw [ha]; exact ⟨H, q51s⟩)
    refine e_Ok.nrm (q := 92) (st' := []) rfl rfl ?_
    refine e_Ok.ps2 (x := (1, 6 * t + 154)) (y := (1, 8)) (q := 143) 3 rfl ?_
    have ev0 : w48 74 1 = w 74 1 := ((q51f 74 1 (by first | exact no_ci_4 (by omega) | (unfold kLv; omega))).trans rfl)
    refine e_Ok.callV rfl (e_dq hd rfl) rfl rfl rfl rfl (c_49 (e_dq hd rfl) (t := t) q51T (by omega) Q53 (by rw [(show w48 (6 * t + 154) 2 = a from ((q51f (6 * t + 154) 2 (by first | exact no_ci_5 (by omega) | (unfold kLv; omega))).trans ha))]; omega) (by omega)) (fun r54 w55 h56 => ?_)
    obtain ⟨rfl, q57f, q57T, q57x⟩ := h56
    refine e_Ok.nrm (q := 146) (st' := []) rfl rfl ?_
    refine e_Ok.rets rfl rfl ?_
    have hz : w55 (6 * t + 154) 1 = 1 → 40 ≤ OP a (w55 (6 * t + 154) 3) ∧ w55 74 1 = w 74 1 := fun g => by
      rcases q57x.2.2.2 with ⟨g1, hfr⟩ | g1
      · rw [g1]; exact ⟨(by rcases q51x with ⟨g1, g2⟩ | ⟨g1, g2, g3⟩; (exact absurd g1 (by rw [g2] at hfr; omega)); (exact g3 hfr)), ev0⟩
      · rw [g1] at g; exact absurd g (by decide)
    have h6 : w55 (6 * t + 154) 1 = 1 ∨ w55 (6 * t + 154) 1 = 6 := by
      rcases q57x.2.2.2 with ⟨g1, -⟩ | g1
      · rw [g1]; exact Or.inl (Eq.trans (show w48 (6 * t + 154) 1 = w (6 * t + 154) 1 from ((q51f (6 * t + 154) 1 (by first | exact no_ci_6 (by omega) | (unfold kLv; omega))).trans rfl)) hst)
      · exact Or.inr g1
    exact ⟨rfl, (show e_fr (kLd t) w w55 from e_fr.trans (show e_fr (kLd t) w w48 from e_fr.trans (e_fr.refl w) (e_fr.mono q51f (fun c k q => by first | exact su_ci_16 q | (unfold kLv at q; unfold kLd; omega)))) (e_fr.mono q57f (fun c k q => by first | exact su_ci_14 q | (unfold kEl at q; unfold kLd; omega)))), q57T, ⟨q57x.1, sK.fr q57f (by unfold kEl; omega) (fun k => by unfold kEl; omega) (sK.fr q51f (by unfold kLv; omega) (fun k => by unfold kLv; omega) hk), Eq.trans (q57f _ _ (by unfold kEl; omega)) (show w48 (6 * t + 154) 2 = a from ((q51f (6 * t + 154) 2 (by first | exact no_ci_5 (by omega) | (unfold kLv; omega))).trans ha)), by have := q57x.2; omega, by have := q57x.2; omega, hz, h6⟩⟩
  · refine e_Ok.swk (tg := 95) rfl (by rw [h1]; rfl) ?_
    refine e_Ok.run (t' := (100, [(0, (1, 8)), (1, (1, 6 * t + 154)), (2, (1, cd)), (3, (0, o)), (4, (0, n))], [(0, n), (0, 3), (1, cd), (1, 6 * t + 154)], w)) 4 rfl ?_
    obtain ⟨H, hH61⟩ := hts
    refine e_Ok.callV rfl (e_dq hd rfl) rfl (lT0 (t := t) rfl g_t) rfl rfl (c_188_3 (e_dq hd rfl) (t := t) (op := OP a) (od := OD a) (cd := cd) (H := H) hT (by omega) hco.1 hD (val := n) (by omega) hH61 (by rw [← hn]; exact (hD.2.2 (w (6 * t + 154) 3 - 1)).2.2.2.2.1 (by omega))) (fun r59 w60 h61 => ?_)
    obtain ⟨z63, rfl, q62f, q62T, q62s, q62z, q62x⟩ := h61
    have Q65 := kI.tsx q q62T (by omega) q62f (fun c k g => th_kLv g) (by unfold kLv; omega) hst (by rw [ha]; exact ⟨H, q62s⟩)
    refine e_Ok.nrm (q := 103) (st' := [(0, z63)]) rfl rfl ?_
    refine e_Ok.run (t' := (143, [(0, (1, 8)), (1, (1, 6 * t + 154)), (2, (1, cd)), (3, (0, o)), (4, (0, n))], [(1, 6 * t + 154), (1, 8)], w60)) 4 rfl ?_
    have ev0 : w60 74 1 = w 74 1 := ((q62f 74 1 (by first | exact no_ci_4 (by omega) | (unfold kLv; omega))).trans rfl)
    refine e_Ok.callV rfl (e_dq hd rfl) rfl rfl rfl rfl (c_49 (e_dq hd rfl) (t := t) q62T (by omega) Q65 (by rw [(show w60 (6 * t + 154) 2 = a from ((q62f (6 * t + 154) 2 (by first | exact no_ci_5 (by omega) | (unfold kLv; omega))).trans ha))]; omega) (by omega)) (fun r66 w67 h68 => ?_)
    obtain ⟨rfl, q69f, q69T, q69x⟩ := h68
    refine e_Ok.nrm (q := 146) (st' := []) rfl rfl ?_
    refine e_Ok.rets rfl rfl ?_
    have hz : w67 (6 * t + 154) 1 = 1 → 40 ≤ OP a (w67 (6 * t + 154) 3) ∧ w67 74 1 = w 74 1 := fun g => by
      rcases q69x.2.2.2 with ⟨g1, hfr⟩ | g1
      · rw [g1]; exact ⟨(q62x.elim (fun g => g) (fun g => absurd g (by omega))), ev0⟩
      · rw [g1] at g; exact absurd g (by decide)
    have h6 : w67 (6 * t + 154) 1 = 1 ∨ w67 (6 * t + 154) 1 = 6 := by
      rcases q69x.2.2.2 with ⟨g1, -⟩ | g1
      · rw [g1]; exact Or.inl (Eq.trans (show w60 (6 * t + 154) 1 = w (6 * t + 154) 1 from ((q62f (6 * t + 154) 1 (by first | exact no_ci_6 (by omega) | (unfold kLv; omega))).trans rfl)) hst)
      · exact Or.inr g1
    exact ⟨rfl, (show e_fr (kLd t) w w67 from e_fr.trans (show e_fr (kLd t) w w60 from e_fr.trans (e_fr.refl w) (e_fr.mono q62f (fun c k q => by first | exact su_ci_16 q | (unfold kLv at q; unfold kLd; omega)))) (e_fr.mono q69f (fun c k q => by first | exact su_ci_14 q | (unfold kEl at q; unfold kLd; omega)))), q69T, ⟨q69x.1, sK.fr q69f (by unfold kEl; omega) (fun k => by unfold kEl; omega) (sK.fr q62f (by unfold kLv; omega) (fun k => by unfold kLv; omega) hk), Eq.trans (q69f _ _ (by unfold kEl; omega)) (show w60 (6 * t + 154) 2 = a from ((q62f (6 * t + 154) 2 (by first | exact no_ci_5 (by omega) | (unfold kLv; omega))).trans ha)), by have := q69x.2; omega, by have := q69x.2; omega, hz, h6⟩⟩
  · refine e_Ok.swk (tg := 141) rfl (by rcases h1 with h1 | h1 | h1 | h1 | h1 | h1 | h1 | h1 | h1 | h1 | h1 | h1 | h1 | h1 | h1 <;> (rw [h1]; rfl)) ?_
    refine e_Ok.run (t' := (143, [(0, (1, 8)), (1, (1, 6 * t + 154)), (2, (1, cd)), (3, (0, o)), (4, (0, n))], [(1, 6 * t + 154), (1, 8)], w)) 2 rfl ?_
    have ev0 : w 74 1 = w 74 1 := rfl
    refine e_Ok.callV rfl (e_dq hd rfl) rfl rfl rfl rfl (c_49 (e_dq hd rfl) (t := t) hT (by omega) q (by rw [ha]; omega) (by omega)) (fun r71 w72 h73 => ?_)
    obtain ⟨rfl, q74f, q74T, q74x⟩ := h73
    refine e_Ok.nrm (q := 146) (st' := []) rfl rfl ?_
    refine e_Ok.rets rfl rfl ?_
    have hz : w72 (6 * t + 154) 1 = 1 → 40 ≤ OP a (w72 (6 * t + 154) 3) ∧ w72 74 1 = w 74 1 := fun g => by
      rcases q74x.2.2.2 with ⟨g1, hfr⟩ | g1
      · rw [g1]; exact ⟨(by rw [(show w (6 * t + 154) 3 = w (6 * t + 154) 3 from rfl)]; exact (by have g := (hD.2.2 (w (6 * t + 154) 3 - 1)).2.2.1 (by omega); rw [show w (6 * t + 154) 3 - 1 + 1 = w (6 * t + 154) 3 by omega] at g; exact g)), ev0⟩
      · rw [g1] at g; exact absurd g (by decide)
    have h6 : w72 (6 * t + 154) 1 = 1 ∨ w72 (6 * t + 154) 1 = 6 := by
      rcases q74x.2.2.2 with ⟨g1, -⟩ | g1
      · rw [g1]; exact Or.inl hst
      · exact Or.inr g1
    exact ⟨rfl, (show e_fr (kLd t) w w72 from e_fr.trans (e_fr.refl w) (e_fr.mono q74f (fun c k q => by first | exact su_ci_14 q | (unfold kEl at q; unfold kLd; omega)))), q74T, ⟨q74x.1, sK.fr q74f (by unfold kEl; omega) (fun k => by unfold kEl; omega) hk, Eq.trans (q74f _ _ (by unfold kEl; omega)) ha, by have := q74x.2; omega, by have := q74x.2; omega, hz, h6⟩⟩
  · refine e_Ok.swk (tg := 107) rfl (by rw [h1]; rfl) ?_
    have hto : (0 ≤ w (6 * t + 154) 3 - 1 ∧ w (6 * t + 154) 3 - 1 ≤ 3999) ∧ OP a (w (6 * t + 154) 3 - 1 + 1) = 49 ∧ OP a (w (6 * t + 154) 3 - 1 + 2) = 49 ∧ OP a (w (6 * t + 154) 3 - 1 + 3) = 49 := by
      have g1 := hco.1.2 (w (6 * t + 154) 3 - 1)
      have g2 := e_Has.get hT (c := cd) (k := 0) (lo := 0) (hi := 4000) (kD_0 hcd) (by decide)
      exact ⟨by omega, (hD.2.2 (w (6 * t + 154) 3 - 1)).2.2.2.1 (by omega)⟩
    refine e_Ok.run (t' := (109, [(0, (1, 8)), (1, (1, 6 * t + 154)), (2, (1, cd)), (3, (0, o)), (4, (0, n))], [(1, 6 * t + 154), (1, 6 * t + 154)], w)) 2 rfl ?_
    refine e_Ok.getf (z := w (6 * t + 154) 3) rfl (lT0 (t := t) rfl g_t) rfl rfl rfl (by omega) ?_
    refine e_Ok.ps1 (x := (0, 1)) (q := 113) 1 rfl ?_
    refine e_Ok.sub' (z := w (6 * t + 154) 3 - 1) rfl rfl (by omega) ?_
    refine e_Ok.callV rfl (e_dq hd rfl) rfl (lT0 (t := t) rfl g_t) rfl rfl (c_184 (t := t) (op := OP a) hT (by omega) hto hts) (fun r76 w77 h78 => ?_)
    obtain ⟨rfl, q79f, q79T, q79s⟩ := h78
    have Q81 := kI.tsx q q79T (by omega) q79f (fun c k g => th_kOt g) (by unfold kOt; omega) hst (by rw [ha]; exact q79s)
    refine e_Ok.nrm (q := 117) (st' := []) rfl rfl ?_
    refine e_Ok.ps2 (x := (1, 6 * t + 154)) (y := (1, 8)) (q := 143) 3 rfl ?_
    have ev0 : w77 74 1 = w 74 1 := ((q79f 74 1 (by first | exact no_ci_7 (by omega) | (unfold kOt; omega))).trans rfl)
    refine e_Ok.callV rfl (e_dq hd rfl) rfl rfl rfl rfl (c_49 (e_dq hd rfl) (t := t) q79T (by omega) Q81 (by rw [(show w77 (6 * t + 154) 2 = a from ((q79f (6 * t + 154) 2 (by first | exact no_ci_8 (by omega) | (unfold kOt; omega))).trans ha))]; omega) (by omega)) (fun r82 w83 h84 => ?_)
    obtain ⟨rfl, q85f, q85T, q85x⟩ := h84
    refine e_Ok.nrm (q := 146) (st' := []) rfl rfl ?_
    refine e_Ok.rets rfl rfl ?_
    have hz : w83 (6 * t + 154) 1 = 1 → 40 ≤ OP a (w83 (6 * t + 154) 3) ∧ w83 74 1 = w 74 1 := fun g => by
      rcases q85x.2.2.2 with ⟨g1, hfr⟩ | g1
      · rw [g1]; exact ⟨(by rw [(show w77 (6 * t + 154) 3 = w (6 * t + 154) 3 from ((q79f (6 * t + 154) 3 (by first | exact no_ci_9 (by omega) | (unfold kOt; omega))).trans rfl))]; exact (by have g := (hD.2.2 (w (6 * t + 154) 3 - 1)).2.2.1 (by omega); rw [show w (6 * t + 154) 3 - 1 + 1 = w (6 * t + 154) 3 by omega] at g; exact g)), ev0⟩
      · rw [g1] at g; exact absurd g (by decide)
    have h6 : w83 (6 * t + 154) 1 = 1 ∨ w83 (6 * t + 154) 1 = 6 := by
      rcases q85x.2.2.2 with ⟨g1, -⟩ | g1
      · rw [g1]; exact Or.inl (Eq.trans (show w77 (6 * t + 154) 1 = w (6 * t + 154) 1 from ((q79f (6 * t + 154) 1 (by first | exact no_ci_10 (by omega) | (unfold kOt; omega))).trans rfl)) hst)
      · exact Or.inr g1
    exact ⟨rfl, (show e_fr (kLd t) w w83 from e_fr.trans (show e_fr (kLd t) w w77 from e_fr.trans (e_fr.refl w) (e_fr.mono q79f (fun c k q => by first | exact su_ci_17 q | (unfold kOt at q; unfold kLd; omega)))) (e_fr.mono q85f (fun c k q => by first | exact su_ci_14 q | (unfold kEl at q; unfold kLd; omega)))), q85T, ⟨q85x.1, sK.fr q85f (by unfold kEl; omega) (fun k => by unfold kEl; omega) (sK.fr q79f (by unfold kOt; omega) (fun k => by unfold kOt; omega) hk), Eq.trans (q85f _ _ (by unfold kEl; omega)) (show w77 (6 * t + 154) 2 = a from ((q79f (6 * t + 154) 2 (by first | exact no_ci_8 (by omega) | (unfold kOt; omega))).trans ha)), by have := q85x.2; omega, by have := q85x.2; omega, hz, h6⟩⟩
  · refine e_Ok.swk (tg := 120) rfl (by rw [h1]; rfl) ?_
    refine e_Ok.run (t' := (122, [(0, (1, 8)), (1, (1, 6 * t + 154)), (2, (1, cd)), (3, (0, o)), (4, (0, n))], [(1, cd), (1, 6 * t + 154)], w)) 2 rfl ?_
    obtain ⟨H, hH89⟩ := hts
    refine e_Ok.callV rfl (e_dq hd rfl) rfl (lT0 (t := t) rfl g_t) rfl rfl (c_185 (e_dq hd rfl) (t := t) (op := OP a) (od := OD a) (cd := cd) (H := H) hT (by omega) hco.1 hD hH89) (fun r87 w88 h89 => ?_)
    obtain ⟨rfl, q91f, q91T, q91s, q91x⟩ := h89
    have Q93 := kI.tsx q q91T (by omega) q91f (fun c k g => th_kLv g) (by unfold kLv; omega) hst (by rw [ha]; exact ⟨H, q91s⟩)
    refine e_Ok.nrm (q := 125) (st' := []) rfl rfl ?_
    refine e_Ok.ps2 (x := (1, 6 * t + 154)) (y := (1, 8)) (q := 143) 3 rfl ?_
    have ev0 : w88 74 1 = w 74 1 := ((q91f 74 1 (by first | exact no_ci_4 (by omega) | (unfold kLv; omega))).trans rfl)
    refine e_Ok.callV rfl (e_dq hd rfl) rfl rfl rfl rfl (c_49 (e_dq hd rfl) (t := t) q91T (by omega) Q93 (by rw [(show w88 (6 * t + 154) 2 = a from ((q91f (6 * t + 154) 2 (by first | exact no_ci_5 (by omega) | (unfold kLv; omega))).trans ha))]; omega) (by omega)) (fun r94 w95 h101 => ?_)
    obtain ⟨rfl, q103f, q103T, q103x⟩ := h101
    refine e_Ok.nrm (q := 146) (st' := []) rfl rfl ?_
    refine e_Ok.rets rfl rfl ?_
    have hz : w95 (6 * t + 154) 1 = 1 → 40 ≤ OP a (w95 (6 * t + 154) 3) ∧ w95 74 1 = w 74 1 := fun g => by
      rcases q103x.2.2.2 with ⟨g1, hfr⟩ | g1
      · rw [g1]; exact ⟨(by rcases q91x with ⟨g1, g2⟩ | ⟨g1, g2⟩; (rw [g2]; exact (by have g := (hD.2.2 (w (6 * t + 154) 3 - 1)).2.2.1 (by omega); rw [show w (6 * t + 154) 3 - 1 + 1 = w (6 * t + 154) 3 by omega] at g; exact g)); (exact g1)), ev0⟩
      · rw [g1] at g; exact absurd g (by decide)
    have h6 : w95 (6 * t + 154) 1 = 1 ∨ w95 (6 * t + 154) 1 = 6 := by
      rcases q103x.2.2.2 with ⟨g1, -⟩ | g1
      · rw [g1]; exact Or.inl (Eq.trans (show w88 (6 * t + 154) 1 = w (6 * t + 154) 1 from ((q91f (6 * t + 154) 1 (by first | exact no_ci_6 (by omega) | (unfold kLv; omega))).trans rfl)) hst)
      · exact Or.inr g1
    exact ⟨rfl, (show e_fr (kLd t) w w95 from e_fr.trans (show e_fr (kLd t) w w88 from e_fr.trans (e_fr.refl w) (e_fr.mono q91f (fun c k q => by first | exact su_ci_16 q | (unfold kLv at q; unfold kLd; omega)))) (e_fr.mono q103f (fun c k q => by first | exact su_ci_14 q | (unfold kEl at q; unfold kLd; omega)))), q103T, ⟨q103x.1, sK.fr q103f (by unfold kEl; omega) (fun k => by unfold kEl; omega) (sK.fr q91f (by unfold kLv; omega) (fun k => by unfold kLv; omega) hk), Eq.trans (q103f _ _ (by unfold kEl; omega)) (show w88 (6 * t + 154) 2 = a from ((q91f (6 * t + 154) 2 (by first | exact no_ci_5 (by omega) | (unfold kLv; omega))).trans ha)), by have := q103x.2; omega, by have := q103x.2; omega, hz, h6⟩⟩
  · refine e_Ok.swk (tg := 128) rfl (by rw [h1]; rfl) ?_
    refine e_Ok.run (t' := (132, [(0, (1, 8)), (1, (1, 6 * t + 154)), (2, (1, cd)), (3, (0, o)), (4, (0, n))], [(1, 6 * t + 154), (1, cd), (1, 6 * t + 154), (1, 8)], w)) 4 rfl ?_
    obtain ⟨H, hH107⟩ := hts
    refine e_Ok.callV rfl (e_dq hd rfl) rfl (lT0 (t := t) rfl g_t) rfl rfl (c_186_b (t := t) (op := OP a) (H := H) hT (by omega) hH107) (fun r105 w106 h107 => ?_)
    obtain ⟨z110, rfl, q109f, q109T, q109s, q109r, q109p, q109x⟩ := h107
    have f111 : e_fr (kLd t) w w106 := e_fr.trans (e_fr.refl w) (e_fr.mono q109f (fun c k q => by first | exact su_ci_16 q | (unfold kLv at q; unfold kLd; omega)))
    have Q112 := kI.tsx q q109T (by omega) q109f (fun c k g => th_kLv g) (by unfold kLv; omega) hst (by rw [ha]; exact ⟨H, q109s⟩)
    obtain rfl | rfl | rfl | rfl : z110 = 0 ∨ z110 = 1 ∨ z110 = 2 ∨ z110 = 3 := by omega
    · refine e_Ok.nrm (q := 135) (st' := [(0, 0), (1, cd), (1, 6 * t + 154), (1, 8)]) rfl rfl ?_
      refine e_Ok.callV rfl (e_dq hd rfl) rfl rfl rfl rfl (c_72_0 (e_dq hd rfl) (t := t) q109T (by omega) Q112 (sK.fr q109f (by unfold kLv; omega) (fun k => by unfold kLv; omega) hk) (Eq.trans (show w106 (6 * t + 154) 1 = w (6 * t + 154) 1 from ((q109f (6 * t + 154) 1 (by first | exact no_ci_6 (by omega) | (unfold kLv; omega))).trans rfl)) hst) (by omega) (show w106 (6 * t + 154) 2 = a from ((q109f (6 * t + 154) 2 (by first | exact no_ci_5 (by omega) | (unfold kLv; omega))).trans ha)) (Eq.trans (q109f _ _ (by unfold kLv; omega)) hcv)) (fun r113 w114 h115 => ?_)
      obtain ⟨rfl, q116f, q116T, q116x⟩ := h115
      refine e_Ok.nrm (q := 138) (st' := []) rfl rfl ?_
      refine e_Ok.ps2 (x := (1, 6 * t + 154)) (y := (1, 8)) (q := 143) 3 rfl ?_
      have ev0 : w114 74 1 = w 74 1 := ((q116f 74 1 (by first | exact no_ci_11 (by omega) | (unfold kLf; omega))).trans ((q109f 74 1 (by first | exact no_ci_4 (by omega) | (unfold kLv; omega))).trans rfl))
      refine e_Ok.callV rfl (e_dq hd rfl) rfl rfl rfl rfl (c_49 (e_dq hd rfl) (t := t) q116T (by omega) q116x.1 (by rw [(show w114 (6 * t + 154) 2 = a from ((q116f (6 * t + 154) 2 (by first | exact no_ci_12 (by omega) | (unfold kLf; omega))).trans ((q109f (6 * t + 154) 2 (by first | exact no_ci_5 (by omega) | (unfold kLv; omega))).trans ha)))]; omega) (by omega)) (fun r118 w119 h120 => ?_)
      obtain ⟨rfl, q121f, q121T, q121x⟩ := h120
      refine e_Ok.nrm (q := 146) (st' := []) rfl rfl ?_
      refine e_Ok.rets rfl rfl ?_
      have hz : w119 (6 * t + 154) 1 = 1 → 40 ≤ OP a (w119 (6 * t + 154) 3) ∧ w119 74 1 = w 74 1 := fun g => by
        rcases q121x.2.2.2 with ⟨g1, hfr⟩ | g1
        · rw [g1]; exact ⟨(by rcases q116x.2.2.2.2 with g | g | g; (rw [g, (show w106 (6 * t + 154) 3 = w (6 * t + 154) 3 from q109p)]; exact (by have g := (hD.2.2 (w (6 * t + 154) 3 - 1)).2.2.1 (by omega); rw [show w (6 * t + 154) 3 - 1 + 1 = w (6 * t + 154) 3 by omega] at g; exact g)); (exact g); (exact absurd g (by omega))), ev0⟩
        · rw [g1] at g; exact absurd g (by decide)
      have h6 : w119 (6 * t + 154) 1 = 1 ∨ w119 (6 * t + 154) 1 = 6 := by
        rcases q121x.2.2.2 with ⟨g1, -⟩ | g1
        · rw [g1]; exact Or.inl (Eq.trans (show w114 (6 * t + 154) 1 = w (6 * t + 154) 1 from ((q116f (6 * t + 154) 1 (by first | exact no_ci_13 (by omega) | (unfold kLf; omega))).trans ((q109f (6 * t + 154) 1 (by first | exact no_ci_6 (by omega) | (unfold kLv; omega))).trans rfl))) hst)
        · exact Or.inr g1
      exact ⟨rfl, (show e_fr (kLd t) w w119 from e_fr.trans (show e_fr (kLd t) w w114 from e_fr.trans f111 (e_fr.mono q116f (fun c k q => by first | exact su_ci_18 q | (unfold kLf at q; unfold kLd; omega)))) (e_fr.mono q121f (fun c k q => by first | exact su_ci_14 q | (unfold kEl at q; unfold kLd; omega)))), q121T, ⟨q121x.1, sK.fr q121f (by unfold kEl; omega) (fun k => by unfold kEl; omega) q116x.2.1, Eq.trans (q121f _ _ (by unfold kEl; omega)) (show w114 (6 * t + 154) 2 = a from ((q116f (6 * t + 154) 2 (by first | exact no_ci_12 (by omega) | (unfold kLf; omega))).trans ((q109f (6 * t + 154) 2 (by first | exact no_ci_5 (by omega) | (unfold kLv; omega))).trans ha))), by have := q121x.2; omega, by have := q121x.2; omega, hz, h6⟩⟩
    · refine e_Ok.nrm (q := 135) (st' := [(0, 1), (1, cd), (1, 6 * t + 154), (1, 8)]) rfl rfl ?_
      refine e_Ok.callV rfl (e_dq hd rfl) rfl rfl rfl rfl (c_72_1 (e_dq hd rfl) (t := t) q109T (by omega) Q112 (sK.fr q109f (by unfold kLv; omega) (fun k => by unfold kLv; omega) hk) (Eq.trans (show w106 (6 * t + 154) 1 = w (6 * t + 154) 1 from ((q109f (6 * t + 154) 1 (by first | exact no_ci_6 (by omega) | (unfold kLv; omega))).trans rfl)) hst) (by omega) (show w106 (6 * t + 154) 2 = a from ((q109f (6 * t + 154) 2 (by first | exact no_ci_5 (by omega) | (unfold kLv; omega))).trans ha)) (Eq.trans (q109f _ _ (by unfold kLv; omega)) hcv) (q109x (by decide)).1 (q109x (by decide)).2.1) (fun r123 w124 h125 => ?_)
      obtain ⟨rfl, q126f, q126T, q126x⟩ := h125
      refine e_Ok.nrm (q := 138) (st' := []) rfl rfl ?_
      refine e_Ok.ps2 (x := (1, 6 * t + 154)) (y := (1, 8)) (q := 143) 3 rfl ?_
      have ev0 : w124 74 1 = w 74 1 := ((q126f 74 1 (by first | exact no_ci_11 (by omega) | (unfold kLf; omega))).trans ((q109f 74 1 (by first | exact no_ci_4 (by omega) | (unfold kLv; omega))).trans rfl))
      refine e_Ok.callV rfl (e_dq hd rfl) rfl rfl rfl rfl (c_49 (e_dq hd rfl) (t := t) q126T (by omega) q126x.1 (by rw [(show w124 (6 * t + 154) 2 = a from ((q126f (6 * t + 154) 2 (by first | exact no_ci_12 (by omega) | (unfold kLf; omega))).trans ((q109f (6 * t + 154) 2 (by first | exact no_ci_5 (by omega) | (unfold kLv; omega))).trans ha)))]; omega) (by omega)) (fun r128 w129 h130 => ?_)
      obtain ⟨rfl, q131f, q131T, q131x⟩ := h130
      refine e_Ok.nrm (q := 146) (st' := []) rfl rfl ?_
      refine e_Ok.rets rfl rfl ?_
      have hz : w129 (6 * t + 154) 1 = 1 → 40 ≤ OP a (w129 (6 * t + 154) 3) ∧ w129 74 1 = w 74 1 := fun g => by
        rcases q131x.2.2.2 with ⟨g1, hfr⟩ | g1
        · rw [g1]; exact ⟨(by rcases q126x.2.2.2.2 with g | g | g; (rw [g, (show w106 (6 * t + 154) 3 = w (6 * t + 154) 3 from q109p)]; exact (by have g := (hD.2.2 (w (6 * t + 154) 3 - 1)).2.2.1 (by omega); rw [show w (6 * t + 154) 3 - 1 + 1 = w (6 * t + 154) 3 by omega] at g; exact g)); (exact g); (exact absurd g (by omega))), ev0⟩
        · rw [g1] at g; exact absurd g (by decide)
      have h6 : w129 (6 * t + 154) 1 = 1 ∨ w129 (6 * t + 154) 1 = 6 := by
        rcases q131x.2.2.2 with ⟨g1, -⟩ | g1
        · rw [g1]; exact Or.inl (Eq.trans (show w124 (6 * t + 154) 1 = w (6 * t + 154) 1 from ((q126f (6 * t + 154) 1 (by first | exact no_ci_13 (by omega) | (unfold kLf; omega))).trans ((q109f (6 * t + 154) 1 (by first | exact no_ci_6 (by omega) | (unfold kLv; omega))).trans rfl))) hst)
        · exact Or.inr g1
      exact ⟨rfl, (show e_fr (kLd t) w w129 from e_fr.trans (show e_fr (kLd t) w w124 from e_fr.trans f111 (e_fr.mono q126f (fun c k q => by first | exact su_ci_18 q | (unfold kLf at q; unfold kLd; omega)))) (e_fr.mono q131f (fun c k q => by first | exact su_ci_14 q | (unfold kEl at q; unfold kLd; omega)))), q131T, ⟨q131x.1, sK.fr q131f (by unfold kEl; omega) (fun k => by unfold kEl; omega) q126x.2.1, Eq.trans (q131f _ _ (by unfold kEl; omega)) (show w124 (6 * t + 154) 2 = a from ((q126f (6 * t + 154) 2 (by first | exact no_ci_12 (by omega) | (unfold kLf; omega))).trans ((q109f (6 * t + 154) 2 (by first | exact no_ci_5 (by omega) | (unfold kLv; omega))).trans ha))), by have := q131x.2; omega, by have := q131x.2; omega, hz, h6⟩⟩
    · refine e_Ok.nrm (q := 135) (st' := [(0, 2), (1, cd), (1, 6 * t + 154), (1, 8)]) rfl rfl ?_
      refine e_Ok.callV rfl (e_dq hd rfl) rfl rfl rfl rfl (c_72_2 (e_dq hd rfl) (t := t) q109T (by omega) Q112 (sK.fr q109f (by unfold kLv; omega) (fun k => by unfold kLv; omega) hk) (Eq.trans (show w106 (6 * t + 154) 1 = w (6 * t + 154) 1 from ((q109f (6 * t + 154) 1 (by first | exact no_ci_6 (by omega) | (unfold kLv; omega))).trans rfl)) hst) (by omega) (show w106 (6 * t + 154) 2 = a from ((q109f (6 * t + 154) 2 (by first | exact no_ci_5 (by omega) | (unfold kLv; omega))).trans ha)) (Eq.trans (q109f _ _ (by unfold kLv; omega)) hcv) (q109x (by decide)).1 (q109x (by decide)).2.1) (fun r133 w134 h135 => ?_)
      obtain ⟨rfl, q136f, q136T, q136x⟩ := h135
      refine e_Ok.nrm (q := 138) (st' := []) rfl rfl ?_
      refine e_Ok.ps2 (x := (1, 6 * t + 154)) (y := (1, 8)) (q := 143) 3 rfl ?_
      have ev0 : w134 74 1 = w 74 1 := ((q136f 74 1 (by first | exact no_ci_11 (by omega) | (unfold kLf; omega))).trans ((q109f 74 1 (by first | exact no_ci_4 (by omega) | (unfold kLv; omega))).trans rfl))
      refine e_Ok.callV rfl (e_dq hd rfl) rfl rfl rfl rfl (c_49 (e_dq hd rfl) (t := t) q136T (by omega) q136x.1 (by rw [(show w134 (6 * t + 154) 2 = a from ((q136f (6 * t + 154) 2 (by first | exact no_ci_12 (by omega) | (unfold kLf; omega))).trans ((q109f (6 * t + 154) 2 (by first | exact no_ci_5 (by omega) | (unfold kLv; omega))).trans ha)))]; omega) (by omega)) (fun r138 w139 h140 => ?_)
      obtain ⟨rfl, q141f, q141T, q141x⟩ := h140
      refine e_Ok.nrm (q := 146) (st' := []) rfl rfl ?_
      refine e_Ok.rets rfl rfl ?_
      have hz : w139 (6 * t + 154) 1 = 1 → 40 ≤ OP a (w139 (6 * t + 154) 3) ∧ w139 74 1 = w 74 1 := fun g => by
        rcases q141x.2.2.2 with ⟨g1, hfr⟩ | g1
        · rw [g1]; exact ⟨(by rcases q136x.2.2.2.2 with g | g | g; (rw [g, (show w106 (6 * t + 154) 3 = w (6 * t + 154) 3 from q109p)]; exact (by have g := (hD.2.2 (w (6 * t + 154) 3 - 1)).2.2.1 (by omega); rw [show w (6 * t + 154) 3 - 1 + 1 = w (6 * t + 154) 3 by omega] at g; exact g)); (exact g); (exact absurd g (by omega))), ev0⟩
        · rw [g1] at g; exact absurd g (by decide)
      have h6 : w139 (6 * t + 154) 1 = 1 ∨ w139 (6 * t + 154) 1 = 6 := by
        rcases q141x.2.2.2 with ⟨g1, -⟩ | g1
        · rw [g1]; exact Or.inl (Eq.trans (show w134 (6 * t + 154) 1 = w (6 * t + 154) 1 from ((q136f (6 * t + 154) 1 (by first | exact no_ci_13 (by omega) | (unfold kLf; omega))).trans ((q109f (6 * t + 154) 1 (by first | exact no_ci_6 (by omega) | (unfold kLv; omega))).trans rfl))) hst)
        · exact Or.inr g1
      exact ⟨rfl, (show e_fr (kLd t) w w139 from e_fr.trans (show e_fr (kLd t) w w134 from e_fr.trans f111 (e_fr.mono q136f (fun c k q => by first | exact su_ci_18 q | (unfold kLf at q; unfold kLd; omega)))) (e_fr.mono q141f (fun c k q => by first | exact su_ci_14 q | (unfold kEl at q; unfold kLd; omega)))), q141T, ⟨q141x.1, sK.fr q141f (by unfold kEl; omega) (fun k => by unfold kEl; omega) q136x.2.1, Eq.trans (q141f _ _ (by unfold kEl; omega)) (show w134 (6 * t + 154) 2 = a from ((q136f (6 * t + 154) 2 (by first | exact no_ci_12 (by omega) | (unfold kLf; omega))).trans ((q109f (6 * t + 154) 2 (by first | exact no_ci_5 (by omega) | (unfold kLv; omega))).trans ha))), by have := q141x.2; omega, by have := q141x.2; omega, hz, h6⟩⟩
    · refine e_Ok.nrm (q := 135) (st' := [(0, 3), (1, cd), (1, 6 * t + 154), (1, 8)]) rfl rfl ?_
      refine e_Ok.callV rfl (e_dq hd rfl) rfl rfl rfl rfl (c_72_3 (e_dq hd rfl) (t := t) q109T (by omega) Q112 (sK.fr q109f (by unfold kLv; omega) (fun k => by unfold kLv; omega) hk) (Eq.trans (show w106 (6 * t + 154) 1 = w (6 * t + 154) 1 from ((q109f (6 * t + 154) 1 (by first | exact no_ci_6 (by omega) | (unfold kLv; omega))).trans rfl)) hst) (by omega) (show w106 (6 * t + 154) 2 = a from ((q109f (6 * t + 154) 2 (by first | exact no_ci_5 (by omega) | (unfold kLv; omega))).trans ha)) (Eq.trans (q109f _ _ (by unfold kLv; omega)) hcv) (q109x (by decide)).1 (q109x (by decide)).2.1 ((q109x (by decide)).2.2 rfl)) (fun r143 w144 h145 => ?_)
      obtain ⟨rfl, q146f, q146T, q146x⟩ := h145
      refine e_Ok.nrm (q := 138) (st' := []) rfl rfl ?_
      refine e_Ok.ps2 (x := (1, 6 * t + 154)) (y := (1, 8)) (q := 143) 3 rfl ?_
      have ev0 : w144 74 1 = w 74 1 := ((q146f 74 1 (by first | exact no_ci_11 (by omega) | (unfold kLf; omega))).trans ((q109f 74 1 (by first | exact no_ci_4 (by omega) | (unfold kLv; omega))).trans rfl))
      refine e_Ok.callV rfl (e_dq hd rfl) rfl rfl rfl rfl (c_49 (e_dq hd rfl) (t := t) q146T (by omega) q146x.1 (by rw [(show w144 (6 * t + 154) 2 = a from ((q146f (6 * t + 154) 2 (by first | exact no_ci_12 (by omega) | (unfold kLf; omega))).trans ((q109f (6 * t + 154) 2 (by first | exact no_ci_5 (by omega) | (unfold kLv; omega))).trans ha)))]; omega) (by omega)) (fun r148 w149 h150 => ?_)
      obtain ⟨rfl, q151f, q151T, q151x⟩ := h150
      refine e_Ok.nrm (q := 146) (st' := []) rfl rfl ?_
      refine e_Ok.rets rfl rfl ?_
      have hz : w149 (6 * t + 154) 1 = 1 → 40 ≤ OP a (w149 (6 * t + 154) 3) ∧ w149 74 1 = w 74 1 := fun g => by
        rcases q151x.2.2.2 with ⟨g1, hfr⟩ | g1
        · rw [g1]; exact ⟨(by rcases q146x.2.2.2.2 with g | g | g; (rw [g, (show w106 (6 * t + 154) 3 = w (6 * t + 154) 3 from q109p)]; exact (by have g := (hD.2.2 (w (6 * t + 154) 3 - 1)).2.2.1 (by omega); rw [show w (6 * t + 154) 3 - 1 + 1 = w (6 * t + 154) 3 by omega] at g; exact g)); (exact g); (exact absurd g (by omega))), ev0⟩
        · rw [g1] at g; exact absurd g (by decide)
      have h6 : w149 (6 * t + 154) 1 = 1 ∨ w149 (6 * t + 154) 1 = 6 := by
        rcases q151x.2.2.2 with ⟨g1, -⟩ | g1
        · rw [g1]; exact Or.inl (Eq.trans (show w144 (6 * t + 154) 1 = w (6 * t + 154) 1 from ((q146f (6 * t + 154) 1 (by first | exact no_ci_13 (by omega) | (unfold kLf; omega))).trans ((q109f (6 * t + 154) 1 (by first | exact no_ci_6 (by omega) | (unfold kLv; omega))).trans rfl))) hst)
        · exact Or.inr g1
      exact ⟨rfl, (show e_fr (kLd t) w w149 from e_fr.trans (show e_fr (kLd t) w w144 from e_fr.trans f111 (e_fr.mono q146f (fun c k q => by first | exact su_ci_18 q | (unfold kLf at q; unfold kLd; omega)))) (e_fr.mono q151f (fun c k q => by first | exact su_ci_14 q | (unfold kEl at q; unfold kLd; omega)))), q151T, ⟨q151x.1, sK.fr q151f (by unfold kEl; omega) (fun k => by unfold kEl; omega) q146x.2.1, Eq.trans (q151f _ _ (by unfold kEl; omega)) (show w144 (6 * t + 154) 2 = a from ((q146f (6 * t + 154) 2 (by first | exact no_ci_12 (by omega) | (unfold kLf; omega))).trans ((q109f (6 * t + 154) 2 (by first | exact no_ci_5 (by omega) | (unfold kLv; omega))).trans ha))), by have := q151x.2; omega, by have := q151x.2; omega, hz, h6⟩⟩
end
end
-- part cia
section
noncomputable section
/-! what a tick may write; and but for the arms' values and points -/
def kNw (c k : Int) : Prop := (c = 74 ∧ k ≠ 2) ∨ (c = 75) ∨ (78 ≤ c ∧ c ≤ 81) ∨ (83 ≤ c ∧ c ≤ 85) ∨ (c = 8 ∧ 8 ≤ k) ∨ (11 ≤ c ∧ c ≤ 14) ∨ (c = 16) ∨ (31 ≤ c ∧ c ≤ 37) ∨ (39 ≤ c ∧ c ≤ 40) ∨ (154 ≤ c ∧ c ≤ 249) ∨ (c = 250 ∧ 13 ≤ k) ∨ (c = 274) ∨ (c = 272) ∨ ((c = 86 ∨ c = 103 ∨ c = 120 ∨ c = 137) ∧ 11 ≤ k) ∨ (((c = 88 ∨ c = 89 ∨ c = 105 ∨ c = 106 ∨ c = 122 ∨ c = 123 ∨ c = 139 ∨ c = 140) ∧ 1 ≤ k) ∨ (c = 90 ∨ c = 91 ∨ c = 107 ∨ c = 108 ∨ c = 124 ∨ c = 125 ∨ c = 141 ∨ c = 142)) ∨ (c = 93 ∨ c = 110 ∨ c = 127 ∨ c = 144) ∨ (((97 ≤ c ∧ c ≤ 102) ∨ (114 ≤ c ∧ c ≤ 119) ∨ (131 ≤ c ∧ c ≤ 136) ∨ (148 ≤ c ∧ c ≤ 153)) ∧ 7 ≤ k)
def kNq (c k : Int) : Prop := (c = 74 ∧ k ≠ 2) ∨ (c = 75) ∨ (78 ≤ c ∧ c ≤ 81) ∨ (83 ≤ c ∧ c ≤ 85) ∨ (c = 8 ∧ 8 ≤ k) ∨ (11 ≤ c ∧ c ≤ 14) ∨ (c = 16) ∨ (31 ≤ c ∧ c ≤ 37) ∨ (39 ≤ c ∧ c ≤ 40) ∨ (154 ≤ c ∧ c ≤ 249) ∨ (c = 250 ∧ 13 ≤ k) ∨ (c = 274) ∨ (c = 272) ∨ ((c = 86 ∨ c = 103 ∨ c = 120 ∨ c = 137) ∧ 11 ≤ k) ∨ (c = 90 ∨ c = 91 ∨ c = 107 ∨ c = 108 ∨ c = 124 ∨ c = 125 ∨ c = 141 ∨ c = 142) ∨ (c = 93 ∨ c = 110 ∨ c = 127 ∨ c = 144) ∨ (((97 ≤ c ∧ c ≤ 102) ∨ (114 ≤ c ∧ c ≤ 119) ∨ (131 ≤ c ∧ c ≤ 136) ∨ (148 ≤ c ∧ c ≤ 153)) ∧ 8 ≤ k)
theorem nq_nw {c k : Int} (q : kNq c k) : kNw c k := by
  unfold kNq at q
  rcases q with q | q | q | q | q | q | q | q | q | q | q | q | q | q | q | q | q
  · exact Or.inl (by omega)
  · exact Or.inr (Or.inl (by omega))
  · exact Or.inr (Or.inr (Or.inl (by omega)))
  · exact Or.inr (Or.inr (Or.inr (Or.inl (by omega))))
  · exact Or.inr (Or.inr (Or.inr (Or.inr (Or.inl (by omega)))))
  · exact Or.inr (Or.inr (Or.inr (Or.inr (Or.inr (Or.inl (by omega))))))
  · exact Or.inr (Or.inr (Or.inr (Or.inr (Or.inr (Or.inr (Or.inl (by omega)))))))
  · exact Or.inr (Or.inr (Or.inr (Or.inr (Or.inr (Or.inr (Or.inr (Or.inl (by omega))))))))
  · exact Or.inr (Or.inr (Or.inr (Or.inr (Or.inr (Or.inr (Or.inr (Or.inr (Or.inl (by omega)))))))))
  · exact Or.inr (Or.inr (Or.inr (Or.inr (Or.inr (Or.inr (Or.inr (Or.inr (Or.inr (Or.inl (by omega))))))))))
  · exact Or.inr (Or.inr (Or.inr (Or.inr (Or.inr (Or.inr (Or.inr (Or.inr (Or.inr (Or.inr (Or.inl (by omega)))))))))))
  · exact Or.inr (Or.inr (Or.inr (Or.inr (Or.inr (Or.inr (Or.inr (Or.inr (Or.inr (Or.inr (Or.inr (Or.inl (by omega))))))))))))
  · exact Or.inr (Or.inr (Or.inr (Or.inr (Or.inr (Or.inr (Or.inr (Or.inr (Or.inr (Or.inr (Or.inr (Or.inr (Or.inl (by omega)))))))))))))
  · exact Or.inr (Or.inr (Or.inr (Or.inr (Or.inr (Or.inr (Or.inr (Or.inr (Or.inr (Or.inr (Or.inr (Or.inr (Or.inr (Or.inl (by omega))))))))))))))
  · exact Or.inr (Or.inr (Or.inr (Or.inr (Or.inr (Or.inr (Or.inr (Or.inr (Or.inr (Or.inr (Or.inr (Or.inr (Or.inr (Or.inr (Or.inl (by omega)))))))))))))))
  · exact Or.inr (Or.inr (Or.inr (Or.inr (Or.inr (Or.inr (Or.inr (Or.inr (Or.inr (Or.inr (Or.inr (Or.inr (Or.inr (Or.inr (Or.inr (Or.inl (by omega))))))))))))))))
  · exact Or.inr (Or.inr (Or.inr (Or.inr (Or.inr (Or.inr (Or.inr (Or.inr (Or.inr (Or.inr (Or.inr (Or.inr (Or.inr (Or.inr (Or.inr (Or.inr ((by omega)))))))))))))))))
theorem nw_kDs {c k : Int} (q : kDs c k) : kNw c k := by
  unfold kDs at q
  rcases q with q | q
  · exact Or.inr (Or.inr (Or.inr (Or.inr (Or.inl (by omega)))))
  · exact Or.inr (Or.inr (Or.inr (Or.inl (by omega))))
theorem nq_kDs {c k : Int} (q : kDs c k) : kNq c k := by
  unfold kDs at q
  rcases q with q | q
  · exact Or.inr (Or.inr (Or.inr (Or.inr (Or.inl (by omega)))))
  · exact Or.inr (Or.inr (Or.inr (Or.inl (by omega))))
theorem nw_kGl {c k : Int} (q : kGl c k) : kNw c k := by
  unfold kGl at q
  exact Or.inr (Or.inr (Or.inr (Or.inl (by omega))))
theorem nq_kGl {c k : Int} (q : kGl c k) : kNq c k := by
  unfold kGl at q
  exact Or.inr (Or.inr (Or.inr (Or.inl (by omega))))
theorem nw_kMb {t a c k : Int} (ht : 0 ≤ t ∧ t ≤ 15) (ha : 0 ≤ a ∧ a ≤ 3) (q : kMb t a c k) : kNw c k := by
  unfold kMb at q
  rcases q with q | q | q | q | q
  · exact Or.inr (Or.inr (Or.inr (Or.inr (Or.inl (by omega)))))
  · exact Or.inr (Or.inr (Or.inr (Or.inl (by omega))))
  · exact Or.inr (Or.inr (Or.inr (Or.inr (Or.inr (Or.inr (Or.inr (Or.inr (Or.inr (Or.inr (Or.inr (Or.inr (Or.inr (Or.inl (by omega))))))))))))))
  · exact Or.inr (Or.inr (Or.inr (Or.inr (Or.inr (Or.inr (Or.inr (Or.inr (Or.inr (Or.inr (Or.inr (Or.inr (Or.inr (Or.inr (Or.inr (Or.inr ((by omega)))))))))))))))))
  · exact Or.inr (Or.inr (Or.inr (Or.inr (Or.inr (Or.inr (Or.inr (Or.inr (Or.inr (Or.inl (by omega))))))))))
theorem nq_kMb {t a c k : Int} (ht : 0 ≤ t ∧ t ≤ 15) (ha : 0 ≤ a ∧ a ≤ 3) (q : kMb t a c k) : kNq c k := by
  unfold kMb at q
  rcases q with q | q | q | q | q
  · exact Or.inr (Or.inr (Or.inr (Or.inr (Or.inl (by omega)))))
  · exact Or.inr (Or.inr (Or.inr (Or.inl (by omega))))
  · exact Or.inr (Or.inr (Or.inr (Or.inr (Or.inr (Or.inr (Or.inr (Or.inr (Or.inr (Or.inr (Or.inr (Or.inr (Or.inr (Or.inl (by omega))))))))))))))
  · exact Or.inr (Or.inr (Or.inr (Or.inr (Or.inr (Or.inr (Or.inr (Or.inr (Or.inr (Or.inr (Or.inr (Or.inr (Or.inr (Or.inr (Or.inr (Or.inr ((by omega)))))))))))))))))
  · exact Or.inr (Or.inr (Or.inr (Or.inr (Or.inr (Or.inr (Or.inr (Or.inr (Or.inr (Or.inl (by omega))))))))))
theorem nw_kWf {t c k : Int} (ht : 0 ≤ t ∧ t ≤ 15) (q : kWf t c k) : kNw c k := by
  unfold kWf at q
  exact Or.inr (Or.inr (Or.inr (Or.inr (Or.inr (Or.inr (Or.inr (Or.inr (Or.inr (Or.inl (by omega))))))))))
theorem nq_kWf {t c k : Int} (ht : 0 ≤ t ∧ t ≤ 15) (q : kWf t c k) : kNq c k := by
  unfold kWf at q
  exact Or.inr (Or.inr (Or.inr (Or.inr (Or.inr (Or.inr (Or.inr (Or.inr (Or.inr (Or.inl (by omega))))))))))
theorem nw_kWu {t c k : Int} (ht : 0 ≤ t ∧ t ≤ 15) (q : kWu t c k) : kNw c k := by
  unfold kWu at q
  exact Or.inr (Or.inr (Or.inr (Or.inr (Or.inr (Or.inr (Or.inr (Or.inr (Or.inr (Or.inl (by omega))))))))))
theorem nq_kWu {t c k : Int} (ht : 0 ≤ t ∧ t ≤ 15) (q : kWu t c k) : kNq c k := by
  unfold kWu at q
  exact Or.inr (Or.inr (Or.inr (Or.inr (Or.inr (Or.inr (Or.inr (Or.inr (Or.inr (Or.inl (by omega))))))))))
theorem nw_kSP {c k : Int} (q : kSP c k) : kNw c k := by
  unfold kSP at q
  rcases q with q | q | q | q
  · exact Or.inr (Or.inr (Or.inr (Or.inr (Or.inl (by omega)))))
  · exact Or.inr (Or.inr (Or.inr (Or.inl (by omega))))
  · exact Or.inr (Or.inr (Or.inr (Or.inr (Or.inr (Or.inl (by omega))))))
  · exact Or.inr (Or.inr (Or.inr (Or.inr (Or.inr (Or.inr (Or.inl (by omega)))))))
theorem nq_kSP {c k : Int} (q : kSP c k) : kNq c k := by
  unfold kSP at q
  rcases q with q | q | q | q
  · exact Or.inr (Or.inr (Or.inr (Or.inr (Or.inl (by omega)))))
  · exact Or.inr (Or.inr (Or.inr (Or.inl (by omega))))
  · exact Or.inr (Or.inr (Or.inr (Or.inr (Or.inr (Or.inl (by omega))))))
  · exact Or.inr (Or.inr (Or.inr (Or.inr (Or.inr (Or.inr (Or.inl (by omega)))))))
theorem nw_kTl {t c k : Int} (ht : 0 ≤ t ∧ t ≤ 15) (q : kTl t c k) : kNw c k := by
  unfold kTl at q
  rcases q with q | q | q | q
  · exact Or.inr (Or.inr (Or.inr (Or.inr (Or.inl (by omega)))))
  · exact Or.inr (Or.inr (Or.inr (Or.inl (by omega))))
  · exact Or.inr (Or.inr (Or.inr (Or.inl (by omega))))
  · exact Or.inr (Or.inr (Or.inr (Or.inr (Or.inr (Or.inr (Or.inr (Or.inr (Or.inr (Or.inl (by omega))))))))))
theorem nq_kTl {t c k : Int} (ht : 0 ≤ t ∧ t ≤ 15) (q : kTl t c k) : kNq c k := by
  unfold kTl at q
  rcases q with q | q | q | q
  · exact Or.inr (Or.inr (Or.inr (Or.inr (Or.inl (by omega)))))
  · exact Or.inr (Or.inr (Or.inr (Or.inl (by omega))))
  · exact Or.inr (Or.inr (Or.inr (Or.inl (by omega))))
  · exact Or.inr (Or.inr (Or.inr (Or.inr (Or.inr (Or.inr (Or.inr (Or.inr (Or.inr (Or.inl (by omega))))))))))
theorem nw_kFk {c k : Int} (q : kFk c k) : kNw c k := by
  unfold kFk at q
  rcases q with q | q | q
  · exact Or.inr (Or.inr (Or.inr (Or.inr (Or.inl (by omega)))))
  · exact Or.inr (Or.inr (Or.inr (Or.inl (by omega))))
  · exact Or.inr (Or.inr (Or.inr (Or.inl (by omega))))
theorem nq_kFk {c k : Int} (q : kFk c k) : kNq c k := by
  unfold kFk at q
  rcases q with q | q | q
  · exact Or.inr (Or.inr (Or.inr (Or.inr (Or.inl (by omega)))))
  · exact Or.inr (Or.inr (Or.inr (Or.inl (by omega))))
  · exact Or.inr (Or.inr (Or.inr (Or.inl (by omega))))
theorem nw_kEn {t c k : Int} (ht : 0 ≤ t ∧ t ≤ 15) (q : kEn t c k) : kNw c k := by
  unfold kEn at q
  rcases q with q | q | q
  · exact Or.inr (Or.inr (Or.inr (Or.inr (Or.inr (Or.inr (Or.inr (Or.inr (Or.inr (Or.inl (by omega))))))))))
  · exact Or.inr (Or.inr (Or.inr (Or.inr (Or.inr (Or.inr (Or.inr (Or.inr (Or.inr (Or.inl (by omega))))))))))
  · exact Or.inr (Or.inr (Or.inr (Or.inr (Or.inr (Or.inr (Or.inr (Or.inr (Or.inr (Or.inl (by omega))))))))))
theorem nq_kEn {t c k : Int} (ht : 0 ≤ t ∧ t ≤ 15) (q : kEn t c k) : kNq c k := by
  unfold kEn at q
  rcases q with q | q | q
  · exact Or.inr (Or.inr (Or.inr (Or.inr (Or.inr (Or.inr (Or.inr (Or.inr (Or.inr (Or.inl (by omega))))))))))
  · exact Or.inr (Or.inr (Or.inr (Or.inr (Or.inr (Or.inr (Or.inr (Or.inr (Or.inr (Or.inl (by omega))))))))))
  · exact Or.inr (Or.inr (Or.inr (Or.inr (Or.inr (Or.inr (Or.inr (Or.inr (Or.inr (Or.inl (by omega))))))))))
theorem nw_kBg {t c k : Int} (ht : 0 ≤ t ∧ t ≤ 15) (q : kBg t c k) : kNw c k := by
  unfold kBg at q
  rcases q with q | q | q
  · exact Or.inr (Or.inr (Or.inr (Or.inr (Or.inr (Or.inr (Or.inr (Or.inr (Or.inr (Or.inl (by omega))))))))))
  · exact Or.inr (Or.inr (Or.inr (Or.inr (Or.inr (Or.inr (Or.inr (Or.inr (Or.inr (Or.inl (by omega))))))))))
  · exact Or.inr (Or.inr (Or.inr (Or.inr (Or.inr (Or.inr (Or.inr (Or.inr (Or.inr (Or.inl (by omega))))))))))
theorem nq_kBg {t c k : Int} (ht : 0 ≤ t ∧ t ≤ 15) (q : kBg t c k) : kNq c k := by
  unfold kBg at q
  rcases q with q | q | q
  · exact Or.inr (Or.inr (Or.inr (Or.inr (Or.inr (Or.inr (Or.inr (Or.inr (Or.inr (Or.inl (by omega))))))))))
  · exact Or.inr (Or.inr (Or.inr (Or.inr (Or.inr (Or.inr (Or.inr (Or.inr (Or.inr (Or.inl (by omega))))))))))
  · exact Or.inr (Or.inr (Or.inr (Or.inr (Or.inr (Or.inr (Or.inr (Or.inr (Or.inr (Or.inl (by omega))))))))))
theorem nw_kLg {c k : Int} (q : kLg c k) : kNw c k := by
  unfold kLg at q
  rcases q with q | q
  · exact Or.inl (by omega)
  · exact Or.inr (Or.inl (by omega))
theorem nq_kLg {c k : Int} (q : kLg c k) : kNq c k := by
  unfold kLg at q
  rcases q with q | q
  · exact Or.inl (by omega)
  · exact Or.inr (Or.inl (by omega))
theorem nw_kGd {a c k : Int} (ha : 0 ≤ a ∧ a ≤ 3) (q : kGd a c k) : kNw c k := by
  unfold kGd at q
  rcases q with q | q | q | q | q | q | q | q | q
  · exact Or.inr (Or.inr (Or.inr (Or.inr (Or.inl (by omega)))))
  · exact Or.inr (Or.inr (Or.inr (Or.inl (by omega))))
  · exact Or.inl (by omega)
  · exact Or.inr (Or.inl (by omega))
  · exact Or.inr (Or.inr (Or.inr (Or.inr (Or.inr (Or.inr (Or.inr (Or.inl (by omega))))))))
  · exact Or.inr (Or.inr (Or.inr (Or.inr (Or.inr (Or.inr (Or.inr (Or.inr (Or.inl (by omega)))))))))
  · exact Or.inr (Or.inr (Or.inr (Or.inr (Or.inr (Or.inr (Or.inr (Or.inr (Or.inl (by omega)))))))))
  · exact Or.inr (Or.inr (Or.inr (Or.inr (Or.inr (Or.inr (Or.inr (Or.inr (Or.inr (Or.inr (Or.inr (Or.inr (Or.inr (Or.inl (by omega))))))))))))))
  · exact Or.inr (Or.inr (Or.inr (Or.inr (Or.inr (Or.inr (Or.inr (Or.inr (Or.inr (Or.inr (Or.inr (Or.inr (Or.inr (Or.inl (by omega))))))))))))))
theorem nq_kGd {a c k : Int} (ha : 0 ≤ a ∧ a ≤ 3) (q : kGd a c k) : kNq c k := by
  unfold kGd at q
  rcases q with q | q | q | q | q | q | q | q | q
  · exact Or.inr (Or.inr (Or.inr (Or.inr (Or.inl (by omega)))))
  · exact Or.inr (Or.inr (Or.inr (Or.inl (by omega))))
  · exact Or.inl (by omega)
  · exact Or.inr (Or.inl (by omega))
  · exact Or.inr (Or.inr (Or.inr (Or.inr (Or.inr (Or.inr (Or.inr (Or.inl (by omega))))))))
  · exact Or.inr (Or.inr (Or.inr (Or.inr (Or.inr (Or.inr (Or.inr (Or.inr (Or.inl (by omega)))))))))
  · exact Or.inr (Or.inr (Or.inr (Or.inr (Or.inr (Or.inr (Or.inr (Or.inr (Or.inl (by omega)))))))))
  · exact Or.inr (Or.inr (Or.inr (Or.inr (Or.inr (Or.inr (Or.inr (Or.inr (Or.inr (Or.inr (Or.inr (Or.inr (Or.inr (Or.inl (by omega))))))))))))))
  · exact Or.inr (Or.inr (Or.inr (Or.inr (Or.inr (Or.inr (Or.inr (Or.inr (Or.inr (Or.inr (Or.inr (Or.inr (Or.inr (Or.inl (by omega))))))))))))))
theorem nw_kWt {t c k : Int} (ht : 0 ≤ t ∧ t ≤ 15) (q : kWt t c k) : kNw c k := by
  unfold kWt at q
  rcases q with q | q | q
  · exact Or.inr (Or.inr (Or.inr (Or.inr (Or.inl (by omega)))))
  · exact Or.inr (Or.inr (Or.inr (Or.inl (by omega))))
  · exact Or.inr (Or.inr (Or.inr (Or.inr (Or.inr (Or.inr (Or.inr (Or.inr (Or.inr (Or.inl (by omega))))))))))
theorem nq_kWt {t c k : Int} (ht : 0 ≤ t ∧ t ≤ 15) (q : kWt t c k) : kNq c k := by
  unfold kWt at q
  rcases q with q | q | q
  · exact Or.inr (Or.inr (Or.inr (Or.inr (Or.inl (by omega)))))
  · exact Or.inr (Or.inr (Or.inr (Or.inl (by omega))))
  · exact Or.inr (Or.inr (Or.inr (Or.inr (Or.inr (Or.inr (Or.inr (Or.inr (Or.inr (Or.inl (by omega))))))))))
theorem nw_kGn {t c k : Int} (ht : 0 ≤ t ∧ t ≤ 15) (q : kGn t c k) : kNw c k := by
  unfold kGn at q
  rcases q with q | q | q
  · exact Or.inr (Or.inr (Or.inr (Or.inr (Or.inl (by omega)))))
  · exact Or.inr (Or.inr (Or.inr (Or.inl (by omega))))
  · exact Or.inr (Or.inr (Or.inr (Or.inr (Or.inr (Or.inr (Or.inr (Or.inr (Or.inr (Or.inl (by omega))))))))))
theorem nq_kGn {t c k : Int} (ht : 0 ≤ t ∧ t ≤ 15) (q : kGn t c k) : kNq c k := by
  unfold kGn at q
  rcases q with q | q | q
  · exact Or.inr (Or.inr (Or.inr (Or.inr (Or.inl (by omega)))))
  · exact Or.inr (Or.inr (Or.inr (Or.inl (by omega))))
  · exact Or.inr (Or.inr (Or.inr (Or.inr (Or.inr (Or.inr (Or.inr (Or.inr (Or.inr (Or.inl (by omega))))))))))
theorem nw_kLe {t a c k : Int} (ht : 0 ≤ t ∧ t ≤ 15) (ha : 0 ≤ a ∧ a ≤ 3) (q : kLe t a c k) : kNw c k := by
  unfold kLe at q
  rcases q with q | q | q | q | q | q | q | q | q | q
  · exact Or.inr (Or.inr (Or.inr (Or.inr (Or.inr (Or.inr (Or.inr (Or.inr (Or.inr (Or.inl (by omega))))))))))
  · exact Or.inr (Or.inr (Or.inr (Or.inr (Or.inr (Or.inr (Or.inr (Or.inr (Or.inr (Or.inl (by omega))))))))))
  · exact Or.inr (Or.inr (Or.inr (Or.inr (Or.inr (Or.inr (Or.inr (Or.inr (Or.inr (Or.inl (by omega))))))))))
  · exact Or.inr (Or.inr (Or.inr (Or.inr (Or.inr (Or.inr (Or.inr (Or.inr (Or.inr (Or.inl (by omega))))))))))
  · exact Or.inl (by omega)
  · exact Or.inr (Or.inl (by omega))
  · exact Or.inr (Or.inr (Or.inr (Or.inl (by omega))))
  · exact Or.inr (Or.inr (Or.inr (Or.inr (Or.inl (by omega)))))
  · exact Or.inr (Or.inr (Or.inr (Or.inl (by omega))))
  · exact Or.inr (Or.inr (Or.inr (Or.inr (Or.inr (Or.inr (Or.inr (Or.inr (Or.inr (Or.inr (Or.inr (Or.inr (Or.inr (Or.inl (by omega))))))))))))))
theorem nq_kLe {t a c k : Int} (ht : 0 ≤ t ∧ t ≤ 15) (ha : 0 ≤ a ∧ a ≤ 3) (q : kLe t a c k) : kNq c k := by
  unfold kLe at q
  rcases q with q | q | q | q | q | q | q | q | q | q
  · exact Or.inr (Or.inr (Or.inr (Or.inr (Or.inr (Or.inr (Or.inr (Or.inr (Or.inr (Or.inl (by omega))))))))))
  · exact Or.inr (Or.inr (Or.inr (Or.inr (Or.inr (Or.inr (Or.inr (Or.inr (Or.inr (Or.inl (by omega))))))))))
  · exact Or.inr (Or.inr (Or.inr (Or.inr (Or.inr (Or.inr (Or.inr (Or.inr (Or.inr (Or.inl (by omega))))))))))
  · exact Or.inr (Or.inr (Or.inr (Or.inr (Or.inr (Or.inr (Or.inr (Or.inr (Or.inr (Or.inl (by omega))))))))))
  · exact Or.inl (by omega)
  · exact Or.inr (Or.inl (by omega))
  · exact Or.inr (Or.inr (Or.inr (Or.inl (by omega))))
  · exact Or.inr (Or.inr (Or.inr (Or.inr (Or.inl (by omega)))))
  · exact Or.inr (Or.inr (Or.inr (Or.inl (by omega))))
  · exact Or.inr (Or.inr (Or.inr (Or.inr (Or.inr (Or.inr (Or.inr (Or.inr (Or.inr (Or.inr (Or.inr (Or.inr (Or.inr (Or.inl (by omega))))))))))))))
theorem nw_kWc {t c k : Int} (ht : 0 ≤ t ∧ t ≤ 15) (q : kWc t c k) : kNw c k := by
  unfold kWc at q
  rcases q with q | q | q | q | q
  · exact Or.inr (Or.inr (Or.inr (Or.inr (Or.inl (by omega)))))
  · exact Or.inr (Or.inr (Or.inr (Or.inl (by omega))))
  · exact Or.inr (Or.inr (Or.inr (Or.inr (Or.inr (Or.inr (Or.inr (Or.inr (Or.inr (Or.inl (by omega))))))))))
  · exact Or.inr (Or.inr (Or.inr (Or.inr (Or.inr (Or.inr (Or.inr (Or.inr (Or.inr (Or.inl (by omega))))))))))
  · exact Or.inr (Or.inr (Or.inr (Or.inr (Or.inr (Or.inr (Or.inr (Or.inr (Or.inr (Or.inl (by omega))))))))))
theorem nq_kWc {t c k : Int} (ht : 0 ≤ t ∧ t ≤ 15) (q : kWc t c k) : kNq c k := by
  unfold kWc at q
  rcases q with q | q | q | q | q
  · exact Or.inr (Or.inr (Or.inr (Or.inr (Or.inl (by omega)))))
  · exact Or.inr (Or.inr (Or.inr (Or.inl (by omega))))
  · exact Or.inr (Or.inr (Or.inr (Or.inr (Or.inr (Or.inr (Or.inr (Or.inr (Or.inr (Or.inl (by omega))))))))))
  · exact Or.inr (Or.inr (Or.inr (Or.inr (Or.inr (Or.inr (Or.inr (Or.inr (Or.inr (Or.inl (by omega))))))))))
  · exact Or.inr (Or.inr (Or.inr (Or.inr (Or.inr (Or.inr (Or.inr (Or.inr (Or.inr (Or.inl (by omega))))))))))
theorem nw_kDp {t c k : Int} (ht : 0 ≤ t ∧ t ≤ 15) (q : kDp t c k) : kNw c k := by
  unfold kDp at q
  rcases q with q | q | q
  · exact Or.inr (Or.inr (Or.inr (Or.inr (Or.inl (by omega)))))
  · exact Or.inr (Or.inr (Or.inr (Or.inl (by omega))))
  · exact Or.inr (Or.inr (Or.inr (Or.inr (Or.inr (Or.inr (Or.inr (Or.inr (Or.inr (Or.inl (by omega))))))))))
theorem nq_kDp {t c k : Int} (ht : 0 ≤ t ∧ t ≤ 15) (q : kDp t c k) : kNq c k := by
  unfold kDp at q
  rcases q with q | q | q
  · exact Or.inr (Or.inr (Or.inr (Or.inr (Or.inl (by omega)))))
  · exact Or.inr (Or.inr (Or.inr (Or.inl (by omega))))
  · exact Or.inr (Or.inr (Or.inr (Or.inr (Or.inr (Or.inr (Or.inr (Or.inr (Or.inr (Or.inl (by omega))))))))))
theorem nw_kLd {t c k : Int} (ht : 0 ≤ t ∧ t ≤ 15) (q : kLd t c k) : kNw c k := by
  unfold kLd at q
  rcases q with q | q | q | q | q | q | q
  · exact Or.inr (Or.inr (Or.inr (Or.inr (Or.inr (Or.inr (Or.inr (Or.inr (Or.inr (Or.inl (by omega))))))))))
  · exact Or.inr (Or.inr (Or.inr (Or.inr (Or.inr (Or.inr (Or.inr (Or.inr (Or.inr (Or.inl (by omega))))))))))
  · exact Or.inr (Or.inr (Or.inr (Or.inr (Or.inl (by omega)))))
  · exact Or.inr (Or.inr (Or.inr (Or.inl (by omega))))
  · exact Or.inl (by omega)
  · exact Or.inr (Or.inl (by omega))
  · exact Or.inr (Or.inr (Or.inr (Or.inl (by omega))))
theorem nq_kLd {t c k : Int} (ht : 0 ≤ t ∧ t ≤ 15) (q : kLd t c k) : kNq c k := by
  unfold kLd at q
  rcases q with q | q | q | q | q | q | q
  · exact Or.inr (Or.inr (Or.inr (Or.inr (Or.inr (Or.inr (Or.inr (Or.inr (Or.inr (Or.inl (by omega))))))))))
  · exact Or.inr (Or.inr (Or.inr (Or.inr (Or.inr (Or.inr (Or.inr (Or.inr (Or.inr (Or.inl (by omega))))))))))
  · exact Or.inr (Or.inr (Or.inr (Or.inr (Or.inl (by omega)))))
  · exact Or.inr (Or.inr (Or.inr (Or.inl (by omega))))
  · exact Or.inl (by omega)
  · exact Or.inr (Or.inl (by omega))
  · exact Or.inr (Or.inr (Or.inr (Or.inl (by omega))))
theorem nw_kLk {c k : Int} (q : kLk c k) : kNw c k := by
  unfold kLk at q
  exact Or.inr (Or.inr (Or.inr (Or.inl (by omega))))
theorem nq_kLk {c k : Int} (q : kLk c k) : kNq c k := by
  unfold kLk at q
  exact Or.inr (Or.inr (Or.inr (Or.inl (by omega))))
theorem nw_kMv {c k : Int} (q : kMv c k) : kNw c k := by
  unfold kMv at q
  rcases q with q | q
  · exact Or.inr (Or.inr (Or.inr (Or.inr (Or.inr (Or.inr (Or.inr (Or.inr (Or.inr (Or.inr (Or.inr (Or.inr (Or.inr (Or.inl (by omega))))))))))))))
  · exact Or.inl (by omega)
theorem nq_kMv {c k : Int} (q : kMv c k) : kNq c k := by
  unfold kMv at q
  rcases q with q | q
  · exact Or.inr (Or.inr (Or.inr (Or.inr (Or.inr (Or.inr (Or.inr (Or.inr (Or.inr (Or.inr (Or.inr (Or.inr (Or.inr (Or.inl (by omega))))))))))))))
  · exact Or.inl (by omega)
theorem nw_kBa {a c k : Int} (ha : 0 ≤ a ∧ a ≤ 3) (q : kBa a c k) : kNw c k := by
  unfold kBa at q
  rcases q with q | q | q | q
  · exact Or.inl (by omega)
  · exact Or.inr (Or.inl (by omega))
  · exact Or.inr (Or.inr (Or.inr (Or.inr (Or.inr (Or.inr (Or.inr (Or.inr (Or.inr (Or.inl (by omega))))))))))
  · exact Or.inr (Or.inr (Or.inr (Or.inr (Or.inr (Or.inr (Or.inr (Or.inr (Or.inr (Or.inr (Or.inr (Or.inr (Or.inr (Or.inl (by omega))))))))))))))
theorem nq_kBa {a c k : Int} (ha : 0 ≤ a ∧ a ≤ 3) (q : kBa a c k) : kNq c k := by
  unfold kBa at q
  rcases q with q | q | q | q
  · exact Or.inl (by omega)
  · exact Or.inr (Or.inl (by omega))
  · exact Or.inr (Or.inr (Or.inr (Or.inr (Or.inr (Or.inr (Or.inr (Or.inr (Or.inr (Or.inl (by omega))))))))))
  · exact Or.inr (Or.inr (Or.inr (Or.inr (Or.inr (Or.inr (Or.inr (Or.inr (Or.inr (Or.inr (Or.inr (Or.inr (Or.inr (Or.inl (by omega))))))))))))))
theorem nw_kBk {a c k : Int} (ha : 0 ≤ a ∧ a ≤ 3) (q : kBk a c k) : kNw c k := by
  unfold kBk at q
  rcases q with q | q | q | q
  · exact Or.inl (by omega)
  · exact Or.inr (Or.inl (by omega))
  · exact Or.inr (Or.inr (Or.inr (Or.inr (Or.inr (Or.inr (Or.inr (Or.inr (Or.inr (Or.inl (by omega))))))))))
  · exact Or.inr (Or.inr (Or.inr (Or.inr (Or.inr (Or.inr (Or.inr (Or.inr (Or.inr (Or.inr (Or.inr (Or.inr (Or.inr (Or.inl (by omega))))))))))))))
theorem nq_kBk {a c k : Int} (ha : 0 ≤ a ∧ a ≤ 3) (q : kBk a c k) : kNq c k := by
  unfold kBk at q
  rcases q with q | q | q | q
  · exact Or.inl (by omega)
  · exact Or.inr (Or.inl (by omega))
  · exact Or.inr (Or.inr (Or.inr (Or.inr (Or.inr (Or.inr (Or.inr (Or.inr (Or.inr (Or.inl (by omega))))))))))
  · exact Or.inr (Or.inr (Or.inr (Or.inr (Or.inr (Or.inr (Or.inr (Or.inr (Or.inr (Or.inr (Or.inr (Or.inr (Or.inr (Or.inl (by omega))))))))))))))
theorem nw_kPo {c k : Int} (q : kPo c k) : kNw c k := by
  unfold kPo at q
  rcases q with q | q
  · exact Or.inr (Or.inr (Or.inr (Or.inr (Or.inr (Or.inl (by omega))))))
  · exact Or.inr (Or.inr (Or.inr (Or.inr (Or.inr (Or.inr (Or.inl (by omega)))))))
theorem nq_kPo {c k : Int} (q : kPo c k) : kNq c k := by
  unfold kPo at q
  rcases q with q | q
  · exact Or.inr (Or.inr (Or.inr (Or.inr (Or.inr (Or.inl (by omega))))))
  · exact Or.inr (Or.inr (Or.inr (Or.inr (Or.inr (Or.inr (Or.inl (by omega)))))))
theorem nw_kCi {c k : Int} (q : kCi c k) : kNw c k := by
  unfold kCi at q
  rcases q with q | q
  · exact Or.inr (Or.inr (Or.inl (by omega)))
  · exact Or.inr (Or.inr (Or.inl (by omega)))
theorem nq_kCi {c k : Int} (q : kCi c k) : kNq c k := by
  unfold kCi at q
  rcases q with q | q
  · exact Or.inr (Or.inr (Or.inl (by omega)))
  · exact Or.inr (Or.inr (Or.inl (by omega)))
theorem nw_kCt {c k : Int} (q : kCt c k) : kNw c k := by
  unfold kCt at q
  rcases q with q | q
  · exact Or.inl (by omega)
  · exact Or.inr (Or.inl (by omega))
theorem nq_kCt {c k : Int} (q : kCt c k) : kNq c k := by
  unfold kCt at q
  rcases q with q | q
  · exact Or.inl (by omega)
  · exact Or.inr (Or.inl (by omega))
theorem nw_kSt {a c k : Int} (ha : 0 ≤ a ∧ a ≤ 3) (q : kSt a c k) : kNw c k := by
  unfold kSt at q
  rcases q with q | q
  · exact Or.inr (Or.inr (Or.inr (Or.inr (Or.inr (Or.inr (Or.inr (Or.inr (Or.inr (Or.inr (Or.inr (Or.inr (Or.inr (Or.inl (by omega))))))))))))))
  · exact Or.inr (Or.inr (Or.inr (Or.inr (Or.inr (Or.inr (Or.inr (Or.inr (Or.inr (Or.inr (Or.inr (Or.inr (Or.inr (Or.inr (Or.inr (Or.inr ((by omega)))))))))))))))))
theorem nq_kSt {a c k : Int} (ha : 0 ≤ a ∧ a ≤ 3) (q : kSt a c k) : kNq c k := by
  unfold kSt at q
  rcases q with q | q
  · exact Or.inr (Or.inr (Or.inr (Or.inr (Or.inr (Or.inr (Or.inr (Or.inr (Or.inr (Or.inr (Or.inr (Or.inr (Or.inr (Or.inl (by omega))))))))))))))
  · exact Or.inr (Or.inr (Or.inr (Or.inr (Or.inr (Or.inr (Or.inr (Or.inr (Or.inr (Or.inr (Or.inr (Or.inr (Or.inr (Or.inr (Or.inr (Or.inr ((by omega)))))))))))))))))
theorem nw_kSp {a c k : Int} (ha : 0 ≤ a ∧ a ≤ 3) (q : kSp a c k) : kNw c k := by
  unfold kSp at q
  exact Or.inr (Or.inr (Or.inr (Or.inr (Or.inr (Or.inr (Or.inr (Or.inr (Or.inr (Or.inr (Or.inr (Or.inr (Or.inr (Or.inr (Or.inr (Or.inr ((by omega)))))))))))))))))
theorem nq_kSp {a c k : Int} (ha : 0 ≤ a ∧ a ≤ 3) (q : kSp a c k) : kNq c k := by
  unfold kSp at q
  exact Or.inr (Or.inr (Or.inr (Or.inr (Or.inr (Or.inr (Or.inr (Or.inr (Or.inr (Or.inr (Or.inr (Or.inr (Or.inr (Or.inr (Or.inr (Or.inr ((by omega)))))))))))))))))
theorem nw_kGo {a c k : Int} (ha : 0 ≤ a ∧ a ≤ 3) (q : kGo a c k) : kNw c k := by
  unfold kGo at q
  rcases q with q | q | q
  · exact Or.inr (Or.inr (Or.inr (Or.inr (Or.inr (Or.inr (Or.inr (Or.inr (Or.inr (Or.inr (Or.inr (Or.inr (Or.inr (Or.inl (by omega))))))))))))))
  · exact Or.inr (Or.inr (Or.inr (Or.inr (Or.inr (Or.inr (Or.inr (Or.inr (Or.inr (Or.inr (Or.inr (Or.inr (Or.inr (Or.inr (Or.inr (Or.inr ((by omega)))))))))))))))))
  · exact Or.inr (Or.inr (Or.inr (Or.inr (Or.inr (Or.inr (Or.inr (Or.inr (Or.inr (Or.inr (Or.inr (Or.inr (Or.inr (Or.inr (Or.inl (by omega)))))))))))))))
theorem nw_kBm {a c k : Int} (ha : 0 ≤ a ∧ a ≤ 3) (q : kBm a c k) : kNw c k := by
  unfold kBm at q
  rcases q with q | q
  · exact Or.inr (Or.inr (Or.inr (Or.inr (Or.inr (Or.inr (Or.inr (Or.inr (Or.inr (Or.inr (Or.inr (Or.inr (Or.inr (Or.inl (by omega))))))))))))))
  · exact Or.inr (Or.inr (Or.inr (Or.inr (Or.inr (Or.inr (Or.inr (Or.inr (Or.inr (Or.inr (Or.inr (Or.inr (Or.inr (Or.inr (Or.inr (Or.inr ((by omega)))))))))))))))))
theorem nq_kBm {a c k : Int} (ha : 0 ≤ a ∧ a ≤ 3) (q : kBm a c k) : kNq c k := by
  unfold kBm at q
  rcases q with q | q
  · exact Or.inr (Or.inr (Or.inr (Or.inr (Or.inr (Or.inr (Or.inr (Or.inr (Or.inr (Or.inr (Or.inr (Or.inr (Or.inr (Or.inl (by omega))))))))))))))
  · exact Or.inr (Or.inr (Or.inr (Or.inr (Or.inr (Or.inr (Or.inr (Or.inr (Or.inr (Or.inr (Or.inr (Or.inr (Or.inr (Or.inr (Or.inr (Or.inr ((by omega)))))))))))))))))
theorem nw_kTc {c k : Int} (q : kTc c k) : kNw c k := by
  unfold kTc at q
  exact Or.inr (Or.inr (Or.inr (Or.inr (Or.inr (Or.inr (Or.inr (Or.inr (Or.inr (Or.inr (Or.inl (by omega)))))))))))
theorem nq_kTc {c k : Int} (q : kTc c k) : kNq c k := by
  unfold kTc at q
  exact Or.inr (Or.inr (Or.inr (Or.inr (Or.inr (Or.inr (Or.inr (Or.inr (Or.inr (Or.inr (Or.inl (by omega)))))))))))
theorem nw_kWy {c k : Int} (q : kWy c k) : kNw c k := by
  unfold kWy at q
  exact Or.inr (Or.inr (Or.inr (Or.inr (Or.inr (Or.inr (Or.inr (Or.inl (by omega))))))))
theorem nq_kWy {c k : Int} (q : kWy c k) : kNq c k := by
  unfold kWy at q
  exact Or.inr (Or.inr (Or.inr (Or.inr (Or.inr (Or.inr (Or.inr (Or.inl (by omega))))))))
theorem nw_kOl {a c k : Int} (ha : 0 ≤ a ∧ a ≤ 3) (q : kOl a c k) : kNw c k := by
  unfold kOl at q
  rcases q with q | q
  · exact Or.inr (Or.inr (Or.inr (Or.inr (Or.inr (Or.inr (Or.inr (Or.inr (Or.inr (Or.inr (Or.inr (Or.inr (Or.inr (Or.inr (Or.inl (by omega)))))))))))))))
  · exact Or.inr (Or.inr (Or.inr (Or.inr (Or.inr (Or.inr (Or.inr (Or.inr (Or.inr (Or.inr (Or.inr (Or.inr (Or.inr (Or.inr (Or.inl (by omega)))))))))))))))
theorem nq_kOl {a c k : Int} (ha : 0 ≤ a ∧ a ≤ 3) (q : kOl a c k) : kNq c k := by
  unfold kOl at q
  rcases q with q | q
  · exact Or.inr (Or.inr (Or.inr (Or.inr (Or.inr (Or.inr (Or.inr (Or.inr (Or.inr (Or.inr (Or.inr (Or.inr (Or.inr (Or.inr (Or.inl (by omega)))))))))))))))
  · exact Or.inr (Or.inr (Or.inr (Or.inr (Or.inr (Or.inr (Or.inr (Or.inr (Or.inr (Or.inr (Or.inr (Or.inr (Or.inr (Or.inr (Or.inl (by omega)))))))))))))))
theorem nw_kPl {a c k : Int} (ha : 0 ≤ a ∧ a ≤ 3) (q : kPl a c k) : kNw c k := by
  unfold kPl at q
  exact Or.inr (Or.inr (Or.inr (Or.inr (Or.inr (Or.inr (Or.inr (Or.inr (Or.inr (Or.inr (Or.inr (Or.inr (Or.inr (Or.inr (Or.inl (by omega)))))))))))))))
theorem nw_kHv {c k : Int} (q : kHv c k) : kNw c k := by
  unfold kHv at q
  rcases q with q | q
  · exact Or.inr (Or.inr (Or.inr (Or.inr (Or.inr (Or.inr (Or.inr (Or.inr (Or.inr (Or.inr (Or.inr (Or.inl (by omega))))))))))))
  · exact Or.inr (Or.inr (Or.inr (Or.inr (Or.inr (Or.inr (Or.inr (Or.inr (Or.inr (Or.inr (Or.inl (by omega)))))))))))
theorem nq_kHv {c k : Int} (q : kHv c k) : kNq c k := by
  unfold kHv at q
  rcases q with q | q
  · exact Or.inr (Or.inr (Or.inr (Or.inr (Or.inr (Or.inr (Or.inr (Or.inr (Or.inr (Or.inr (Or.inr (Or.inl (by omega))))))))))))
  · exact Or.inr (Or.inr (Or.inr (Or.inr (Or.inr (Or.inr (Or.inr (Or.inr (Or.inr (Or.inr (Or.inl (by omega)))))))))))
theorem nw_kCh {c k : Int} (q : kCh c k) : kNw c k := by
  unfold kCh at q
  rcases q with q | q
  · exact Or.inr (Or.inr (Or.inl (by omega)))
  · exact Or.inr (Or.inr (Or.inl (by omega)))
theorem nq_kCh {c k : Int} (q : kCh c k) : kNq c k := by
  unfold kCh at q
  rcases q with q | q
  · exact Or.inr (Or.inr (Or.inl (by omega)))
  · exact Or.inr (Or.inr (Or.inl (by omega)))
theorem nw_kPw {c k : Int} (q : kPw c k) : kNw c k := by
  unfold kPw at q
  rcases q with q | q | q
  · exact Or.inl (by omega)
  · exact Or.inr (Or.inl (by omega))
  · exact Or.inr (Or.inr (Or.inl (by omega)))
theorem nq_kPw {c k : Int} (q : kPw c k) : kNq c k := by
  unfold kPw at q
  rcases q with q | q | q
  · exact Or.inl (by omega)
  · exact Or.inr (Or.inl (by omega))
  · exact Or.inr (Or.inr (Or.inl (by omega)))
theorem nw_kFl {c k : Int} (q : kFl c k) : kNw c k := by
  unfold kFl at q
  rcases q with q | q | q
  · exact Or.inr (Or.inr (Or.inr (Or.inr (Or.inr (Or.inr (Or.inr (Or.inl (by omega))))))))
  · exact Or.inr (Or.inr (Or.inr (Or.inr (Or.inr (Or.inr (Or.inr (Or.inr (Or.inl (by omega)))))))))
  · exact Or.inr (Or.inr (Or.inr (Or.inr (Or.inr (Or.inr (Or.inr (Or.inr (Or.inl (by omega)))))))))
theorem nq_kFl {c k : Int} (q : kFl c k) : kNq c k := by
  unfold kFl at q
  rcases q with q | q | q
  · exact Or.inr (Or.inr (Or.inr (Or.inr (Or.inr (Or.inr (Or.inr (Or.inl (by omega))))))))
  · exact Or.inr (Or.inr (Or.inr (Or.inr (Or.inr (Or.inr (Or.inr (Or.inr (Or.inl (by omega)))))))))
  · exact Or.inr (Or.inr (Or.inr (Or.inr (Or.inr (Or.inr (Or.inr (Or.inr (Or.inl (by omega)))))))))
theorem nw_kNw {c k : Int} (q : kNw c k) : kNw c k := q
end
end
-- part cib
section
noncomputable section
/-! what stays as it is while a cell goes on; runs over that alone -/
section D0
variable {w w' : eW}
/-- what a cell may write while it is open -/
def kNh (c k : Int) : Prop := kNw c k ∨ c = 273 ∨ (c = 0 ∧ 12 ≤ k) ∨ (262 ≤ c ∧ c ≤ 271) ∨ c = 1 ∨ (5 ≤ c ∧ c ≤ 7)
theorem nw_or {c k : Int} (h : kNh c k) : (c = 74 ∨ c = 75 ∨ (78 ≤ c ∧ c ≤ 85) ∨ c = 8 ∨ (11 ≤ c ∧ c ≤ 16) ∨ (31 ≤ c ∧ c ≤ 40) ∨ 154 ≤ c ∨ c ≤ 7) ∨ ((c = 86 ∨ c = 103 ∨ c = 120 ∨ c = 137) ∧ 11 ≤ k) ∨ (c = 88 ∨ c = 89 ∨ c = 105 ∨ c = 106 ∨ c = 122 ∨ c = 123 ∨ c = 139 ∨ c = 140 ∨ c = 90 ∨ c = 91 ∨ c = 107 ∨ c = 108 ∨ c = 124 ∨ c = 125 ∨ c = 141 ∨ c = 142) ∨ (c = 93 ∨ c = 110 ∨ c = 127 ∨ c = 144) ∨ (((97 ≤ c ∧ c ≤ 102) ∨ (114 ≤ c ∧ c ≤ 119) ∨ (131 ≤ c ∧ c ≤ 136) ∨ (148 ≤ c ∧ c ≤ 153)) ∧ 7 ≤ k) := by
  unfold kNh kNw at h
  rcases h with (h | h | h | h | h | h | h | h | h | h | h | h | h | h | (h | h) | h | h) | h | h | h | h | h
  · exact Or.inl (by omega)
  · exact Or.inl (by omega)
  · exact Or.inl (by omega)
  · exact Or.inl (by omega)
  · exact Or.inl (by omega)
  · exact Or.inl (by omega)
  · exact Or.inl (by omega)
  · exact Or.inl (by omega)
  · exact Or.inl (by omega)
  · exact Or.inl (by omega)
  · exact Or.inl (by omega)
  · exact Or.inl (by omega)
  · exact Or.inl (by omega)
  · exact Or.inr (Or.inl h)
  · exact Or.inr (Or.inr (Or.inl (by omega)))
  · exact Or.inr (Or.inr (Or.inl (by omega)))
  · exact Or.inr (Or.inr (Or.inr (Or.inl h)))
  · exact Or.inr (Or.inr (Or.inr (Or.inr h)))
  · exact Or.inl (by omega)
  · exact Or.inl (by omega)
  · exact Or.inl (by omega)
  · exact Or.inl (by omega)
  · exact Or.inl (by omega)
theorem nh_J {c a j k : Int} (hc : c = 17 * a + j + 97) (ha : 0 ≤ a ∧ a ≤ 3) (hj : 0 ≤ j ∧ j ≤ 5) (hk : k ≤ 6) : ¬ kNh c k := fun g => by
  rcases nw_or g with g | g | g | g | g <;> rcases c4 ha with rfl | rfl | rfl | rfl <;> omega
theorem nh_A {c a k : Int} (hc : c = 17 * a + 86) (ha : 0 ≤ a ∧ a ≤ 3) (hk : k ≤ 10) : ¬ kNh c k := fun g => by
  rcases nw_or g with g | g | g | g | g <;> rcases c4 ha with rfl | rfl | rfl | rfl <;> omega
theorem nh_G {c p k : Int} (hc : c = p + 42) (hp : 0 ≤ p ∧ p ≤ 31) : ¬ kNh c k := fun g => by
  rcases nw_or g with g | g | g | g | g <;> omega
theorem nh_X {c a k : Int} (hc : c = 17 * a + 88 ∨ c = 17 * a + 89) (ha : 0 ≤ a ∧ a ≤ 3) (hk : k ≤ 0) : ¬ kNh c k := fun g => by
  unfold kNh kNw at g
  rcases g with (g | g | g | g | g | g | g | g | g | g | g | g | g | g | (g | g) | g | g) | g | g | g | g | g <;> rcases c4 ha with rfl | rfl | rfl | rfl <;> omega
theorem pl_nh {c a k : Int} (ha : 0 ≤ a ∧ a ≤ 3) (hc : c = 17 * a + 88 ∨ c = 17 * a + 89) (hk : 1 ≤ k) : kNh c k := by
  refine Or.inl (Or.inr (Or.inr (Or.inr (Or.inr (Or.inr (Or.inr (Or.inr (Or.inr (Or.inr (Or.inr (Or.inr (Or.inr (Or.inr (Or.inr (Or.inl (Or.inl ⟨?_, hk⟩))))))))))))))))
  rcases c4 ha with rfl | rfl | rfl | rfl <;> omega
theorem nq_or {c k : Int} (h : kNq c k) : (c ≤ 85 ∨ 154 ≤ c) ∨ ((c = 86 ∨ c = 103 ∨ c = 120 ∨ c = 137) ∧ 11 ≤ k) ∨ (c = 90 ∨ c = 91 ∨ c = 107 ∨ c = 108 ∨ c = 124 ∨ c = 125 ∨ c = 141 ∨ c = 142) ∨ (c = 93 ∨ c = 110 ∨ c = 127 ∨ c = 144) ∨ (((97 ≤ c ∧ c ≤ 102) ∨ (114 ≤ c ∧ c ≤ 119) ∨ (131 ≤ c ∧ c ≤ 136) ∨ (148 ≤ c ∧ c ≤ 153)) ∧ 8 ≤ k) := by
  unfold kNq at h
  rcases h with h | h | h | h | h | h | h | h | h | h | h | h | h | h | h | h | h
  · exact Or.inl (by omega)
  · exact Or.inl (by omega)
  · exact Or.inl (by omega)
  · exact Or.inl (by omega)
  · exact Or.inl (by omega)
  · exact Or.inl (by omega)
  · exact Or.inl (by omega)
  · exact Or.inl (by omega)
  · exact Or.inl (by omega)
  · exact Or.inl (by omega)
  · exact Or.inl (by omega)
  · exact Or.inl (by omega)
  · exact Or.inl (by omega)
  · exact Or.inr (Or.inl h)
  · exact Or.inr (Or.inr (Or.inl h))
  · exact Or.inr (Or.inr (Or.inr (Or.inl h)))
  · exact Or.inr (Or.inr (Or.inr (Or.inr h)))
theorem nq_A {c a k : Int} (hc : c = 17 * a + 86) (ha : 0 ≤ a ∧ a ≤ 3) (hk : k ≤ 10) : ¬ kNq c k := fun g => by
  rcases nq_or g with g | g | g | g | g <;> rcases c4 ha with rfl | rfl | rfl | rfl <;> omega
theorem nq_X {c a k : Int} (hc : c = 17 * a + 88 ∨ c = 17 * a + 89) (ha : 0 ≤ a ∧ a ≤ 3) : ¬ kNq c k := fun g => by
  rcases nq_or g with g | g | g | g | g <;> rcases c4 ha with rfl | rfl | rfl | rfl <;> omega
theorem nq_J {c a j k : Int} (hc : c = 17 * a + j + 97) (ha : 0 ≤ a ∧ a ≤ 3) (hj : 0 ≤ j ∧ j ≤ 5) (hk : k ≤ 7) : ¬ kNq c k := fun g => by
  rcases nq_or g with g | g | g | g | g <;> rcases c4 ha with rfl | rfl | rfl | rfl <;> omega
def Kc (c k : Int) : Prop := (0 ≤ c ∧ c ≤ 274) ∧ (¬ kNh c k ∨ (kTy c k).1 = (kTy c k).2 ∨ e_out elay c k)
def kCy (c k : Int) : Int × Int := @ite _ (¬ kNh c k ∨ (kTy c k).1 = (kTy c k).2) (Classical.propDecidable _) (kTy c k) (1, 0)
theorem kCy_n {c k lo hi : Int} (hn : ¬ kNh c k) (h : kTy c k = (lo, hi)) : kCy c k = (lo, hi) := by
  unfold kCy
  rw [if_pos (Or.inl hn)]
  exact h
theorem kCy_c {c k v : Int} (h : kTy c k = (v, v)) : kCy c k = (v, v) := by
  unfold kCy
  rw [if_pos (Or.inr (by rw [h]))]
  exact h
theorem kCy_no1 {c k : Int} (h : kTy c k = (1, 0)) : kCy c k = (1, 0) := by
  unfold kCy
  by_cases q : ¬ kNh c k ∨ (kTy c k).1 = (kTy c k).2
  · rw [if_pos q]; exact h
  · rw [if_neg q]
theorem kCy_no2 {c k lo hi : Int} (hn : kNh c k) (h : kTy c k = (lo, hi)) (hl : lo ≠ hi) : kCy c k = (1, 0) := by
  unfold kCy
  rw [if_neg (fun q => by rcases q with q | q; exact q hn; (rw [h] at q; exact hl q))]
theorem kTy_rg {c k : Int} (h : (kTy c k).1 ≤ (kTy c k).2) : 0 ≤ c ∧ c ≤ 274 := by
  unfold kTy kTyO at h
  by_cases q : c < 0
  · rw [if_pos q] at h
    exact absurd h (by decide)
  · rw [if_neg q] at h
    refine ⟨by omega, ?_⟩
    apply Classical.byContradiction
    intro g
    have e : x_at kTab c.toNat = none := by
      rw [x_at_eq]
      exact List.getElem?_eq_none (by rw [show kTab.length = 275 from by decide +kernel]; omega)
    rw [e] at h
    exact absurd (show (1 : Int) ≤ 0 from h) (by decide)
theorem kCy_le {c k : Int} (h : (kCy c k).1 ≤ (kCy c k).2) : Kc c k ∧ kCy c k = kTy c k := by
  unfold kCy at h ⊢
  by_cases q : ¬ kNh c k ∨ (kTy c k).1 = (kTy c k).2
  · rw [if_pos q] at h ⊢
    exact ⟨⟨kTy_rg h, by rcases q with q | q; exact Or.inl q; exact Or.inr (Or.inl q)⟩, rfl⟩
  · rw [if_neg q] at h
    exact absurd h (by decide)
theorem kTy.cy (h : e_Has kTy w) : e_Has kCy w := fun c k hl => by
  have e := (kCy_le hl).2
  rw [e] at hl ⊢
  exact h c k hl
theorem e_Has.cpz (h : e_Has kCy w) : e_Has kCy (e_pz Kc w) := fun c k hl => by
  rw [e_pz_in (kCy_le hl).1]
  exact h c k hl
theorem kz_joints (h : e_Has kCy w) {a : Int} (ha : 0 ≤ a ∧ a ≤ 3) : 0 ≤ w (17 * a + 86) 8 ∧ w (17 * a + 86) 8 ≤ 6 := e_Has.get h (kCy_n (nh_A (a := a) (by omega) (by omega) (by decide)) (kA_8 (a := a) rfl ha)) (by decide)
end D0
theorem nd1 (i : Nat) (v : eV) : (([(i, v)] : eL).map Prod.fst).Nodup := List.nodup_cons.mpr ⟨List.not_mem_nil, List.nodup_nil⟩
/-- what a method of the class makes of t -/
def k_phi (M : Nat) (t : eS) : List eV × eW := @dite _ (∃ r n d, e_go 20 elay kcode eI n d M t = some r) (Classical.propDecidable _) (fun h => Classical.choose h) (fun _ => ([], fun _ _ => 0))
theorem k_phi_eq {n d M : Nat} {t : eS} {r : List eV × eW} (h : e_go 20 elay kcode eI n d M t = some r) : k_phi M t = r := by
  have hx : ∃ r n d, e_go 20 elay kcode eI n d M t = some r := ⟨r, n, d, h⟩
  unfold k_phi
  rw [dif_pos hx]
  obtain ⟨n', d', h'⟩ := Classical.choose_spec hx
  exact e_go_one h' h
theorem k_phi_ok {d M : Nat} {t : eS} {Q : List eV → eW → Prop} (h : e_Ok 20 elay kcode eI d M t Q) : Q (k_phi M t).1 (k_phi M t).2 := by
  obtain ⟨n, r, w, h1, h2⟩ := h
  rw [k_phi_eq h1]
  exact h2
/-- a run from contents that know less leads to less, but to the same -/
theorem k_rel {d M : Nat} {l : eL} {u w : eW} {Q Q' : List eV → eW → Prop} (hn : (l.map Prod.fst).Nodup) (hw : e_rf u w) (hu : e_Ok 20 elay kcode eI d M (0, l, [], u) Q) (hw' : e_Ok 20 elay kcode eI d M (0, l, [], w) Q') :
    e_Ok 20 elay kcode eI d M (0, l, [], w) (fun r v => (Q' r v ∧ r = (k_phi M (0, l, [], u)).1 ∧ e_rf (k_phi M (0, l, [], u)).2 v) ∧ ∀ c k, e_out elay c k → v c k = w c k) := by
  refine e_Ok.out kAlk ?_
  obtain ⟨n, r, u1, h1, h2⟩ := hu
  have h3 : e_Ok 20 elay kcode eI d M (0, l, [], u) (fun r' u' => r' = r ∧ u' = u1) := ⟨n, r, u1, h1, rfl, rfl⟩
  obtain ⟨n', r', v, h4, u', ⟨h5, h6⟩, h7⟩ := e_Ok.more kAlk hn hw h3
  obtain ⟨n2, r2, v2, h8, h9⟩ := hw'
  have e2 := e_go_one h4 h8
  have e3 : r' = r2 := congrArg Prod.fst e2
  have e4 : v = v2 := congrArg Prod.snd e2
  refine ⟨n', r', v, h4, ?_⟩
  rw [k_phi_eq h1]
  subst h5 h6
  exact ⟨by rw [e3, e4]; exact h9, rfl, h7⟩
theorem e_pzK {w w' : eW} (h : ∀ c k, Kc c k → w' c k = w c k) : e_pz Kc w' = e_pz Kc w := e_pz_eq h
/-- the same, but for places outside the cells -/
def Kq (c k : Int) : Prop := (0 ≤ c ∧ c ≤ 274) ∧ (¬ kNh c k ∨ (kTy c k).1 = (kTy c k).2)
theorem kCy_q {c k : Int} (h : (kCy c k).1 ≤ (kCy c k).2) : Kq c k := by
  have hr := (kCy_le h).1.1
  unfold kCy at h
  by_cases q : ¬ kNh c k ∨ (kTy c k).1 = (kTy c k).2
  · exact ⟨hr, q⟩
  · rw [if_neg q] at h
    exact absurd h (by decide)
theorem Kq.of {w v : eW} (f : e_fr kNh w v) (hT : e_Has kTy w) (hT' : e_Has kTy v) : ∀ c k, Kq c k → v c k = w c k := fun c k q => by
  rcases q.2 with q | q
  · exact f c k q
  · have h1 := hT c k (by omega)
    have h2 := hT' c k (by omega)
    omega
end
end
