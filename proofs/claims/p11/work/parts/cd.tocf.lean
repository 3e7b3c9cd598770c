-- part cd
section
noncomputable section
/-! the class: what the doer does, acts -/
def kWf (t : Int) (c k : Int) : Prop := c = 6 * t + 154 ∧ (k = 1 ∨ k = 8 ∨ k = 9)
def kWu (t : Int) (c k : Int) : Prop := c = 6 * t + 154 ∧ (k = 1 ∨ k = 3)
def kTl (t : Int) (c k : Int) : Prop := (c = 8 ∧ 8 ≤ k ∧ k ≤ 11) ∨ c = 84 ∨ c = 83 ∨ (c = 6 * t + 154 ∧ (k = 1 ∨ k = 8 ∨ k = 9))
def kWt (t : Int) (c k : Int) : Prop := (c = 8 ∧ (k = 8 ∨ k = 10 ∨ k = 11)) ∨ c = 84 ∨ (c = 6 * t + 154 ∧ 11 ≤ k ∧ k ≤ 13)
def kGl (c k : Int) : Prop := c = 85
def kMb (t a : Int) (c k : Int) : Prop := (c = 8 ∧ (k = 8 ∨ k = 10 ∨ k = 11)) ∨ c = 84 ∨ (c = 17 * a + 86 ∧ 11 ≤ k ∧ k ≤ 13) ∨ (17 * a + 97 ≤ c ∧ c ≤ 17 * a + 102 ∧ (k = 9 ∨ k = 10)) ∨ (c = 6 * t + 154 ∧ k = 1)
def kGd (a : Int) (c k : Int) : Prop := (c = 8 ∧ (k = 8 ∨ k = 10 ∨ k = 11)) ∨ c = 84 ∨ (c = 74 ∧ (k = 1 ∨ k = 7)) ∨ c = 75 ∨ (31 ≤ c ∧ c ≤ 37) ∨ c = 39 ∨ c = 40 ∨ ((c = 86 ∨ c = 103 ∨ c = 120 ∨ c = 137) ∧ k = 19) ∨ (c = 17 * a + 86 ∧ (k = 14 ∨ k = 15))
theorem sK.eq {w w' : eW} (h : ∀ c k, (c = 8 ∧ (k = 8 ∨ k = 10 ∨ k = 11)) ∨ c = 84 → w' c k = w c k) (q : sK w) : sK w' :=
  q.fr (S := fun c k => ¬ ((c = 8 ∧ (k = 8 ∨ k = 10 ∨ k = 11)) ∨ c = 84)) (fun c k g => h c k (Classical.not_not.mp g)) (by omega) (fun k => by omega)
theorem th_kWf {t c k : Int} (g : kWf t c k) : kTh t c k := Or.inr (by unfold kWf at g; omega)
theorem th_kWu {t c k : Int} (g : kWu t c k) : kTh t c k := Or.inr (by unfold kWu at g; omega)
theorem th_kTl {t c k : Int} (g : kTl t c k) : kTh t c k := by
  unfold kTl at g
  rcases g with g | g | g | g
  · exact Or.inl (Or.inl g)
  · exact Or.inl (hm_kDs (Or.inr g))
  · exact Or.inl (hm_kLk g)
  · exact Or.inr (by omega)
theorem th_kWt {t c k : Int} (g : kWt t c k) : kTh t c k := by
  unfold kWt at g
  rcases g with g | g | g
  · exact Or.inl (hm_kDs (Or.inl g))
  · exact Or.inl (hm_kDs (Or.inr g))
  · exact Or.inr (by omega)
theorem th_kTk {t c k : Int} (g : kTk t c k) : kTh t c k := Or.inr g
theorem c_63 {d : Nat} {w : eW} (hT : e_Has kTy w) {t n : Int} (g_t : 0 ≤ t ∧ t ≤ 15) (g_n : (-2147483648) ≤ n ∧ n ≤ 2147483647) {OP OD CL : Int → Int → Int} {h : Int} (q : kI w OP OD CL h t) (hst : w (6 * t + 154) 1 = 1) : e_Ok 20 elay kcode eI d 63 (0, [(0, (1, 8)), (1, (1, 6 * t + 154)), (2, (0, n))], [], w) (fun r w' => r = [] ∧ e_fr (kWf t) w w' ∧ e_Has kTy w' ∧ (kI w' OP OD CL h t ∧ (w' (6 * t + 154) 1 = 1 ∨ w' (6 * t + 154) 1 = 3))) := by
  have h2 := e_Has.get hT (c := 6 * t + 154) (k := 2) (lo := -1) (hi := 3) (kT_2 (t := t) rfl (by omega)) (by decide)
  have hac := ((q.ts (t := t) (by omega) (by omega)).2 (by omega) (by omega)).1
  have hac0 := (q.ts (t := t) (by omega) (by omega)).1.1 (by omega) (by omega)
  refine e_Ok.ps1 (x := (0, n)) (q := 1) 1 rfl ?_
  refine e_Ok.if1 rfl (fun h1 => ?_) (fun h1 => ?_)
  · replace h1 : (n : Int) > 0 := h1
    refine e_Ok.ps2 (x := (0, 3)) (y := (1, 6 * t + 154)) (q := 7) 2 rfl ?_
    refine e_Ok.putf rfl (lT0 (t := t) rfl g_t) rfl rfl ?_
    generalize hw2 : e_up w (6 * t + 154) 1 3 = w2
    have hT4 : e_Has kTy w2 := e_Has.upr hT hw2 (kT_1 (t := t) rfl g_t) (by omega)
    refine e_Ok.ps2 (x := (0, n)) (y := (1, 6 * t + 154)) (q := 12) 2 rfl ?_
    refine e_Ok.putf rfl (lT0 (t := t) rfl g_t) rfl rfl ?_
    generalize hw5 : e_up w2 (6 * t + 154) 8 n = w5
    have hT7 : e_Has kTy w5 := e_Has.ups hT4 hw5 (kT_8 (t := t) rfl g_t)
    refine e_Ok.ps2 (x := (1, 8)) (y := (1, 6 * t + 154)) (q := 17) 2 rfl ?_
    refine e_Ok.getr (z := 74) rfl (el_o rfl) rfl rfl (e_uq hw5 (Or.inr (by decide)) (e_uq hw2 (Or.inr (by decide)) (e_Has.eq hT (kt_o rfl)))) ⟨by decide, by decide⟩ ?_
    have h8 := (e_Has.get hT (c := 74) (k := 0) (lo := 0) (hi := 6000) (kt_o rfl) (by decide))
    refine e_Ok.getf (z := w 74 0) rfl (el_o rfl) rfl rfl (e_uq hw5 (Or.inr (by decide)) (e_uq hw2 (Or.inr (by decide)) rfl)) (e_bq h8 (by decide) (by decide)) ?_
    refine e_Ok.putf rfl (lT0 (t := t) rfl g_t) rfl rfl ?_
    generalize hw9 : e_up w5 (6 * t + 154) 9 (w 74 0) = w9
    have f10 : e_fr (kWf t) w w9 := e_fr.up (show e_fr (kWf t) w w5 from e_fr.up (show e_fr (kWf t) w w2 from e_fr.up (e_fr.refl w) hw2 (by first | exact ⟨(by omega), Or.inl rfl⟩ | (unfold kWf; omega))) hw5 (by first | exact ⟨(by omega), Or.inr (Or.inl rfl)⟩ | (unfold kWf; omega))) hw9 (by first | exact ⟨(by omega), Or.inr (Or.inr rfl)⟩ | (unfold kWf; omega))
    have hT11 : e_Has kTy w9 := e_Has.ups hT7 hw9 (kT_9 (t := t) rfl g_t)
    refine e_Ok.rets rfl rfl ?_
    have e1 : w9 (6 * t + 154) 1 = 3 := (e_uq hw9 (Or.inr (by decide)) (e_uq hw5 (Or.inr (by decide)) (e_ue hw2)))
    have e2 : w9 (6 * t + 154) 2 = w (6 * t + 154) 2 := (e_uq hw9 (Or.inr (by decide)) (e_uq hw5 (Or.inr (by decide)) (e_uq hw2 (Or.inr (by decide)) rfl)))
    have e8 : w9 (6 * t + 154) 8 = n := (e_uq hw9 (Or.inr (by decide)) (e_ue hw5))
    have e9 : w9 (6 * t + 154) 9 = w 74 0 := (e_ue hw9)
    exact ⟨rfl, f10, hT11, ⟨kI.tg q hT11 (by omega) (e_fr.mono f10 (fun c k g => th_kWf g)) e2 (by omega) ⟨fun _ _ => by omega, fun _ => by rw [e8, e9]; unfold kn1; omega, fun g => by omega⟩ (fun _ _ => hac.eq (fun d k g => by rw [← hw9, e_up_ne _ _ (by omega), ← hw5, e_up_ne _ _ (by omega), ← hw2, e_up_ne _ _ (by omega)])), Or.inr e1⟩⟩
  · replace h1 : (n : Int) ≤ 0 := Int.not_lt.mp (show ¬ ((n : Int) > 0) from h1)
    refine e_Ok.rets rfl rfl ?_
    exact ⟨rfl, (e_fr.refl w), hT, ⟨q, Or.inl hst⟩⟩
theorem c_64 {d : Nat} {w : eW} (hT : e_Has kTy w) {t v n : Int} (g_t : 0 ≤ t ∧ t ≤ 15) (g_v : (-2147483648) ≤ v ∧ v ≤ 2147483647) (g_n : 0 ≤ n ∧ n ≤ 33554431) {OP OD CL : Int → Int → Int} {h : Int} (q : kI w OP OD CL h t) (hst : w (6 * t + 154) 1 = 1) : e_Ok 20 elay kcode eI d 64 (0, [(0, (1, 8)), (1, (1, 6 * t + 154)), (2, (0, v)), (3, (0, n))], [], w) (fun r w' => r = [] ∧ e_fr (kWu t) w w' ∧ e_Has kTy w' ∧ (kI w' OP OD CL h t ∧ ((w' (6 * t + 154) 1 = 1 ∧ w' (6 * t + 154) 3 = w (6 * t + 154) 3) ∨ (w' (6 * t + 154) 1 = 4 ∧ w' (6 * t + 154) 3 = n)))) := by
  have h2 := e_Has.get hT (c := 6 * t + 154) (k := 2) (lo := -1) (hi := 3) (kT_2 (t := t) rfl (by omega)) (by decide)
  have hac := ((q.ts (t := t) (by omega) (by omega)).2 (by omega) (by omega)).1
  have hac0 := (q.ts (t := t) (by omega) (by omega)).1.1 (by omega) (by omega)
  refine e_Ok.ps1 (x := (0, v)) (q := 1) 1 rfl ?_
  refine e_Ok.if1 rfl (fun h1 => ?_) (fun h1 => ?_)
  · replace h1 : (v : Int) = 0 := h1
    refine e_Ok.ps2 (x := (0, 4)) (y := (1, 6 * t + 154)) (q := 7) 2 rfl ?_
    refine e_Ok.putf rfl (lT0 (t := t) rfl g_t) rfl rfl ?_
    generalize hw2 : e_up w (6 * t + 154) 1 4 = w2
    have hT4 : e_Has kTy w2 := e_Has.upr hT hw2 (kT_1 (t := t) rfl g_t) (by omega)
    refine e_Ok.ps2 (x := (0, n)) (y := (1, 6 * t + 154)) (q := 12) 2 rfl ?_
    refine e_Ok.putf rfl (lT0 (t := t) rfl g_t) rfl rfl ?_
    generalize hw5 : e_up w2 (6 * t + 154) 3 n = w5
    have f6 : e_fr (kWu t) w w5 := e_fr.up (show e_fr (kWu t) w w2 from e_fr.up (e_fr.refl w) hw2 (by first | exact ⟨(by omega), Or.inl rfl⟩ | (unfold kWu; omega))) hw5 (by first | exact ⟨(by omega), Or.inr rfl⟩ | (unfold kWu; omega))
    have hT7 : e_Has kTy w5 := e_Has.upr hT4 hw5 (kT_3 (t := t) rfl g_t) (by omega)
    refine e_Ok.rets rfl rfl ?_
    have e1 : w5 (6 * t + 154) 1 = 4 := (e_uq hw5 (Or.inr (by decide)) (e_ue hw2))
    have e2 : w5 (6 * t + 154) 2 = w (6 * t + 154) 2 := (e_uq hw5 (Or.inr (by decide)) (e_uq hw2 (Or.inr (by decide)) rfl))
    have e3 : w5 (6 * t + 154) 3 = n := (e_ue hw5)
    exact ⟨rfl, f6, hT7, ⟨kI.tg q hT7 (by omega) (e_fr.mono f6 (fun c k g => th_kWu g)) e2 (by omega) ⟨fun _ _ => by omega, fun g => by omega, fun g => by omega⟩ (fun _ _ => hac.eq (fun d k g => by rw [← hw5, e_up_ne _ _ (by omega), ← hw2, e_up_ne _ _ (by omega)])), Or.inr ⟨e1, e3⟩⟩⟩
  · replace h1 : (v : Int) ≠ 0 := (show ¬ ((v : Int) = 0) from h1)
    refine e_Ok.rets rfl rfl ?_
    exact ⟨rfl, (e_fr.refl w), hT, ⟨q, Or.inl ⟨hst, rfl⟩⟩⟩
theorem su_cd_4 {t : Int} {c k : Int} (q : kDs c k) : kTl t c k := by
  unfold kDs at q
  rcases q with ⟨q, (q | q | q)⟩ | q
  · exact Or.inl ⟨(by omega), ⟨(by omega), (by omega)⟩⟩
  · exact Or.inl ⟨(by omega), ⟨(by omega), (by omega)⟩⟩
  · exact Or.inl ⟨(by omega), ⟨(by omega), (by omega)⟩⟩
  · exact Or.inr (Or.inl (by omega))
theorem c_66 {d : Nat} (hd : 21 ≤ d) {w : eW} (hT : e_Has kTy w) {t l : Int} (g_t : 0 ≤ t ∧ t ≤ 15) (g_l : (-2147483648) ≤ l ∧ l ≤ 2147483647) {OP OD CL : Int → Int → Int} {h : Int} (q : kI w OP OD CL h t) (hk : sK w) (hst : w (6 * t + 154) 1 = 1) : e_Ok 20 elay kcode eI d 66 (0, [(0, (1, 8)), (1, (1, 6 * t + 154)), (2, (0, l))], [], w) (fun r w' => r = [] ∧ e_fr (kTl t) w w' ∧ e_Has kTy w' ∧ (kI w' OP OD CL h t ∧ sK w' ∧ (w' (6 * t + 154) 1 = 1 ∨ w' (6 * t + 154) 1 = 5))) := by
  obtain ⟨d, rfl⟩ : ∃ e, d = e + 1 := ⟨d - 1, by omega⟩
  have h2 := e_Has.get hT (c := 6 * t + 154) (k := 2) (lo := -1) (hi := 3) (kT_2 (t := t) rfl (by omega)) (by decide)
  have hac := ((q.ts (t := t) (by omega) (by omega)).2 (by omega) (by omega)).1
  have hac0 := (q.ts (t := t) (by omega) (by omega)).1.1 (by omega) (by omega)
  refine e_Ok.ps3 (x := (0, 7)) (y := (0, 0)) (z := (0, l)) (q := 4) 3 rfl ?_
  refine e_Ok.callS rfl (e_dq hd rfl) rfl rfl (c_242 (by omega) (by omega) (by omega)) (fun r1 w2 h3 => ?_)
  obtain ⟨z4, rfl, rfl, q5⟩ := h3
  obtain ⟨rfl, q5⟩ | ⟨rfl, q5⟩ := q5
  · refine e_Ok.nrm (q := 7) (st' := [(0, 1)]) rfl rfl ?_
    refine e_Ok.if1 rfl (fun h6 => ?_) (fun h6 => ?_)
    · replace h6 : (1 : Int) ≠ 0 := h6
      refine e_Ok.ps1 (x := (1, 8)) (q := 19) 1 rfl ?_
      refine e_Ok.getr (z := 83) rfl (el_o rfl) rfl rfl (e_Has.eq hT (kt_o rfl)) ⟨by decide, by decide⟩ ?_
      refine e_Ok.ps1 (x := (0, l)) (q := 23) 1 rfl ?_
      have h7 := (e_Has.get hT (c := 83) (k := l) (lo := (-1)) (hi := 15) (kt_o rfl) (by decide))
      refine e_Ok.ald (z := w 83 l) rfl (el_o rfl) rfl (by omega) rfl (e_bq h7 (by decide) (by decide)) ?_
      refine e_Ok.ps1 (x := (1, 6 * t + 154)) (q := 25) 1 rfl ?_
      refine e_Ok.getf (z := t) rfl (lT0 (t := t) rfl g_t) rfl rfl (Eq.trans (e_Has.eq hT (kT_0 (t := t) rfl g_t)) (by omega)) (by omega) ?_
      refine e_Ok.if2 rfl (fun h8 => ?_) (fun h8 => ?_)
      · replace h8 : (w 83 l : Int) ≠ t := h8
        refine e_Ok.ps1 (x := (1, 8)) (q := 41) 1 rfl ?_
        refine e_Ok.getr (z := 83) rfl (el_o rfl) rfl rfl (e_Has.eq hT (kt_o rfl)) ⟨by decide, by decide⟩ ?_
        refine e_Ok.ps1 (x := (0, l)) (q := 45) 1 rfl ?_
        refine e_Ok.ald (z := w 83 l) rfl (el_o rfl) rfl (by omega) rfl (by omega) ?_
        refine e_Ok.if1 rfl (fun h9 => ?_) (fun h9 => ?_)
        · replace h9 : (w 83 l : Int) ≥ 0 := h9
          refine e_Ok.ps2 (x := (0, 5)) (y := (1, 6 * t + 154)) (q := 64) 2 rfl ?_
          refine e_Ok.putf rfl (lT0 (t := t) rfl g_t) rfl rfl ?_
          generalize hw10 : e_up w (6 * t + 154) 1 5 = w10
          have hT12 : e_Has kTy w10 := e_Has.upr hT hw10 (kT_1 (t := t) rfl g_t) (by omega)
          refine e_Ok.ps2 (x := (0, l)) (y := (1, 6 * t + 154)) (q := 69) 2 rfl ?_
          refine e_Ok.putf rfl (lT0 (t := t) rfl g_t) rfl rfl ?_
          generalize hw13 : e_up w10 (6 * t + 154) 8 l = w13
          have hT15 : e_Has kTy w13 := e_Has.ups hT12 hw13 (kT_8 (t := t) rfl g_t)
          refine e_Ok.ps2 (x := (1, 8)) (y := (1, 6 * t + 154)) (q := 74) 2 rfl ?_
          have h16 := (e_Has.get hT (c := 8) (k := 9) (lo := (-2147483648)) (hi := 2147483647) (kt_o rfl) (by decide))
          refine e_Ok.getf (z := w 8 9) rfl (el_o rfl) rfl rfl (e_uq hw13 (Or.inr (by decide)) (e_uq hw10 (Or.inr (by decide)) rfl)) (e_bq h16 (by decide) (by decide)) ?_
          refine e_Ok.putf rfl (lT0 (t := t) rfl g_t) rfl rfl ?_
          generalize hw17 : e_up w13 (6 * t + 154) 9 (w 8 9) = w17
          have hT19 : e_Has kTy w17 := e_Has.ups hT15 hw17 (kT_9 (t := t) rfl g_t)
          refine e_Ok.ps2 (x := (1, 8)) (y := (1, 8)) (q := 82) 2 rfl ?_
          refine e_Ok.getf (z := w 8 9) rfl (el_o rfl) rfl rfl (e_uq hw17 (Or.inl (by omega)) (e_uq hw13 (Or.inr (by decide)) (e_uq hw10 (Or.inr (by decide)) rfl))) (by omega) ?_
          refine e_Ok.ps1 (x := (0, 1)) (q := 86) 1 rfl ?_
          refine e_Ok.any rfl (eF_add_any _ _) (fun z20 z20a z20b => ?_)
          refine e_Ok.putf rfl (el_o rfl) rfl rfl ?_
          generalize hw21 : e_up w17 8 9 z20 = w21
          have f22 : e_fr (kTl t) w w21 := e_fr.up (show e_fr (kTl t) w w17 from e_fr.up (show e_fr (kTl t) w w13 from e_fr.up (show e_fr (kTl t) w w10 from e_fr.up (e_fr.refl w) hw10 (by first | exact Or.inr (Or.inr (Or.inr ⟨(by omega), Or.inl rfl⟩)) | (unfold kTl; omega))) hw13 (by first | exact Or.inr (Or.inr (Or.inr ⟨(by omega), Or.inr (Or.inl rfl)⟩)) | (unfold kTl; omega))) hw17 (by first | exact Or.inr (Or.inr (Or.inr ⟨(by omega), Or.inr (Or.inr rfl)⟩)) | (unfold kTl; omega))) hw21 (by first | exact Or.inl ⟨rfl, ⟨(by decide), (by decide)⟩⟩ | (unfold kTl; omega))
          have hT23 : e_Has kTy w21 := e_Has.upr hT19 hw21 (kt_o rfl) (by omega)
          refine e_Ok.rets rfl rfl ?_
          have e1 : w21 (6 * t + 154) 1 = 5 := (e_uq hw21 (Or.inr (by decide)) (e_uq hw17 (Or.inr (by decide)) (e_uq hw13 (Or.inr (by decide)) (e_ue hw10))))
          have e2 : w21 (6 * t + 154) 2 = w (6 * t + 154) 2 := (e_uq hw21 (Or.inr (by decide)) (e_uq hw17 (Or.inr (by decide)) (e_uq hw13 (Or.inr (by decide)) (e_uq hw10 (Or.inr (by decide)) rfl))))
          have e8 : w21 (6 * t + 154) 8 = l := (e_uq hw21 (Or.inr (by decide)) (e_uq hw17 (Or.inr (by decide)) (e_ue hw13)))
          have e9 : w21 (6 * t + 154) 9 = w 8 9 := (e_uq hw21 (Or.inl (by omega)) (e_ue hw17))
          exact ⟨rfl, f22, hT23, ⟨kI.tg q hT23 (by omega) (e_fr.mono f22 (fun c k g => th_kTl g)) e2 (by omega) ⟨fun _ _ => by omega, fun g => by omega, fun _ => by rw [e8, e9]; unfold kn1; omega⟩ (fun _ _ => hac.eq (fun d k g => by rw [← hw21, e_up_ne _ _ (by omega), ← hw17, e_up_ne _ _ (by omega), ← hw13, e_up_ne _ _ (by omega), ← hw10, e_up_ne _ _ (by omega)])), (sK.eq (fun c k g => by rw [← hw21, e_up_ne _ _ (by omega), ← hw17, e_up_ne _ _ (by omega), ← hw13, e_up_ne _ _ (by omega), ← hw10, e_up_ne _ _ (by omega)]) hk), Or.inr e1⟩⟩
        · replace h9 : (w 83 l : Int) < 0 := Int.not_le.mp (show ¬ ((w 83 l : Int) ≥ 0) from h9)
          refine e_Ok.ps1 (x := (1, 8)) (q := 50) 1 rfl ?_
          refine e_Ok.getr (z := 83) rfl (el_o rfl) rfl rfl (e_Has.eq hT (kt_o rfl)) ⟨by decide, by decide⟩ ?_
          refine e_Ok.ps2 (x := (1, 6 * t + 154)) (y := (0, l)) (q := 55) 2 rfl ?_
          refine e_Ok.getf (z := t) rfl (lT0 (t := t) rfl g_t) rfl rfl (Eq.trans (e_Has.eq hT (kT_0 (t := t) rfl g_t)) (by omega)) (by omega) ?_
          refine e_Ok.ast rfl (el_o rfl) rfl rfl (by omega) ?_
          generalize hw24 : e_up w 83 l t = w24
          have hT26 : e_Has kTy w24 := e_Has.upr hT hw24 (kt_o rfl) (by omega)
          refine e_Ok.ps0 (q := 90) 1 rfl ?_
          refine e_Ok.rets rfl rfl ?_
          have e1 : w24 (6 * t + 154) 1 = w (6 * t + 154) 1 := (e_uq hw24 (Or.inl (by omega)) rfl)
          have e2 : w24 (6 * t + 154) 2 = w (6 * t + 154) 2 := (e_uq hw24 (Or.inl (by omega)) rfl)
          exact ⟨rfl, (show e_fr (kTl t) w w24 from e_fr.up (e_fr.refl w) hw24 (by first | exact Or.inr (Or.inr (Or.inl rfl)) | (unfold kTl; omega))), hT26, ⟨kI.hm q hT26 (fun c k g => by rw [← hw24]; exact e_up_ne _ _ (Or.inl (fun g2 => g (hm_kLk g2)))), (sK.eq (fun c k g => by rw [← hw24, e_up_ne _ _ (by omega)]) hk), Or.inl (e1.trans hst)⟩⟩
      · replace h8 : (w 83 l : Int) = t := Classical.not_not.mp (show ¬ ((w 83 l : Int) ≠ t) from h8)
        refine e_Ok.ps2 (x := (0, 9)) (y := (1, 8)) (q := 34) 2 rfl ?_
        refine e_Ok.callV rfl (e_dq hd rfl) rfl rfl rfl rfl (c_46 hT (by omega) hk) (fun r27 w28 h29 => ?_)
        obtain ⟨rfl, q30f, q30T, q30x⟩ := h29
        have Q32 := kI.hm q q30T (e_fr.mono q30f (fun c k g => hm_kDs g))
        refine e_Ok.nrm (q := 37) (st' := []) rfl rfl ?_
        refine e_Ok.ps0 (q := 90) 1 rfl ?_
        refine e_Ok.rets rfl rfl ?_
        exact ⟨rfl, (show e_fr (kTl t) w w28 from e_fr.trans (e_fr.refl w) (e_fr.mono q30f (fun c k q => by first | exact su_cd_4 q | (unfold kDs at q; unfold kTl; omega)))), q30T, ⟨Q32, q30x, Or.inl (by rw [q30f _ _ (by unfold kDs; omega)]; exact hst)⟩⟩
    · replace h6 : (1 : Int) = 0 := Classical.not_not.mp (show ¬ ((1 : Int) ≠ 0) from h6)
      exfalso; omega
  · refine e_Ok.nrm (q := 7) (st' := [(0, 0)]) rfl rfl ?_
    refine e_Ok.if1 rfl (fun h33 => ?_) (fun h33 => ?_)
    · replace h33 : (0 : Int) ≠ 0 := h33
      exfalso; omega
    · replace h33 : (0 : Int) = 0 := Classical.not_not.mp (show ¬ ((0 : Int) ≠ 0) from h33)
      refine e_Ok.ps2 (x := (0, 2)) (y := (1, 8)) (q := 12) 2 rfl ?_
      refine e_Ok.callV rfl (e_dq hd rfl) rfl rfl rfl rfl (c_46 hT (by omega) hk) (fun r34 w35 h36 => ?_)
      obtain ⟨rfl, q37f, q37T, q37x⟩ := h36
      have Q40 := kI.hm q q37T (e_fr.mono q37f (fun c k g => hm_kDs g))
      refine e_Ok.nrm (q := 15) (st' := []) rfl rfl ?_
      refine e_Ok.ps0 (q := 90) 1 rfl ?_
      refine e_Ok.rets rfl rfl ?_
      exact ⟨rfl, (show e_fr (kTl t) w w35 from e_fr.trans (e_fr.refl w) (e_fr.mono q37f (fun c k q => by first | exact su_cd_4 q | (unfold kDs at q; unfold kTl; omega)))), q37T, ⟨Q40, q37x, Or.inl (by rw [q37f _ _ (by unfold kDs; omega)]; exact hst)⟩⟩
theorem su_cd_5 {t : Int} {c k : Int} (q : kDs c k) : kWt t c k := by
  unfold kDs at q
  rcases q with ⟨q, (q | q | q)⟩ | q
  · exact Or.inl ⟨(by omega), Or.inl (by omega)⟩
  · exact Or.inl ⟨(by omega), Or.inr (Or.inl (by omega))⟩
  · exact Or.inl ⟨(by omega), Or.inr (Or.inr (by omega))⟩
  · exact Or.inr (Or.inl (by omega))
theorem c_70 {d : Nat} (hd : 21 ≤ d) {w : eW} (hT : e_Has kTy w) {t p n : Int} (g_t : 0 ≤ t ∧ t ≤ 15) (g_p : (-2147483648) ≤ p ∧ p ≤ 2147483647) (g_n : 0 ≤ n ∧ n ≤ 33554431) {OP OD CL : Int → Int → Int} {h : Int} (q : kI w OP OD CL h t) (hk : sK w) (hst : w (6 * t + 154) 1 = 1) (hn : n < w (w (17 * w (6 * t + 154) 2 + 86) 7) 1) : e_Ok 20 elay kcode eI d 70 (0, [(0, (1, 8)), (1, (1, 6 * t + 154)), (2, (0, p)), (3, (0, n))], [], w) (fun r w' => r = [] ∧ e_fr (kWt t) w w' ∧ e_Has kTy w' ∧ (kI w' OP OD CL h t ∧ sK w')) := by
  obtain ⟨d, rfl⟩ : ∃ e, d = e + 1 := ⟨d - 1, by omega⟩
  have h2 := e_Has.get hT (c := 6 * t + 154) (k := 2) (lo := -1) (hi := 3) (kT_2 (t := t) rfl (by omega)) (by decide)
  have hac := ((q.ts (t := t) (by omega) (by omega)).2 (by omega) (by omega)).1
  have hac0 := (q.ts (t := t) (by omega) (by omega)).1.1 (by omega) (by omega)
  refine e_Ok.ps3 (x := (0, 63)) (y := (0, (-1))) (z := (0, p)) (q := 4) 3 rfl ?_
  refine e_Ok.callS rfl (e_dq hd rfl) rfl rfl (c_242 (by omega) (by omega) (by omega)) (fun r1 w2 h3 => ?_)
  obtain ⟨z4, rfl, rfl, q5⟩ := h3
  obtain ⟨rfl, q5⟩ | ⟨rfl, q5⟩ := q5
  · refine e_Ok.nrm (q := 7) (st' := [(0, 1)]) rfl rfl ?_
    refine e_Ok.if1 rfl (fun h6 => ?_) (fun h6 => ?_)
    · replace h6 : (1 : Int) ≠ 0 := h6
      refine e_Ok.ps2 (x := (0, p)) (y := (1, 6 * t + 154)) (q := 18) 2 rfl ?_
      refine e_Ok.putf rfl (lT0 (t := t) rfl g_t) rfl rfl ?_
      generalize hw7 : e_up w (6 * t + 154) 11 p = w7
      have hT9 : e_Has kTy w7 := e_Has.upr hT hw7 (kT_11 (t := t) rfl g_t) (by omega)
      refine e_Ok.ps2 (x := (0, n)) (y := (1, 6 * t + 154)) (q := 23) 2 rfl ?_
      refine e_Ok.putf rfl (lT0 (t := t) rfl g_t) rfl rfl ?_
      generalize hw10 : e_up w7 (6 * t + 154) 12 n = w10
      have f11 : e_fr (kWt t) w w10 := e_fr.up (show e_fr (kWt t) w w7 from e_fr.up (e_fr.refl w) hw7 (by first | exact Or.inr (Or.inr ⟨(by omega), ⟨(by decide), (by decide)⟩⟩) | (unfold kWt; omega))) hw10 (by first | exact Or.inr (Or.inr ⟨(by omega), ⟨(by decide), (by decide)⟩⟩) | (unfold kWt; omega))
      have hT12 : e_Has kTy w10 := e_Has.ups hT9 hw10 (kT_12 (t := t) rfl g_t)
      refine e_Ok.ps1 (x := (0, p)) (q := 27) 1 rfl ?_
      refine e_Ok.if1 rfl (fun h13 => ?_) (fun h13 => ?_)
      · replace h13 : (p : Int) < 0 := h13
        refine e_Ok.rets rfl rfl ?_
        have e1 : w10 (6 * t + 154) 1 = w (6 * t + 154) 1 := (e_uq hw10 (Or.inr (by decide)) (e_uq hw7 (Or.inr (by decide)) rfl))
        have e2 : w10 (6 * t + 154) 2 = w (6 * t + 154) 2 := (e_uq hw10 (Or.inr (by decide)) (e_uq hw7 (Or.inr (by decide)) rfl))
        have e11 : w10 (6 * t + 154) 11 = p := (e_uq hw10 (Or.inr (by decide)) (e_ue hw7))
        have e12 : w10 (6 * t + 154) 12 = n := (e_ue hw10)
        exact ⟨rfl, f11, hT12, ⟨kI.tg q hT12 (by omega) (e_fr.mono f11 (fun c k g => th_kWt g)) e2 (by omega) ⟨fun _ _ => by omega, fun g => by omega, fun g => by omega⟩ (fun _ _ => ⟨hac.1.eq (fun d k g => by rw [← hw10, e_up_ne _ _ (by omega), ← hw7, e_up_ne _ _ (by omega)]), fun g => by omega⟩), (sK.eq (fun c k g => by rw [← hw10, e_up_ne _ _ (by omega), ← hw7, e_up_ne _ _ (by omega)]) hk)⟩⟩
      · replace h13 : (p : Int) ≥ 0 := Int.not_lt.mp (show ¬ ((p : Int) < 0) from h13)
        refine e_Ok.ps2 (x := (1, 8)) (y := (1, 6 * t + 154)) (q := 32) 2 rfl ?_
        refine e_Ok.getr (z := 10) rfl (el_o rfl) rfl rfl (e_uq hw10 (Or.inr (by decide)) (e_uq hw7 (Or.inr (by decide)) (e_Has.eq hT (kt_o rfl)))) ⟨by decide, by decide⟩ ?_
        refine e_Ok.getr (z := 13) rfl (el_o rfl) rfl rfl (e_uq hw10 (Or.inr (by decide)) (e_uq hw7 (Or.inr (by decide)) (e_Has.eq hT (kt_o rfl)))) ⟨by decide, by decide⟩ ?_
        refine e_Ok.ps1 (x := (0, p)) (q := 39) 1 rfl ?_
        have h14 := (e_Has.get hT (c := 13) (k := p) (lo := (-2147483648)) (hi := 2147483647) (kt_o rfl) (by decide))
        refine e_Ok.ald (z := w 13 p) rfl (el_o rfl) rfl (by omega) (e_uq hw10 (Or.inl (by omega)) (e_uq hw7 (Or.inl (by omega)) rfl)) (e_bq h14 (by decide) (by decide)) ?_
        refine e_Ok.putf rfl (lT0 (t := t) rfl g_t) rfl rfl ?_
        generalize hw15 : e_up w10 (6 * t + 154) 13 (w 13 p) = w15
        have f16 : e_fr (kWt t) w w15 := e_fr.up f11 hw15 (by first | exact Or.inr (Or.inr ⟨(by omega), ⟨(by decide), (by decide)⟩⟩) | (unfold kWt; omega))
        have hT17 : e_Has kTy w15 := e_Has.ups hT12 hw15 (kT_13 (t := t) rfl g_t)
        refine e_Ok.rets rfl rfl ?_
        have e1 : w15 (6 * t + 154) 1 = w (6 * t + 154) 1 := (e_uq hw15 (Or.inr (by decide)) (e_uq hw10 (Or.inr (by decide)) (e_uq hw7 (Or.inr (by decide)) rfl)))
        have e2 : w15 (6 * t + 154) 2 = w (6 * t + 154) 2 := (e_uq hw15 (Or.inr (by decide)) (e_uq hw10 (Or.inr (by decide)) (e_uq hw7 (Or.inr (by decide)) rfl)))
        have e11 : w15 (6 * t + 154) 11 = p := (e_uq hw15 (Or.inr (by decide)) (e_uq hw10 (Or.inr (by decide)) (e_ue hw7)))
        have e12 : w15 (6 * t + 154) 12 = n := (e_uq hw15 (Or.inr (by decide)) (e_ue hw10))
        have e13 : w15 (6 * t + 154) 13 = w 13 p := (e_ue hw15)
        exact ⟨rfl, f16, hT17, ⟨kI.tg q hT17 (by omega) (e_fr.mono f16 (fun c k g => th_kWt g)) e2 (by omega) ⟨fun _ _ => by omega, fun g => by omega, fun g => by omega⟩ (fun _ _ => ⟨hac.1.eq (fun d k g => by rw [← hw15, e_up_ne _ _ (by omega), ← hw10, e_up_ne _ _ (by omega), ← hw7, e_up_ne _ _ (by omega)]), fun g => by rw [e12, e13]; exact ⟨by omega, by unfold kn1; omega⟩⟩), (sK.eq (fun c k g => by rw [← hw15, e_up_ne _ _ (by omega), ← hw10, e_up_ne _ _ (by omega), ← hw7, e_up_ne _ _ (by omega)]) hk)⟩⟩
    · replace h6 : (1 : Int) = 0 := Classical.not_not.mp (show ¬ ((1 : Int) ≠ 0) from h6)
      exfalso; omega
  · refine e_Ok.nrm (q := 7) (st' := [(0, 0)]) rfl rfl ?_
    refine e_Ok.if1 rfl (fun h18 => ?_) (fun h18 => ?_)
    · replace h18 : (0 : Int) ≠ 0 := h18
      exfalso; omega
    · replace h18 : (0 : Int) = 0 := Classical.not_not.mp (show ¬ ((0 : Int) ≠ 0) from h18)
      refine e_Ok.ps2 (x := (0, 2)) (y := (1, 8)) (q := 12) 2 rfl ?_
      refine e_Ok.callV rfl (e_dq hd rfl) rfl rfl rfl rfl (c_46 hT (by omega) hk) (fun r19 w20 h21 => ?_)
      obtain ⟨rfl, q22f, q22T, q22x⟩ := h21
      have Q24 := kI.hm q q22T (e_fr.mono q22f (fun c k g => hm_kDs g))
      refine e_Ok.nrm (q := 15) (st' := []) rfl rfl ?_
      refine e_Ok.rets rfl rfl ?_
      exact ⟨rfl, (show e_fr (kWt t) w w20 from e_fr.trans (e_fr.refl w) (e_fr.mono q22f (fun c k q => by first | exact su_cd_5 q | (unfold kDs at q; unfold kWt; omega)))), q22T, ⟨Q24, q22x⟩⟩
theorem c_60 {d : Nat} {w : eW} (hT : e_Has kTy w) {n v : Int} (g_n : 0 ≤ n ∧ n ≤ 33554431) (g_v : (-2147483648) ≤ v ∧ v ≤ 2147483647) {t : Int} {OP OD CL : Int → Int → Int} {h : Int} (q : kI w OP OD CL h t) (hn : n ≤ h) : e_Ok 20 elay kcode eI d 60 (0, [(0, (1, 8)), (1, (0, n)), (2, (0, v))], [], w) (fun r w' => r = [] ∧ e_fr kGl w w' ∧ e_Has kTy w' ∧ (∃ h', h ≤ h' ∧ n + 1 ≤ h' ∧ kI w' OP OD CL h' t)) := by
  refine e_Ok.ps2 (x := (0, 6)) (y := (0, n)) (q := 3) 2 rfl ?_
  refine e_Ok.if2 rfl (fun h1 => ?_) (fun h1 => ?_)
  · replace h1 : (n : Int) ≥ 6 := h1
    refine e_Ok.rets rfl rfl ?_
    exact ⟨rfl, (e_fr.refl w), hT, ⟨if h ≤ n then n + 1 else h, by split <;> omega, by split <;> omega, kI.less q (by split <;> omega) (fun j g1 g2 g3 => q.gk j g1 (by omega) g3)⟩⟩
  · replace h1 : (n : Int) < 6 := Int.not_le.mp (show ¬ ((n : Int) ≥ 6) from h1)
    refine e_Ok.ps1 (x := (1, 8)) (q := 7) 1 rfl ?_
    refine e_Ok.getr (z := 85) rfl (el_o rfl) rfl rfl (e_Has.eq hT (kt_o rfl)) ⟨by decide, by decide⟩ ?_
    refine e_Ok.ps2 (x := (0, v)) (y := (0, n)) (q := 12) 2 rfl ?_
    refine e_Ok.ast rfl (el_o rfl) rfl rfl (by omega) ?_
    generalize hw2 : e_up w 85 n v = w2
    have hT4 : e_Has kTy w2 := e_Has.ups hT hw2 (kt_o rfl)
    refine e_Ok.rets rfl rfl ?_
    exact ⟨rfl, (show e_fr kGl w w2 from e_fr.up (e_fr.refl w) hw2 (by first | exact rfl | (unfold kGl; omega))), hT4, ⟨if h ≤ n then n + 1 else h, by split <;> omega, by split <;> omega, kI.gl q hT4 (by omega) (by unfold kn1; omega) hw2 (by split <;> omega)⟩⟩
theorem c_62 {d : Nat} (hd : 22 ≤ d) {w : eW} (hT : e_Has kTy w) {a : Int} (g_a : 0 ≤ a ∧ a ≤ 3) (hg : ∀ j, 0 ≤ j → j < w (17 * a + 86) 8 → kn1 (w 85 j)) : e_Ok 20 elay kcode eI d 62 (0, [(0, (1, 8)), (1, (1, 17 * a + 86))], [], w) (fun r w' => ∃ z : Int, r = [(0, z)] ∧ w = w' ∧ (0 ≤ z ∧ z ≤ 1) ∧ (z = 1 → ∀ j, 0 ≤ j → j < w (17 * a + 86) 8 → w (17 * a + j + 97) 1 ≤ w 85 j ∧ w 85 j ≤ w (17 * a + j + 97) 2)) := by
  obtain ⟨d, rfl⟩ : ∃ e, d = e + 1 := ⟨d - 1, by omega⟩
  have hjn := kn_joints hT (a := a) (by omega)
  refine e_Ok.run (t' := (2, [(2, (0, 0)), (0, (1, 8)), (1, (1, 17 * a + 86))], [], w)) 2 rfl ?_
  have hL1 : ∀ (nn : Nat) (y2 : Int), (∀ j, 0 ≤ j → j < y2 → w (17 * a + j + 97) 1 ≤ w 85 j ∧ w 85 j ≤ w (17 * a + j + 97) 2) ∧ (0 ≤ y2 ∧ y2 ≤ 6) ∧ y2 ≤ w (17 * a + 86) 8 → 6 - y2 < nn → e_Ok 20 elay kcode eI (d + 1) 62 (2, [(0, (1, 8)), (1, (1, 17 * a + 86)), (2, (0, y2))], [], w) (fun r w' => ∃ z : Int, r = [(0, z)] ∧ w = w' ∧ (0 ≤ z ∧ z ≤ 1) ∧ (z = 1 → ∀ j, 0 ≤ j → j < w (17 * a + 86) 8 → w (17 * a + j + 97) 1 ≤ w 85 j ∧ w 85 j ≤ w (17 * a + j + 97) 2)) := by
    intro nn
    induction nn with
    | zero => intro y2 hj hm; obtain ⟨j3, j4, j5⟩ := hj; exfalso; omega
    | succ nn ih2 =>
      intro y2 hj hm
      obtain ⟨j3, j4, j5⟩ := hj
      refine e_Ok.run (t' := (4, [(0, (1, 8)), (1, (1, 17 * a + 86)), (2, (0, y2))], [(1, 17 * a + 86), (0, y2)], w)) 2 rfl ?_
      have h6 := (e_Has.get hT (c := 17 * a + 86) (k := 8) (lo := 0) (hi := 6) (kA_8 (a := a) rfl g_a) (by decide))
      refine e_Ok.getf (z := w (17 * a + 86) 8) rfl (lA0 (a := a) rfl g_a) rfl rfl rfl (e_bq h6 (by decide) (by decide)) ?_
      refine e_Ok.if2 rfl (fun h7 => ?_) (fun h7 => ?_)
      · replace h7 : (y2 : Int) ≥ w (17 * a + 86) 8 := h7
        refine e_Ok.ps1 (x := (0, 1)) (q := 37) 1 rfl ?_
        refine e_Ok.rets rfl rfl ?_
        exact ⟨_, rfl, rfl, ⟨by omega, by omega⟩, fun _ j g1 g2 => j3 j g1 (by omega)⟩
      · replace h7 : (y2 : Int) < w (17 * a + 86) 8 := Int.not_le.mp (show ¬ ((y2 : Int) ≥ w (17 * a + 86) 8) from h7)
        have hq := hg y2 (by omega) (by omega); unfold kn1 at hq
        refine e_Ok.ps1 (x := (1, 17 * a + 86)) (q := 11) 1 rfl ?_
        refine e_Ok.getr (z := 17 * a + 87) rfl (lA0 (a := a) rfl g_a) rfl rfl (Eq.trans (e_Has.eq hT (kA_0 (a := a) rfl g_a)) (by omega)) (by omega) ?_
        refine e_Ok.ps1 (x := (0, y2)) (q := 15) 1 rfl ?_
        refine e_Ok.aald (z := 17 * a + y2 + 97) rfl (lA1 (a := a) rfl g_a) rfl (by omega) (Eq.trans (e_Has.eq hT (kA87 (a := a) rfl g_a (by omega))) (by omega)) (by omega) ?_
        refine e_Ok.ps1 (x := (1, 8)) (q := 17) 1 rfl ?_
        refine e_Ok.getr (z := 85) rfl (el_o rfl) rfl rfl (e_Has.eq hT (kt_o rfl)) ⟨by decide, by decide⟩ ?_
        refine e_Ok.ps1 (x := (0, y2)) (q := 21) 1 rfl ?_
        refine e_Ok.ald (z := w 85 y2) rfl (el_o rfl) rfl (by omega) rfl (by omega) ?_
        refine e_Ok.callV rfl (e_dq hd rfl) rfl (lJ (a := a) (j := y2) (by omega) (by omega) (by omega)) rfl rfl (c_89 (e_dq hd rfl) (a := a) (j := y2) hT (by omega) (by omega) (by omega)) (fun r8 w9 h10 => ?_)
        obtain ⟨z11, rfl, rfl, q12⟩ := h10
        replace q12 : (z11 = 1 ∧ w (17 * a + y2 + 97) 1 ≤ w 85 y2 ∧ w 85 y2 ≤ w (17 * a + y2 + 97) 2) ∨ (z11 = 0 ∧ ¬ (w (17 * a + y2 + 97) 1 ≤ w 85 y2 ∧ w 85 y2 ≤ w (17 * a + y2 + 97) 2)) := q12
        obtain ⟨rfl, q12⟩ | ⟨rfl, q12⟩ := q12
        · refine e_Ok.nrm (q := 25) (st' := [(0, 1)]) rfl rfl ?_
          refine e_Ok.if1 rfl (fun h13 => ?_) (fun h13 => ?_)
          · replace h13 : (1 : Int) ≠ 0 := h13
            refine e_Ok.inc (z := y2 + 1) rfl rfl (by first | with_reducible rfl | omega) (by omega) ?_
            show e_Ok 20 elay kcode eI (d + 1) 62 (33, [(2, (0, y2 + 1)), (0, (1, 8)), (1, (1, 17 * a + 86))], [], w) _
            refine e_Ok.ps0 (q := 2) 1 rfl ?_
            refine e_Ok.sub kAlk (e_sub_of rfl ?_) (ih2 (y2 + 1) ⟨(fun j g1 g2 => if e : j = y2 then by rw [e]; omega else j3 j g1 (by omega)), by omega, by omega⟩ (by omega))
            exact ⟨rfl, rfl, rfl, trivial⟩
          · replace h13 : (1 : Int) = 0 := Classical.not_not.mp (show ¬ ((1 : Int) ≠ 0) from h13)
            exfalso; omega
        · refine e_Ok.nrm (q := 25) (st' := [(0, 0)]) rfl rfl ?_
          refine e_Ok.if1 rfl (fun h14 => ?_) (fun h14 => ?_)
          · replace h14 : (0 : Int) ≠ 0 := h14
            exfalso; omega
          · replace h14 : (0 : Int) = 0 := Classical.not_not.mp (show ¬ ((0 : Int) ≠ 0) from h14)
            refine e_Ok.ps1 (x := (0, 0)) (q := 29) 1 rfl ?_
            refine e_Ok.rets rfl rfl ?_
            exact ⟨_, rfl, rfl, ⟨by omega, by omega⟩, fun g => absurd g (by decide)⟩
  refine e_Ok.sub kAlk (e_sub_of rfl ?_) (hL1 (6 + 1 : Int).toNat 0 ⟨(fun j g1 g2 => by omega), by omega, by omega⟩ (by omega))
  exact ⟨rfl, rfl, rfl, trivial⟩
theorem no_cd_0 {t : Int} {a : Int} (ht : 0 ≤ t ∧ t ≤ 15) (ha : 0 ≤ a ∧ a ≤ 3) : ¬ kMb t a (17 * a + 86) 8 := by unfold kMb; omega
theorem no_cd_1 {t : Int} {a : Int} (ht : 0 ≤ t ∧ t ≤ 15) (ha : 0 ≤ a ∧ a ≤ 3) : ¬ kMb t a (6 * t + 154) 0 := by unfold kMb; omega
theorem no_cd_2 {t : Int} {a : Int} (ht : 0 ≤ t ∧ t ≤ 15) (ha : 0 ≤ a ∧ a ≤ 3) : ¬ kMb t a (17 * a + 86) 0 := by unfold kMb; omega
theorem no_cd_3 {t : Int} {a : Int} : ¬ kMb t a 8 7 := by unfold kMb; omega
theorem su_cd_6 {t : Int} {a : Int} {c k : Int} (q : kDs c k) : kMb t a c k := by
  unfold kDs at q
  rcases q with ⟨q, (q | q | q)⟩ | q
  · exact Or.inl ⟨(by omega), Or.inl (by omega)⟩
  · exact Or.inl ⟨(by omega), Or.inr (Or.inl (by omega))⟩
  · exact Or.inl ⟨(by omega), Or.inr (Or.inr (by omega))⟩
  · exact Or.inr (Or.inl (by omega))
theorem su_cd_7 {a : Int} {t : Int} {c k : Int} (q : kBm a c k) : kMb t a c k := by
  unfold kBm at q
  rcases q with ⟨q, ⟨q, q⟩⟩ | ⟨q, ⟨q, q⟩⟩
  · exact Or.inr (Or.inr (Or.inl ⟨(by omega), ⟨(by omega), (by omega)⟩⟩))
  · exact Or.inr (Or.inr (Or.inr (Or.inl ⟨(by omega), ⟨(by omega), Or.inr (by omega)⟩⟩)))
theorem c_61 {d : Nat} (hd : 23 ≤ d) {w : eW} (hT : e_Has kTy w) {t a n : Int} (g_t : 0 ≤ t ∧ t ≤ 15) (g_a : 0 ≤ a ∧ a ≤ 3) (g_n : 0 ≤ n ∧ n ≤ 33554431) {OP OD CL : Int → Int → Int} {h : Int} (q : kI w OP OD CL h t) (hk : sK w) (hst : w (6 * t + 154) 1 = 1) (ha : w (6 * t + 154) 2 = a) (hn : n ≤ h) : e_Ok 20 elay kcode eI d 61 (0, [(0, (1, 8)), (1, (1, 6 * t + 154)), (2, (0, n))], [], w) (fun r w' => r = [] ∧ e_fr (kMb t a) w w' ∧ e_Has kTy w' ∧ (kI w' OP OD CL h t ∧ sK w' ∧ (w' (6 * t + 154) 1 = 1 ∨ w' (6 * t + 154) 1 = 2))) := by
  obtain ⟨d, rfl⟩ : ∃ e, d = e + 1 := ⟨d - 1, by omega⟩
  have h2 := e_Has.get hT (c := 6 * t + 154) (k := 2) (lo := -1) (hi := 3) (kT_2 (t := t) rfl (by omega)) (by decide)
  have hac := ((q.ts (t := t) (by omega) (by omega)).2 (by omega) (by omega)).1
  have hac0 := (q.ts (t := t) (by omega) (by omega)).1.1 (by omega) (by omega)
  have hjn := kn_joints hT (a := a) (by omega)
  have hcd := q.cd a (by omega) (by omega)
  unfold isCd at hcd
  have hg0 : n = w (17 * a + 86) 8 → ∀ j, 0 ≤ j → j < w (17 * a + 86) 8 → kn1 (w 85 j) := fun e j g1 g2 => q.gk j g1 (by omega) (by omega)
  refine e_Ok.ps1 (x := (1, 8)) (q := 1) 1 rfl ?_
  refine e_Ok.getr (z := 9) rfl (el_o rfl) rfl rfl (e_Has.eq hT (kt_o rfl)) ⟨by decide, by decide⟩ ?_
  refine e_Ok.ps1 (x := (1, 6 * t + 154)) (q := 5) 1 rfl ?_
  refine e_Ok.getf (z := a) rfl (lT0 (t := t) rfl g_t) rfl rfl ha (by omega) ?_
  refine e_Ok.aald (z := 17 * a + 86) rfl (el_o rfl) rfl (by omega) (Eq.trans (e_Has.eq hT (k9 (by omega))) (by omega)) (by omega) ?_
  refine e_Ok.run (t' := (12, [(3, (1, 17 * a + 86)), (0, (1, 8)), (1, (1, 6 * t + 154)), (2, (0, n))], [(1, 17 * a + 86), (0, n)], w)) 3 rfl ?_
  have h1 := (e_Has.get hT (c := 17 * a + 86) (k := 8) (lo := 0) (hi := 6) (kA_8 (a := a) rfl g_a) (by decide))
  refine e_Ok.getf (z := w (17 * a + 86) 8) rfl (lA0 (a := a) rfl g_a) rfl rfl rfl (e_bq h1 (by decide) (by decide)) ?_
  refine e_Ok.if2 rfl (fun h2 => ?_) (fun h2 => ?_)
  · replace h2 : (n : Int) ≠ w (17 * a + 86) 8 := h2
    refine e_Ok.ps2 (x := (0, 3)) (y := (1, 8)) (q := 28) 2 rfl ?_
    refine e_Ok.callV rfl (e_dq hd rfl) rfl rfl rfl rfl (c_46 hT (by omega) hk) (fun r3 w4 h5 => ?_)
    obtain ⟨rfl, q6f, q6T, q6x⟩ := h5
    have f7 : e_fr (kMb t a) w w4 := e_fr.trans (e_fr.refl w) (e_fr.mono q6f (fun c k q => by first | exact su_cd_6 q | (unfold kDs at q; unfold kMb; omega)))
    have l8 : w4 (17 * a + 86) 8 = w (17 * a + 86) 8 := f7 (17 * a + 86) 8 (by first | exact no_cd_0 (by omega) (by omega) | (unfold kMb; omega))
    have Q9 := kI.hm q q6T (e_fr.mono q6f (fun c k g => hm_kDs g))
    refine e_Ok.nrm (q := 31) (st' := []) rfl rfl ?_
    refine e_Ok.ps0 (q := 115) 1 rfl ?_
    refine e_Ok.rets rfl rfl ?_
    exact ⟨rfl, f7, q6T, ⟨Q9, q6x, Or.inl (by rw [q6f _ _ (by unfold kDs; omega)]; exact hst)⟩⟩
  · replace h2 : (n : Int) = w (17 * a + 86) 8 := Classical.not_not.mp (show ¬ ((n : Int) ≠ w (17 * a + 86) 8) from h2)
    refine e_Ok.ps2 (x := (1, 17 * a + 86)) (y := (1, 8)) (q := 20) 2 rfl ?_
    refine e_Ok.callV rfl (e_dq hd rfl) rfl rfl rfl rfl (c_62 (e_dq hd rfl) (a := a) hT (by omega) (hg0 (by omega))) (fun r10 w11 h12 => ?_)
    obtain ⟨z14, rfl, rfl, q13r, q13x⟩ := h12
    refine e_Ok.nrm (q := 23) (st' := [(0, z14)]) rfl rfl ?_
    refine e_Ok.if1 rfl (fun h15 => ?_) (fun h15 => ?_)
    · replace h15 : (z14 : Int) ≠ 0 := h15
      have hrg := q13x (by omega)
      refine e_Ok.ps1 (x := (1, 17 * a + 86)) (q := 35) 1 rfl ?_
      have h16 := (e_Has.get hT (c := 17 * a + 86) (k := 11) (lo := 0) (hi := 2) (kA_11 (a := a) rfl g_a) (by decide))
      refine e_Ok.getf (z := w (17 * a + 86) 11) rfl (lA0 (a := a) rfl g_a) rfl rfl rfl (e_bq h16 (by decide) (by decide)) ?_
      refine e_Ok.if1 rfl (fun h17 => ?_) (fun h17 => ?_)
      · replace h17 : (w (17 * a + 86) 11 : Int) = 0 := h17
        refine e_Ok.ps1 (x := (1, 8)) (q := 50) 1 rfl ?_
        refine e_Ok.getr (z := 74) rfl (el_o rfl) rfl rfl (e_Has.eq hT (kt_o rfl)) ⟨by decide, by decide⟩ ?_
        have h18 := (e_Has.get hT (c := 74) (k := 3) (lo := 0) (hi := 1) (kt_o rfl) (by decide))
        refine e_Ok.getf (z := w 74 3) rfl (el_o rfl) rfl rfl rfl (e_bq h18 (by decide) (by decide)) ?_
        refine e_Ok.if1 rfl (fun h19 => ?_) (fun h19 => ?_)
        · replace h19 : (w 74 3 : Int) ≠ 0 := h19
          replace hg0 := hg0 (by omega)
          refine e_Ok.run (t' := (70, [(4, (0, 0)), (3, (1, 17 * a + 86)), (0, (1, 8)), (1, (1, 6 * t + 154)), (2, (0, n))], [], w)) 2 rfl ?_
          have hL20 : ∀ (nn : Nat) (y4 : Int) (v1 : eW), e_fr (kMb t a) w v1 ∧ e_Has kTy v1 ∧ (∀ j, 0 ≤ j → j < y4 → v1 (17 * a + j + 97) 9 = w 85 j) ∧ (∀ c k, ¬ (17 * a + 97 ≤ c ∧ c ≤ 17 * a + 102 ∧ k = 9) → v1 c k = w c k) ∧ y4 ≤ w (17 * a + 86) 8 ∧ (0 ≤ y4 ∧ y4 ≤ 6) → 6 - y4 < nn → e_Ok 20 elay kcode eI (d + 1) 61 (70, [(0, (1, 8)), (1, (1, 6 * t + 154)), (3, (1, 17 * a + 86)), (4, (0, y4))], [], v1) (fun r w' => r = [] ∧ e_fr (kMb t a) w w' ∧ e_Has kTy w' ∧ (kI w' OP OD CL h t ∧ sK w' ∧ (w' (6 * t + 154) 1 = 1 ∨ w' (6 * t + 154) 1 = 2))) := by
            intro nn
            induction nn with
            | zero => intro y4 v1 hj hm; obtain ⟨j22, j23, j24, j25, j26, j27⟩ := hj; exfalso; omega
            | succ nn ih21 =>
              intro y4 v1 hj hm
              obtain ⟨j22, j23, j24, j25, j26, j27⟩ := hj
              have l28 : v1 (17 * a + 86) 8 = w (17 * a + 86) 8 := j22 (17 * a + 86) 8 (by first | exact no_cd_0 (by omega) (by omega) | (unfold kMb; omega))
              refine e_Ok.run (t' := (73, [(0, (1, 8)), (1, (1, 6 * t + 154)), (3, (1, 17 * a + 86)), (4, (0, y4))], [(1, 17 * a + 86), (0, y4)], v1)) 2 rfl ?_
              refine e_Ok.getf (z := w (17 * a + 86) 8) rfl (lA0 (a := a) rfl g_a) rfl rfl ((j22 (17 * a + 86) 8 (by first | exact no_cd_0 (by omega) (by omega) | (unfold kMb; omega))).trans rfl) (by omega) ?_
              refine e_Ok.if2 rfl (fun h29 => ?_) (fun h29 => ?_)
              · replace h29 : (y4 : Int) ≥ w (17 * a + 86) 8 := h29
                refine e_Ok.ps2 (x := (1, 6 * t + 154)) (y := (1, 17 * a + 86)) (q := 104) 2 rfl ?_
                refine e_Ok.getf (z := t) rfl (lT0 (t := t) rfl g_t) rfl rfl ((j22 (6 * t + 154) 0 (by first | exact no_cd_1 (by omega) (by omega) | (unfold kMb; omega))).trans (Eq.trans (e_Has.eq hT (kT_0 (t := t) rfl g_t)) (by omega))) (by omega) ?_
                refine e_Ok.callV rfl (e_dq hd rfl) rfl (lA0 (a := a) rfl g_a) rfl rfl (c_13 (a := a) j23 (by omega) (by omega)) (fun r30 w31 h32 => ?_)
                obtain ⟨rfl, q33f, q33T, q33x⟩ := h32
                have f34 : e_fr (kMb t a) w w31 := e_fr.trans j22 (e_fr.mono q33f (fun c k q => by first | exact su_cd_7 q | (unfold kBm at q; unfold kMb; omega)))
                have l35 : w31 (17 * a + 86) 8 = w (17 * a + 86) 8 := f34 (17 * a + 86) 8 (by first | exact no_cd_0 (by omega) (by omega) | (unfold kMb; omega))
                refine e_Ok.nrm (q := 110) (st' := []) rfl rfl ?_
                refine e_Ok.ps2 (x := (0, 2)) (y := (1, 6 * t + 154)) (q := 112) 2 rfl ?_
                refine e_Ok.putf rfl (lT0 (t := t) rfl g_t) rfl rfl ?_
                generalize hw36 : e_up w31 (6 * t + 154) 1 2 = w36
                have f37 : e_fr (kMb t a) w w36 := e_fr.up f34 hw36 (by first | exact Or.inr (Or.inr (Or.inr (Or.inr ⟨(by omega), rfl⟩))) | (unfold kMb; omega))
                have l38 : w36 (17 * a + 86) 8 = w (17 * a + 86) 8 := f37 (17 * a + 86) 8 (by first | exact no_cd_0 (by omega) (by omega) | (unfold kMb; omega))
                have hT40 : e_Has kTy w36 := e_Has.upr q33T hw36 (kT_1 (t := t) rfl g_t) (by omega)
                refine e_Ok.rets rfl rfl ?_
                have ew : ∀ c k, ¬ (c = 6 * t + 154 ∧ k = 1) → ¬ (c = 17 * a + 86 ∧ 11 ≤ k ∧ k ≤ 13) → ¬ (17 * a + 97 ≤ c ∧ c ≤ 17 * a + 102 ∧ (k = 9 ∨ k = 10)) → w36 c k = w c k := fun c k g1 g2 g3 => by rw [← hw36, e_up_ne _ _ (by omega), q33f c k (by unfold kBm; omega)]; exact j25 c k (by omega)
                have e9 : ∀ j, 0 ≤ j → j < w (17 * a + 86) 8 → w36 (17 * a + j + 97) 9 = w 85 j := fun j g1 g2 => by rw [← hw36, e_up_ne _ _ (by omega), q33f _ _ (by unfold kBm; omega)]; exact j24 j g1 (by omega)
                have e10 : ∀ j, 0 ≤ j → j < w (17 * a + 86) 8 → kn1 (w36 (17 * a + j + 97) 10) := fun j g1 g2 => by rw [← hw36, e_up_ne _ _ (by omega)]; exact q33x.2 j g1 (by rw [j25 _ _ (by omega)]; exact g2)
                have e11 : w36 (17 * a + 86) 11 = 1 := by rw [← hw36, e_up_ne _ _ (by omega)]; exact q33x.1.1
                have e12 : w36 (17 * a + 86) 12 = 0 := by rw [← hw36, e_up_ne _ _ (by omega)]; exact q33x.1.2.1
                have hA := (q.arm (a := a) (by omega) (by omega)).move (w' := w36) (by omega) (by omega) (fun c k g1 g2 g3 => ew c k (by unfold dA at g1; omega) (by unfold dA at g1; omega) g3) (by omega) e11 (by rw [e12]; unfold kn1; decide) (fun j g1 g2 => ⟨by rw [e9 j g1 g2]; exact hrg j g1 g2, e10 j g1 g2⟩)
                have e1 : w36 (6 * t + 154) 1 = 2 := (e_ue hw36)
                have hw1 : e_fr (fun c k => (c = 17 * a + 86 ∧ 11 ≤ k ∧ k ≤ 13) ∨ (17 * a + 97 ≤ c ∧ c ≤ 17 * a + 102 ∧ (k = 9 ∨ k = 10))) w w31 := fun c k g => by rw [q33f c k (by unfold kBm; omega)]; exact j25 c k (by omega)
                have hp := q.pw
                have hA0 : aR w31 a := hA.eq (by rw [ew _ _ (by omega) (by omega) (by omega)]; omega) (fun c k g => by rw [← hw36, e_up_ne _ _ (by unfold dA at g; omega)])
                have Q1 := kI.ar q q33T (by omega) (hw1.mono (fun c k g => by unfold kAh; omega)) (q.lgk.fr hw1 (by omega) (fun k => by omega)) hA0 (fun g _ => by omega)
                exact ⟨rfl, f37, hT40, ⟨kI.tg Q1 hT40 (by omega) (fun c k g => by rw [← hw36]; exact e_up_ne _ _ (by unfold kTh at g; omega)) (by rw [← hw36, e_up_ne _ _ (by omega)]) (by rw [hw1 _ _ (by omega)]; omega) ⟨fun _ _ => by rw [ew _ _ (by omega) (by omega) (by omega)]; omega, fun g => by omega, fun g => by omega⟩ (fun _ _ => by rw [hw1 _ _ (by omega), show w31 (17 * w (6 * t + 154) 2 + 86) 7 = w (17 * w (6 * t + 154) 2 + 86) 7 from hw1 _ _ (by omega), show w31 (w (17 * w (6 * t + 154) 2 + 86) 7) 1 = w (w (17 * w (6 * t + 154) 2 + 86) 7) 1 from hw1 _ _ (by omega)]; exact hac.eq (fun d k g => ew d k (by omega) (by omega) (by omega))), sK.fr (S := fun c k => (c = 6 * t + 154 ∧ k = 1) ∨ (c = 17 * a + 86 ∧ 11 ≤ k ∧ k ≤ 13) ∨ (17 * a + 97 ≤ c ∧ c ≤ 17 * a + 102 ∧ (k = 9 ∨ k = 10))) (fun c k g => ew c k (by omega) (by omega) (by omega)) (by omega) (fun k => by omega) hk, Or.inr e1⟩⟩
              · replace h29 : (y4 : Int) < w (17 * a + 86) 8 := Int.not_le.mp (show ¬ ((y4 : Int) ≥ w (17 * a + 86) 8) from h29)
                have hq := hg0 y4 (by omega) (by omega); unfold kn1 at hq
                have e85 : v1 85 y4 = w 85 y4 := j25 _ _ (by omega)
                refine e_Ok.ps1 (x := (1, 17 * a + 86)) (q := 80) 1 rfl ?_
                refine e_Ok.getr (z := 17 * a + 87) rfl (lA0 (a := a) rfl g_a) rfl rfl ((j22 (17 * a + 86) 0 (by first | exact no_cd_2 (by omega) (by omega) | (unfold kMb; omega))).trans (Eq.trans (e_Has.eq hT (kA_0 (a := a) rfl g_a)) (by omega))) (by omega) ?_
                refine e_Ok.ps1 (x := (0, y4)) (q := 85) 1 rfl ?_
                refine e_Ok.aald (z := 17 * a + y4 + 97) rfl (lA1 (a := a) rfl g_a) rfl (by omega) ((j22 (17 * a + 87) y4 (by unfold kMb; omega)).trans (Eq.trans (e_Has.eq hT (kA87 (a := a) rfl g_a (by omega))) (by omega))) (by omega) ?_
                refine e_Ok.ps1 (x := (1, 8)) (q := 87) 1 rfl ?_
                refine e_Ok.getr (z := 85) rfl (el_o rfl) rfl rfl ((j22 8 7 (by first | exact no_cd_3 | (unfold kMb; omega))).trans (e_Has.eq hT (kt_o rfl))) ⟨by decide, by decide⟩ ?_
                refine e_Ok.ps1 (x := (0, y4)) (q := 92) 1 rfl ?_
                refine e_Ok.ald (z := w 85 y4) rfl (el_o rfl) rfl (by omega) ((j22 85 y4 (by unfold kMb; omega)).trans rfl) (by omega) ?_
                refine e_Ok.putf rfl (lJ (a := a) (j := y4) (by omega) (by omega) (by omega)) rfl rfl ?_
                generalize hw41 : e_up v1 (17 * a + y4 + 97) 9 (w 85 y4) = w41
                have f42 : e_fr (kMb t a) w w41 := e_fr.up j22 hw41 (by unfold kMb; omega)
                have l43 : w41 (17 * a + 86) 8 = w (17 * a + 86) 8 := f42 (17 * a + 86) 8 (by first | exact no_cd_0 (by omega) (by omega) | (unfold kMb; omega))
                have hT44 : e_Has kTy w41 := e_Has.upr j23 hw41 (kJ_9 (a := a) (j := y4) (by omega) (by omega) (by omega)) (by omega)
                refine e_Ok.inc (z := y4 + 1) rfl rfl (by first | with_reducible rfl | omega) (by omega) ?_
                show e_Ok 20 elay kcode eI (d + 1) 61 (99, [(4, (0, y4 + 1)), (0, (1, 8)), (1, (1, 6 * t + 154)), (3, (1, 17 * a + 86))], [], w41) _
                refine e_Ok.ps0 (q := 70) 1 rfl ?_
                refine e_Ok.sub kAlk (e_sub_of rfl ?_) (ih21 (y4 + 1) w41 ⟨f42, hT44, (fun j g1 g2 => by rw [← hw41]; by_cases e : j = y4; (rw [e, e_up_eq]); (rw [e_up_ne _ _ (Or.inl (by omega))]; exact j24 j g1 (by omega))), (fun c k g1 => by rw [← hw41, e_up_ne _ _ (by omega)]; exact j25 c k g1), by omega, by omega⟩ (by omega))
                exact ⟨rfl, rfl, rfl, rfl, trivial⟩
          refine e_Ok.sub kAlk (e_sub_of rfl ?_) (hL20 (6 + 1 : Int).toNat 0 w ⟨(e_fr.refl w), hT, (fun j g1 g2 => by omega), (fun _ _ _ => rfl), by omega, by omega⟩ (by omega))
          exact ⟨rfl, rfl, rfl, rfl, trivial⟩
        · replace h19 : (w 74 3 : Int) = 0 := Classical.not_not.mp (show ¬ ((w 74 3 : Int) ≠ 0) from h19)
          refine e_Ok.ps2 (x := (0, 5)) (y := (1, 8)) (q := 61) 2 rfl ?_
          refine e_Ok.callV rfl (e_dq hd rfl) rfl rfl rfl rfl (c_46 hT (by omega) hk) (fun r45 w46 h47 => ?_)
          obtain ⟨rfl, q48f, q48T, q48x⟩ := h47
          have f49 : e_fr (kMb t a) w w46 := e_fr.trans (e_fr.refl w) (e_fr.mono q48f (fun c k q => by first | exact su_cd_6 q | (unfold kDs at q; unfold kMb; omega)))
          have l50 : w46 (17 * a + 86) 8 = w (17 * a + 86) 8 := f49 (17 * a + 86) 8 (by first | exact no_cd_0 (by omega) (by omega) | (unfold kMb; omega))
          have Q51 := kI.hm q q48T (e_fr.mono q48f (fun c k g => hm_kDs g))
          refine e_Ok.nrm (q := 64) (st' := []) rfl rfl ?_
          refine e_Ok.ps0 (q := 115) 1 rfl ?_
          refine e_Ok.rets rfl rfl ?_
          exact ⟨rfl, f49, q48T, ⟨Q51, q48x, Or.inl (by rw [q48f _ _ (by unfold kDs; omega)]; exact hst)⟩⟩
      · replace h17 : (w (17 * a + 86) 11 : Int) ≠ 0 := (show ¬ ((w (17 * a + 86) 11 : Int) = 0) from h17)
        refine e_Ok.ps2 (x := (0, 4)) (y := (1, 8)) (q := 43) 2 rfl ?_
        refine e_Ok.callV rfl (e_dq hd rfl) rfl rfl rfl rfl (c_46 hT (by omega) hk) (fun r52 w53 h54 => ?_)
        obtain ⟨rfl, q55f, q55T, q55x⟩ := h54
        have f56 : e_fr (kMb t a) w w53 := e_fr.trans (e_fr.refl w) (e_fr.mono q55f (fun c k q => by first | exact su_cd_6 q | (unfold kDs at q; unfold kMb; omega)))
        have l57 : w53 (17 * a + 86) 8 = w (17 * a + 86) 8 := f56 (17 * a + 86) 8 (by first | exact no_cd_0 (by omega) (by omega) | (unfold kMb; omega))
        have Q58 := kI.hm q q55T (e_fr.mono q55f (fun c k g => hm_kDs g))
        refine e_Ok.nrm (q := 46) (st' := []) rfl rfl ?_
        refine e_Ok.ps0 (q := 115) 1 rfl ?_
        refine e_Ok.rets rfl rfl ?_
        exact ⟨rfl, f56, q55T, ⟨Q58, q55x, Or.inl (by rw [q55f _ _ (by unfold kDs; omega)]; exact hst)⟩⟩
    · replace h15 : (z14 : Int) = 0 := Classical.not_not.mp (show ¬ ((z14 : Int) ≠ 0) from h15)
      refine e_Ok.ps2 (x := (0, 3)) (y := (1, 8)) (q := 28) 2 rfl ?_
      refine e_Ok.callV rfl (e_dq hd rfl) rfl rfl rfl rfl (c_46 hT (by omega) hk) (fun r59 w60 h61 => ?_)
      obtain ⟨rfl, q62f, q62T, q62x⟩ := h61
      have f63 : e_fr (kMb t a) w w60 := e_fr.trans (e_fr.refl w) (e_fr.mono q62f (fun c k q => by first | exact su_cd_6 q | (unfold kDs at q; unfold kMb; omega)))
      have l64 : w60 (17 * a + 86) 8 = w (17 * a + 86) 8 := f63 (17 * a + 86) 8 (by first | exact no_cd_0 (by omega) (by omega) | (unfold kMb; omega))
      have Q65 := kI.hm q q62T (e_fr.mono q62f (fun c k g => hm_kDs g))
      refine e_Ok.nrm (q := 31) (st' := []) rfl rfl ?_
      refine e_Ok.ps0 (q := 115) 1 rfl ?_
      refine e_Ok.rets rfl rfl ?_
      exact ⟨rfl, f63, q62T, ⟨Q65, q62x, Or.inl (by rw [q62f _ _ (by unfold kDs; omega)]; exact hst)⟩⟩
end
end
-- part ce
section
noncomputable section
/-! the class: tasks begin; parts are gripped and dropped -/
theorem lh_kLg {c k : Int} (g : kLg c k) : kLh c k := Or.inr g
theorem c_36 {d : Nat} {w : eW} (hT : e_Has kTy w) : e_Ok 20 elay kcode eI d 36 (0, [(0, (1, 8))], [], w) (fun r w' => ∃ z : Int, r = [(0, z)] ∧ w = w' ∧ ((-1) ≤ z ∧ z ≤ 15) ∧ (0 ≤ z → w (6 * z + 154) 1 = 0 ∨ w (6 * z + 154) 1 = 6)) := by
  refine e_Ok.run (t' := (2, [(1, (0, 0)), (0, (1, 8))], [], w)) 2 rfl ?_
  have hL1 : ∀ (nn : Nat) (y1 : Int), 0 ≤ y1 ∧ y1 ≤ 16 → 16 - y1 < nn → e_Ok 20 elay kcode eI d 36 (2, [(0, (1, 8)), (1, (0, y1))], [], w) (fun r w' => ∃ z : Int, r = [(0, z)] ∧ w = w' ∧ ((-1) ≤ z ∧ z ≤ 15) ∧ (0 ≤ z → w (6 * z + 154) 1 = 0 ∨ w (6 * z + 154) 1 = 6)) := by
    intro nn
    induction nn with
    | zero => intro y1 hj hm; obtain j3 := hj; exfalso; omega
    | succ nn ih2 =>
      intro y1 hj hm
      obtain j3 := hj
      refine e_Ok.run (t' := (5, [(0, (1, 8)), (1, (0, y1))], [(0, 16), (0, y1)], w)) 2 rfl ?_
      refine e_Ok.if2 rfl (fun h4 => ?_) (fun h4 => ?_)
      · replace h4 : (y1 : Int) ≥ 16 := h4
        refine e_Ok.ps1 (x := (0, (-1))) (q := 43) 1 rfl ?_
        refine e_Ok.rets rfl rfl ?_
        exact ⟨_, rfl, rfl, ⟨by omega, by omega⟩, by omega⟩
      · replace h4 : (y1 : Int) < 16 := Int.not_le.mp (show ¬ ((y1 : Int) ≥ 16) from h4)
        refine e_Ok.ps1 (x := (1, 8)) (q := 9) 1 rfl ?_
        refine e_Ok.getr (z := 82) rfl (el_o rfl) rfl rfl (e_Has.eq hT (kt_o rfl)) ⟨by decide, by decide⟩ ?_
        refine e_Ok.ps1 (x := (0, y1)) (q := 13) 1 rfl ?_
        refine e_Ok.aald (z := 6 * y1 + 154) rfl (el_o rfl) rfl (by omega) (Eq.trans (e_Has.eq hT (k82 (by omega))) (by omega)) (by omega) ?_
        have h5 := (e_Has.get hT (c := 6 * y1 + 154) (k := 1) (lo := 0) (hi := 7) (kT_1 (t := y1) (by omega) (by omega)) (by decide))
        refine e_Ok.getf (z := w (6 * y1 + 154) 1) rfl (lT0 (t := y1) (by omega) (by omega)) rfl rfl rfl (e_bq h5 (by decide) (by decide)) ?_
        refine e_Ok.if1 rfl (fun h6 => ?_) (fun h6 => ?_)
        · replace h6 : (w (6 * y1 + 154) 1 : Int) = 0 := h6
          refine e_Ok.ps1 (x := (0, y1)) (q := 35) 1 rfl ?_
          refine e_Ok.rets rfl rfl ?_
          exact ⟨_, rfl, rfl, ⟨by omega, by omega⟩, by omega⟩
        · replace h6 : (w (6 * y1 + 154) 1 : Int) ≠ 0 := (show ¬ ((w (6 * y1 + 154) 1 : Int) = 0) from h6)
          refine e_Ok.ps1 (x := (1, 8)) (q := 21) 1 rfl ?_
          refine e_Ok.getr (z := 82) rfl (el_o rfl) rfl rfl (e_Has.eq hT (kt_o rfl)) ⟨by decide, by decide⟩ ?_
          refine e_Ok.ps1 (x := (0, y1)) (q := 25) 1 rfl ?_
          refine e_Ok.aald (z := 6 * y1 + 154) rfl (el_o rfl) rfl (by omega) (Eq.trans (e_Has.eq hT (k82 (by omega))) (by omega)) (by omega) ?_
          refine e_Ok.getf (z := w (6 * y1 + 154) 1) rfl (lT0 (t := y1) (by omega) (by omega)) rfl rfl rfl (by omega) ?_
          refine e_Ok.ps1 (x := (0, 6)) (q := 31) 1 rfl ?_
          refine e_Ok.if2 rfl (fun h7 => ?_) (fun h7 => ?_)
          · replace h7 : (w (6 * y1 + 154) 1 : Int) ≠ 6 := h7
            refine e_Ok.inc (z := y1 + 1) rfl rfl (by first | with_reducible rfl | omega) (by omega) ?_
            show e_Ok 20 elay kcode eI d 36 (39, [(1, (0, y1 + 1)), (0, (1, 8))], [], w) _
            refine e_Ok.ps0 (q := 2) 1 rfl ?_
            refine e_Ok.sub kAlk (e_sub_of rfl ?_) (ih2 (y1 + 1) (by omega) (by omega))
            exact ⟨rfl, rfl, trivial⟩
          · replace h7 : (w (6 * y1 + 154) 1 : Int) = 6 := Classical.not_not.mp (show ¬ ((w (6 * y1 + 154) 1 : Int) ≠ 6) from h7)
            refine e_Ok.ps1 (x := (0, y1)) (q := 35) 1 rfl ?_
            refine e_Ok.rets rfl rfl ?_
            exact ⟨_, rfl, rfl, ⟨by omega, by omega⟩, by omega⟩
  refine e_Ok.sub kAlk (e_sub_of rfl ?_) (hL1 (16 + 1 : Int).toNat 0 (by omega) (by omega))
  exact ⟨rfl, rfl, trivial⟩
theorem c_37 {d : Nat} (hd : 23 ≤ d) {w : eW} (hT : e_Has kTy w) {a n : Int} (ga : 0 ≤ a ∧ a ≤ 3) {OP OD CL : Int → Int → Int} {h t0 : Int} (q : kI w OP OD CL h t0) (h0 : 0 ≤ h) (hn : 0 ≤ n ∧ n < w (w (17 * a + 86) 7) 1) : e_Ok 20 elay kcode eI d 37 (0, [(0, (1, 8)), (1, (0, a)), (2, (0, n))], [], w) (fun r w' => ∃ z : Int, r = [(0, z)] ∧ e_Has kTy w' ∧ kI w' OP OD CL h t0 ∧ (-1 ≤ z ∧ z ≤ 15) ∧ ((z = -1 ∧ w' = w) ∨ (0 ≤ z ∧ (w (6 * z + 154) 1 = 0 ∨ w (6 * z + 154) 1 = 6) ∧ e_fr (kBg z) w w'))) := by
  obtain ⟨d, rfl⟩ : ∃ e, d = e + 1 := ⟨d - 1, by omega⟩
  have hco := q.co (a := a) (by omega) (by omega)
  have hcd := hco.1.1
  have hr := e_Has.get hT (c := w (17 * a + 86) 7) (k := 1) (lo := 0) (hi := 32) (kD_1 hcd) (by decide)
  have hen := hco.2.2.1 n (by omega) (by omega)
  clear hco
  generalize hcv : w (17 * a + 86) 7 = cd at *
  have hcd0 := hcd
  unfold isCd at hcd0
  refine e_Ok.ps1 (x := (1, 8)) (q := 1) 1 rfl ?_
  refine e_Ok.callV rfl (e_dq hd rfl) rfl rfl rfl rfl (c_36 hT) (fun r1 w2 h3 => ?_)
  obtain ⟨z5, rfl, rfl, q4r, q4x⟩ := h3
  refine e_Ok.nrm (q := 4) (st' := [(0, z5)]) rfl rfl ?_
  refine e_Ok.run (t' := (6, [(3, (0, z5)), (0, (1, 8)), (1, (0, a)), (2, (0, n))], [(0, z5)], w)) 2 rfl ?_
  refine e_Ok.if1 rfl (fun h6 => ?_) (fun h6 => ?_)
  · replace h6 : (z5 : Int) < 0 := h6
    refine e_Ok.ps1 (x := (0, z5)) (q := 41) 1 rfl ?_
    refine e_Ok.rets rfl rfl ?_
    exact ⟨_, rfl, hT, q, by omega, Or.inl ⟨by omega, rfl⟩⟩
  · replace h6 : (z5 : Int) ≥ 0 := Int.not_lt.mp (show ¬ ((z5 : Int) < 0) from h6)
    refine e_Ok.ps1 (x := (1, 8)) (q := 10) 1 rfl ?_
    refine e_Ok.getr (z := 82) rfl (el_o rfl) rfl rfl (e_Has.eq hT (kt_o rfl)) ⟨by decide, by decide⟩ ?_
    refine e_Ok.ps1 (x := (0, z5)) (q := 14) 1 rfl ?_
    refine e_Ok.aald (z := 6 * z5 + 154) rfl (el_o rfl) rfl (by omega) (Eq.trans (e_Has.eq hT (k82 (by omega))) (by omega)) (by omega) ?_
    refine e_Ok.ps2 (x := (1, 8)) (y := (0, a)) (q := 17) 2 rfl ?_
    refine e_Ok.getr (z := 9) rfl (el_o rfl) rfl rfl (e_Has.eq hT (kt_o rfl)) ⟨by decide, by decide⟩ ?_
    refine e_Ok.ps1 (x := (0, a)) (q := 21) 1 rfl ?_
    refine e_Ok.aald (z := 17 * a + 86) rfl (el_o rfl) rfl (by omega) (Eq.trans (e_Has.eq hT (k9 (by omega))) (by omega)) (by omega) ?_
    refine e_Ok.getr (z := cd) rfl (lA0 (a := a) rfl ga) rfl rfl hcv (by omega) ?_
    refine e_Ok.getr (z := cd + 1) rfl (lD0 hcd) rfl rfl (Eq.trans (e_Has.eq hT (kD_3 hcd)) (by omega)) (by omega) ?_
    refine e_Ok.ps1 (x := (0, n)) (q := 29) 1 rfl ?_
    have h7 := (e_Has.get hT (c := cd + 1) (k := n) (lo := (-2147483648)) (hi := 2147483647) (kD1 (d := cd) _ (by omega) hcd) (by decide))
    refine e_Ok.ald (z := w (cd + 1) n) rfl (lD1 (d := cd) (by omega) hcd) rfl (by omega) rfl (e_bq h7 (by decide) (by decide)) ?_
    refine e_Ok.ps1 (x := (1, 8)) (q := 31) 1 rfl ?_
    refine e_Ok.getr (z := 74) rfl (el_o rfl) rfl rfl (e_Has.eq hT (kt_o rfl)) ⟨by decide, by decide⟩ ?_
    have h8 := (e_Has.get hT (c := 74) (k := 0) (lo := 0) (hi := 6000) (kt_o rfl) (by decide))
    refine e_Ok.getf (z := w 74 0) rfl (el_o rfl) rfl rfl rfl (e_bq h8 (by decide) (by decide)) ?_
    refine e_Ok.callV rfl (e_dq hd rfl) rfl (lT0 (t := z5) (by omega) (by omega)) rfl rfl (c_180 (e_dq hd rfl) (t := z5) (op := OP a) hT (by omega) (by omega) (by omega) (by omega)) (fun r9 w10 h11 => ?_)
    obtain ⟨rfl, q12f, q12T, q12s, q12v, q12f4, q12f3⟩ := h11
    refine e_Ok.nrm (q := 40) (st' := []) rfl rfl ?_
    refine e_Ok.ps1 (x := (0, z5)) (q := 41) 1 rfl ?_
    refine e_Ok.rets rfl rfl ?_
    exact ⟨_, rfl, q12T, kI.beg q q12T (by omega) h0 (by omega) q12f q12v.2.1 q12v.1 q12v.2.2.2.2 q12s (by rw [q12f3]; exact hen), by omega, Or.inr ⟨by omega, by omega, q12f⟩⟩
theorem no_ce_0 {k : Int} : ¬ kFl 8 k := by unfold kFl; omega
theorem no_ce_1 {k : Int} : ¬ kFl 19 k := by unfold kFl; omega
theorem no_ce_2 {k : Int} : ¬ kFl 38 k := by unfold kFl; omega
theorem su_ce_3 {a : Int} {c k : Int} (q : kDs c k) : kGd a c k := by
  unfold kDs at q
  rcases q with ⟨q, (q | q | q)⟩ | q
  · exact Or.inl ⟨(by omega), Or.inl (by omega)⟩
  · exact Or.inl ⟨(by omega), Or.inr (Or.inl (by omega))⟩
  · exact Or.inl ⟨(by omega), Or.inr (Or.inr (by omega))⟩
  · exact Or.inr (Or.inl (by omega))
theorem su_ce_4 {a : Int} {c k : Int} (q : kFl c k) : kGd a c k := by
  unfold kFl at q
  rcases q with ⟨q, q⟩ | q | q
  · exact Or.inr (Or.inr (Or.inr (Or.inr (Or.inl ⟨(by omega), (by omega)⟩))))
  · exact Or.inr (Or.inr (Or.inr (Or.inr (Or.inr (Or.inl (by omega))))))
  · exact Or.inr (Or.inr (Or.inr (Or.inr (Or.inr (Or.inr (Or.inl (by omega)))))))
theorem su_ce_5 {a : Int} {c k : Int} (q : kLg c k) : kGd a c k := by
  unfold kLg at q
  rcases q with ⟨q, q⟩ | q
  · exact Or.inr (Or.inr (Or.inl ⟨(by omega), Or.inl (by omega)⟩))
  · exact Or.inr (Or.inr (Or.inr (Or.inl (by omega))))
theorem su_ce_6 {a : Int} {c k : Int} (q : kMv c k) : kGd a c k := by
  unfold kMv at q
  rcases q with ⟨(q | q | q | q), q⟩ | ⟨q, q⟩
  · exact Or.inr (Or.inr (Or.inr (Or.inr (Or.inr (Or.inr (Or.inr (Or.inl ⟨Or.inl (by omega), (by omega)⟩)))))))
  · exact Or.inr (Or.inr (Or.inr (Or.inr (Or.inr (Or.inr (Or.inr (Or.inl ⟨Or.inr (Or.inl (by omega)), (by omega)⟩)))))))
  · exact Or.inr (Or.inr (Or.inr (Or.inr (Or.inr (Or.inr (Or.inr (Or.inl ⟨Or.inr (Or.inr (Or.inl (by omega))), (by omega)⟩)))))))
  · exact Or.inr (Or.inr (Or.inr (Or.inr (Or.inr (Or.inr (Or.inr (Or.inl ⟨Or.inr (Or.inr (Or.inr (by omega))), (by omega)⟩)))))))
  · exact Or.inr (Or.inr (Or.inl ⟨(by omega), Or.inr (by omega)⟩))
theorem c_68 {d : Nat} (hd : 23 ≤ d) {w : eW} (hT : e_Has kTy w) {a : Int} (g_a : 0 ≤ a ∧ a ≤ 3) {OP OD CL : Int → Int → Int} {h t0 : Int} (q : kI w OP OD CL h t0) (hk : sK w) (he : w 74 1 < 2147483647) : e_Ok 20 elay kcode eI d 68 (0, [(0, (1, 8)), (1, (0, a))], [], w) (fun r w' => r = [] ∧ e_fr (kGd a) w w' ∧ e_Has kTy w' ∧ (kI w' OP OD CL h t0 ∧ sK w' ∧ w 74 1 ≤ w' 74 1 ∧ w' 74 1 ≤ w 74 1 + 1)) := by
  obtain ⟨d, rfl⟩ : ∃ e, d = e + 1 := ⟨d - 1, by omega⟩
  have h74 := e_Has.get hT (c := 74) (k := 1) (lo := 0) (hi := 2147483647) (kt_o rfl) (by decide)
  have hB0 := e_Has.get hT (c := 19) (k := 0) (lo := 0) (hi := 4) (kt_o rfl) (by decide)
  have hM0 := e_Has.get hT (c := 19) (k := 1) (lo := 0) (hi := 32) (kt_o rfl) (by decide)
  have hjn := kn_joints hT (a := a) (by omega)
  refine e_Ok.ps1 (x := (1, 8)) (q := 1) 1 rfl ?_
  refine e_Ok.getr (z := 9) rfl (el_o rfl) rfl rfl (e_Has.eq hT (kt_o rfl)) ⟨by decide, by decide⟩ ?_
  refine e_Ok.ps1 (x := (0, a)) (q := 5) 1 rfl ?_
  refine e_Ok.aald (z := 17 * a + 86) rfl (el_o rfl) rfl (by omega) (Eq.trans (e_Has.eq hT (k9 (by omega))) (by omega)) (by omega) ?_
  refine e_Ok.run (t' := (10, [(3, (0, (-1))), (2, (1, 17 * a + 86)), (0, (1, 8)), (1, (0, a))], [(1, 17 * a + 86)], w)) 4 rfl ?_
  have h1 := (e_Has.get hT (c := 17 * a + 86) (k := 14) (lo := (-1)) (hi := 31) (kA_14 (a := a) rfl g_a) (by decide))
  refine e_Ok.getf (z := w (17 * a + 86) 14) rfl (lA0 (a := a) rfl g_a) rfl rfl rfl (e_bq h1 (by decide) (by decide)) ?_
  refine e_Ok.if1 rfl (fun h2 => ?_) (fun h2 => ?_)
  · replace h2 : (w (17 * a + 86) 14 : Int) ≥ 0 := h2
    refine e_Ok.ps1 (x := (0, (-1))) (q := 47) 1 rfl ?_
    refine e_Ok.if1 rfl (fun h3 => ?_) (fun h3 => ?_)
    · replace h3 : ((-1) : Int) ≥ 0 := h3
      exfalso; omega
    · replace h3 : ((-1) : Int) < 0 := Int.not_le.mp (show ¬ (((-1) : Int) ≥ 0) from h3)
      refine e_Ok.ps2 (x := (0, 7)) (y := (1, 8)) (q := 53) 2 rfl ?_
      refine e_Ok.callV rfl (e_dq hd rfl) rfl rfl rfl rfl (c_46 hT (by omega) hk) (fun r4 w5 h6 => ?_)
      obtain ⟨rfl, q7f, q7T, q7x⟩ := h6
      have Q9 := kI.hm q q7T (e_fr.mono q7f (fun c k g => hm_kDs g))
      refine e_Ok.nrm (q := 56) (st' := []) rfl rfl ?_
      refine e_Ok.rets rfl rfl ?_
      exact ⟨rfl, (show e_fr (kGd a) w w5 from e_fr.trans (e_fr.refl w) (e_fr.mono q7f (fun c k q => by first | exact su_ce_3 q | (unfold kDs at q; unfold kGd; omega)))), q7T, ⟨Q9, q7x, by rw [q7f _ _ (by unfold kDs; omega)]; omega⟩⟩
  · replace h2 : (w (17 * a + 86) 14 : Int) < 0 := Int.not_le.mp (show ¬ ((w (17 * a + 86) 14 : Int) ≥ 0) from h2)
    refine e_Ok.ps1 (x := (1, 8)) (q := 17) 1 rfl ?_
    refine e_Ok.getr (z := 19) rfl (el_o rfl) rfl rfl (e_Has.eq hT (kt_o rfl)) ⟨by decide, by decide⟩ ?_
    refine e_Ok.ps1 (x := (1, 17 * a + 86)) (q := 21) 1 rfl ?_
    refine e_Ok.getr (z := 17 * a + 88) rfl (lA0 (a := a) rfl g_a) rfl rfl (Eq.trans (e_Has.eq hT (kA_1 (a := a) rfl g_a)) (by omega)) (by omega) ?_
    refine e_Ok.ps1 (x := (1, 17 * a + 86)) (q := 25) 1 rfl ?_
    have h10 := (e_Has.get hT (c := 17 * a + 86) (k := 8) (lo := 0) (hi := 6) (kA_8 (a := a) rfl g_a) (by decide))
    refine e_Ok.getf (z := w (17 * a + 86) 8) rfl (lA0 (a := a) rfl g_a) rfl rfl rfl (e_bq h10 (by decide) (by decide)) ?_
    have h11 := ((q.arm (a := a) (by omega) (by omega)).1.1 (w (17 * a + 86) 8) (by omega) (by omega))
    refine e_Ok.ald (z := w (17 * a + 88) (w (17 * a + 86) 8)) rfl (lA2 (a := a) rfl g_a) rfl (by omega) rfl (by omega) ?_
    refine e_Ok.ps1 (x := (1, 17 * a + 86)) (q := 30) 1 rfl ?_
    refine e_Ok.getr (z := 17 * a + 89) rfl (lA0 (a := a) rfl g_a) rfl rfl (Eq.trans (e_Has.eq hT (kA_2 (a := a) rfl g_a)) (by omega)) (by omega) ?_
    refine e_Ok.ps1 (x := (1, 17 * a + 86)) (q := 34) 1 rfl ?_
    refine e_Ok.getf (z := w (17 * a + 86) 8) rfl (lA0 (a := a) rfl g_a) rfl rfl rfl (by omega) ?_
    have h12 := ((q.arm (a := a) (by omega) (by omega)).1.2 (w (17 * a + 86) 8) (by omega) (by omega))
    refine e_Ok.ald (z := w (17 * a + 89) (w (17 * a + 86) 8)) rfl (lA3 (a := a) rfl g_a) rfl (by omega) rfl (by omega) ?_
    refine e_Ok.ps1 (x := (1, 17 * a + 86)) (q := 39) 1 rfl ?_
    have h13 := (e_Has.get hT (c := 17 * a + 86) (k := 10) (lo := (-2147483648)) (hi := 2147483647) (kA_10 (a := a) rfl g_a) (by decide))
    refine e_Ok.getf (z := w (17 * a + 86) 10) rfl (lA0 (a := a) rfl g_a) rfl rfl rfl (e_bq h13 (by decide) (by decide)) ?_
    refine e_Ok.callV rfl (e_dq hd rfl) rfl rfl rfl rfl (c_83 (e_dq hd rfl) hT (by omega) (by omega) (by omega) q.fk) (fun r14 w15 h16 => ?_)
    obtain ⟨z18, rfl, rfl, q17r, q17x⟩ := h16
    refine e_Ok.nrm (q := 45) (st' := [(0, z18)]) rfl rfl ?_
    refine e_Ok.run (t' := (47, [(3, (0, z18)), (2, (1, 17 * a + 86)), (0, (1, 8)), (1, (0, a))], [(0, z18)], w)) 2 rfl ?_
    refine e_Ok.if1 rfl (fun h19 => ?_) (fun h19 => ?_)
    · replace h19 : (z18 : Int) ≥ 0 := h19
      refine e_Ok.ps1 (x := (1, 8)) (q := 58) 1 rfl ?_
      refine e_Ok.getr (z := 19) rfl (el_o rfl) rfl rfl (e_Has.eq hT (kt_o rfl)) ⟨by decide, by decide⟩ ?_
      refine e_Ok.ps2 (x := (0, z18)) (y := (0, a)) (q := 63) 2 rfl ?_
      refine e_Ok.callV rfl (e_dq hd rfl) rfl rfl rfl rfl (c_84 hT (by omega) (by omega) q.fk (by omega) (by omega)) (fun r20 w21 h22 => ?_)
      obtain ⟨rfl, q23f, q23T, q23x⟩ := h22
      refine e_Ok.nrm (q := 66) (st' := []) rfl rfl ?_
      refine e_Ok.ps2 (x := (0, z18)) (y := (1, 17 * a + 86)) (q := 68) 2 rfl ?_
      refine e_Ok.putf rfl (lA0 (a := a) rfl g_a) rfl rfl ?_
      generalize hw25 : e_up w21 (17 * a + 86) 14 z18 = w25
      have hT27 : e_Has kTy w25 := e_Has.upr q23T hw25 (kA_14 (a := a) rfl g_a) (by omega)
      refine e_Ok.ps2 (x := (1, 8)) (y := (1, 17 * a + 86)) (q := 73) 2 rfl ?_
      refine e_Ok.getr (z := 19) rfl (el_o rfl) rfl rfl (e_uq hw25 (Or.inr (by decide)) ((q23f 8 2 no_ce_0).trans (e_Has.eq hT (kt_o rfl)))) ⟨by decide, by decide⟩ ?_
      refine e_Ok.getr (z := 38) rfl (el_o rfl) rfl rfl (e_uq hw25 (Or.inr (by decide)) ((q23f 19 16 no_ce_1).trans (e_Has.eq hT (kt_o rfl)))) ⟨by decide, by decide⟩ ?_
      refine e_Ok.ps1 (x := (0, z18)) (q := 80) 1 rfl ?_
      have h28 := (e_Has.get hT (c := 38) (k := z18) (lo := (-2147483648)) (hi := 2147483647) (kt_o rfl) (by decide))
      refine e_Ok.ald (z := w 38 z18) rfl (el_o rfl) rfl (by omega) (e_uq hw25 (Or.inl (by omega)) ((q23f 38 z18 no_ce_2).trans rfl)) (e_bq h28 (by decide) (by decide)) ?_
      refine e_Ok.putf rfl (lA0 (a := a) rfl g_a) rfl rfl ?_
      generalize hw29 : e_up w25 (17 * a + 86) 15 (w 38 z18) = w29
      have hT31 : e_Has kTy w29 := e_Has.upr hT27 hw29 (kA_15 (a := a) rfl g_a) (by omega)
      refine e_Ok.ps1 (x := (1, 8)) (q := 85) 1 rfl ?_
      refine e_Ok.getr (z := 74) rfl (el_o rfl) rfl rfl (e_uq hw29 (Or.inr (by decide)) (e_uq hw25 (Or.inr (by decide)) ((q23f 8 3 no_ce_0).trans (e_Has.eq hT (kt_o rfl))))) ⟨by decide, by decide⟩ ?_
      refine e_Ok.ps3 (x := (0, z18)) (y := (0, a)) (z := (0, 6)) (q := 92) 3 rfl ?_
      refine e_Ok.callV rfl (e_dq hd rfl) rfl rfl rfl rfl (c_27 hT31 (by omega) (by omega) (by omega) (by rw [← hw29, e_up_ne _ _ (by omega), ← hw25, e_up_ne _ _ (by omega), q23f _ _ (by unfold kFl; omega)]; omega)) (fun r32 w33 h34 => ?_)
      obtain ⟨rfl, q35f, q35T, q35x⟩ := h34
      refine e_Ok.nrm (q := 95) (st' := []) rfl rfl ?_
      refine e_Ok.ps2 (x := (0, (-1))) (y := (1, 8)) (q := 97) 2 rfl ?_
      refine e_Ok.callV rfl (e_dq hd rfl) rfl rfl rfl rfl (c_39 q35T (by omega)) (fun r37 w38 h40 => ?_)
      obtain ⟨rfl, q41f, q41T, q41x⟩ := h40
      refine e_Ok.nrm (q := 100) (st' := []) rfl rfl ?_
      refine e_Ok.rets rfl rfl ?_
      have ew : ∀ c k, ¬ (c = 17 * a + 86 ∧ (k = 14 ∨ k = 15)) → w29 c k = w21 c k := fun c k g => by rw [← hw29, e_up_ne _ _ (by omega), ← hw25, e_up_ne _ _ (by omega)]
      have ew0 : ∀ c k, ¬ (c = 17 * a + 86 ∧ (k = 14 ∨ k = 15)) → ¬ kFl c k → w29 c k = w c k := fun c k g1 g2 => (ew c k g1).trans (q23f c k g2)
      have eh : w29 (17 * a + 86) 14 = z18 := (e_uq hw29 (Or.inr (by decide)) (e_ue hw25))
      have hF : fK w29 := fK.fr (S := fun c k => c = 17 * a + 86 ∧ (k = 14 ∨ k = 15)) (fun c k g => ew c k g) (fun c k g1 g2 => by omega) (fun k => by omega) (by omega) (by rw [q23f _ _ (by unfold kFl; omega)]; omega) q23x.1
      have hH := aH.grip (a := a) (p := z18) (by omega) (by omega) (by omega) (ew0 _ _ (by omega) (by unfold kFl; omega)) ((ew _ _ (by omega)).trans q23x.2.1) (fun i g => (ew _ _ (by omega)).trans (q23x.2.2 i g)) eh (fun b g1 g2 g3 => ew0 _ _ (by omega) (by unfold kFl; omega)) (fun b g1 g2 => (q.arm g1 g2).2.2.2.2.1)
      have Q1 : kI w29 OP OD CL h t0 := kI.fl q hT31 (a := a) (by omega) (fun c k g => ew0 c k (fun g2 => g (by unfold kFh; omega)) (fun g2 => g (by unfold kFl at g2; unfold kFh; omega))) hF hH
      have Q2 := kI.lg Q1 q35T (e_fr.mono q35f (fun c k g => lh_kLg g)) (q35x.2 Q1.lgk)
      have Q3 := kI.stale Q2 q41T q41f q41x
      have e74 : w38 74 1 = w 74 1 + 1 := by rw [q41f _ _ (by unfold kMv; omega), q35x.1, ew0 _ _ (by omega) (by unfold kFl; omega)]
      exact ⟨rfl, (show e_fr (kGd a) w w38 from e_fr.trans (show e_fr (kGd a) w w33 from e_fr.trans (show e_fr (kGd a) w w29 from e_fr.up (show e_fr (kGd a) w w25 from e_fr.up (show e_fr (kGd a) w w21 from e_fr.trans (e_fr.refl w) (e_fr.mono q23f (fun c k q => by first | exact su_ce_4 q | (unfold kFl at q; unfold kGd; omega)))) hw25 (by first | exact Or.inr (Or.inr (Or.inr (Or.inr (Or.inr (Or.inr (Or.inr (Or.inr ⟨(by omega), Or.inl rfl⟩))))))) | (unfold kGd; omega))) hw29 (by first | exact Or.inr (Or.inr (Or.inr (Or.inr (Or.inr (Or.inr (Or.inr (Or.inr ⟨(by omega), Or.inr rfl⟩))))))) | (unfold kGd; omega))) (e_fr.mono q35f (fun c k q => by first | exact su_ce_5 q | (unfold kLg at q; unfold kGd; omega)))) (e_fr.mono q41f (fun c k q => by first | exact su_ce_6 q | (unfold kMv at q; unfold kGd; omega)))), q41T, ⟨Q3, (sK.fr q41f (by unfold kMv; omega) (fun k => by unfold kMv; omega) (sK.fr q35f (by unfold kLg; omega) (fun k => by unfold kLg; omega) (sK.eq (fun c k g => ew0 c k (by omega) (by unfold kFl; omega)) hk))), by omega⟩⟩
    · replace h19 : (z18 : Int) < 0 := Int.not_le.mp (show ¬ ((z18 : Int) ≥ 0) from h19)
      refine e_Ok.ps2 (x := (0, 7)) (y := (1, 8)) (q := 53) 2 rfl ?_
      refine e_Ok.callV rfl (e_dq hd rfl) rfl rfl rfl rfl (c_46 hT (by omega) hk) (fun r43 w44 h45 => ?_)
      obtain ⟨rfl, q46f, q46T, q46x⟩ := h45
      have Q48 := kI.hm q q46T (e_fr.mono q46f (fun c k g => hm_kDs g))
      refine e_Ok.nrm (q := 56) (st' := []) rfl rfl ?_
      refine e_Ok.rets rfl rfl ?_
      exact ⟨rfl, (show e_fr (kGd a) w w44 from e_fr.trans (e_fr.refl w) (e_fr.mono q46f (fun c k q => by first | exact su_ce_3 q | (unfold kDs at q; unfold kGd; omega)))), q46T, ⟨Q48, q46x, by rw [q46f _ _ (by unfold kDs; omega)]; omega⟩⟩
theorem c_69 {d : Nat} (hd : 23 ≤ d) {w : eW} (hT : e_Has kTy w) {a : Int} (g_a : 0 ≤ a ∧ a ≤ 3) {OP OD CL : Int → Int → Int} {h t0 : Int} (q : kI w OP OD CL h t0) (hk : sK w) (he : w 74 1 < 2147483647) : e_Ok 20 elay kcode eI d 69 (0, [(0, (1, 8)), (1, (0, a))], [], w) (fun r w' => r = [] ∧ e_fr (kGd a) w w' ∧ e_Has kTy w' ∧ (kI w' OP OD CL h t0 ∧ sK w' ∧ w 74 1 ≤ w' 74 1 ∧ w' 74 1 ≤ w 74 1 + 1)) := by
  obtain ⟨d, rfl⟩ : ∃ e, d = e + 1 := ⟨d - 1, by omega⟩
  have h74 := e_Has.get hT (c := 74) (k := 1) (lo := 0) (hi := 2147483647) (kt_o rfl) (by decide)
  have hB0 := e_Has.get hT (c := 19) (k := 0) (lo := 0) (hi := 4) (kt_o rfl) (by decide)
  have hM0 := e_Has.get hT (c := 19) (k := 1) (lo := 0) (hi := 32) (kt_o rfl) (by decide)
  have hjn := kn_joints hT (a := a) (by omega)
  refine e_Ok.ps1 (x := (1, 8)) (q := 1) 1 rfl ?_
  refine e_Ok.getr (z := 9) rfl (el_o rfl) rfl rfl (e_Has.eq hT (kt_o rfl)) ⟨by decide, by decide⟩ ?_
  refine e_Ok.ps1 (x := (0, a)) (q := 5) 1 rfl ?_
  refine e_Ok.aald (z := 17 * a + 86) rfl (el_o rfl) rfl (by omega) (Eq.trans (e_Has.eq hT (k9 (by omega))) (by omega)) (by omega) ?_
  refine e_Ok.run (t' := (8, [(2, (1, 17 * a + 86)), (0, (1, 8)), (1, (0, a))], [(1, 17 * a + 86)], w)) 2 rfl ?_
  have h1 := (e_Has.get hT (c := 17 * a + 86) (k := 14) (lo := (-1)) (hi := 31) (kA_14 (a := a) rfl g_a) (by decide))
  refine e_Ok.getf (z := w (17 * a + 86) 14) rfl (lA0 (a := a) rfl g_a) rfl rfl rfl (e_bq h1 (by decide) (by decide)) ?_
  refine e_Ok.run (t' := (13, [(3, (0, w (17 * a + 86) 14)), (2, (1, 17 * a + 86)), (0, (1, 8)), (1, (0, a))], [(0, w (17 * a + 86) 14)], w)) 2 rfl ?_
  refine e_Ok.if1 rfl (fun h2 => ?_) (fun h2 => ?_)
  · replace h2 : (w (17 * a + 86) 14 : Int) ≥ 0 := h2
    have hh := (q.arm (a := a) (by omega) (by omega)).2.2.2.2.1 (by omega)
    have hn : ∀ b i, 0 ≤ b → b < w 19 0 → 0 ≤ i → i < w 35 b → w (b + 31) i ≠ w (17 * a + 86) 14 := fun b i g1 g2 g3 g4 e => by have := (q.fk.ord (b := b) (i := i) ⟨g1, g2⟩ ⟨g3, g4⟩).2; rw [e] at this; omega
    refine e_Ok.ps1 (x := (1, 8)) (q := 24) 1 rfl ?_
    refine e_Ok.getr (z := 19) rfl (el_o rfl) rfl rfl (e_Has.eq hT (kt_o rfl)) ⟨by decide, by decide⟩ ?_
    refine e_Ok.ps2 (x := (1, 17 * a + 86)) (y := (0, w (17 * a + 86) 14)) (q := 29) 2 rfl ?_
    refine e_Ok.getr (z := 17 * a + 88) rfl (lA0 (a := a) rfl g_a) rfl rfl (Eq.trans (e_Has.eq hT (kA_1 (a := a) rfl g_a)) (by omega)) (by omega) ?_
    refine e_Ok.ps1 (x := (1, 17 * a + 86)) (q := 33) 1 rfl ?_
    have h3 := (e_Has.get hT (c := 17 * a + 86) (k := 8) (lo := 0) (hi := 6) (kA_8 (a := a) rfl g_a) (by decide))
    refine e_Ok.getf (z := w (17 * a + 86) 8) rfl (lA0 (a := a) rfl g_a) rfl rfl rfl (e_bq h3 (by decide) (by decide)) ?_
    have h4 := ((q.arm (a := a) (by omega) (by omega)).1.1 (w (17 * a + 86) 8) (by omega) (by omega))
    refine e_Ok.ald (z := w (17 * a + 88) (w (17 * a + 86) 8)) rfl (lA2 (a := a) rfl g_a) rfl (by omega) rfl (by omega) ?_
    refine e_Ok.ps1 (x := (1, 17 * a + 86)) (q := 38) 1 rfl ?_
    refine e_Ok.getr (z := 17 * a + 89) rfl (lA0 (a := a) rfl g_a) rfl rfl (Eq.trans (e_Has.eq hT (kA_2 (a := a) rfl g_a)) (by omega)) (by omega) ?_
    refine e_Ok.ps1 (x := (1, 17 * a + 86)) (q := 42) 1 rfl ?_
    refine e_Ok.getf (z := w (17 * a + 86) 8) rfl (lA0 (a := a) rfl g_a) rfl rfl rfl (by omega) ?_
    have h5 := ((q.arm (a := a) (by omega) (by omega)).1.2 (w (17 * a + 86) 8) (by omega) (by omega))
    refine e_Ok.ald (z := w (17 * a + 89) (w (17 * a + 86) 8)) rfl (lA3 (a := a) rfl g_a) rfl (by omega) rfl (by omega) ?_
    refine e_Ok.callV rfl (e_dq hd rfl) rfl rfl rfl rfl (c_85 (e_dq hd rfl) hT (by omega) (by omega) (by omega) q.fk (by omega) hn) (fun r6 w7 h8 => ?_)
    obtain ⟨rfl, q9f, q9T, q9x⟩ := h8
    refine e_Ok.nrm (q := 49) (st' := []) rfl rfl ?_
    refine e_Ok.ps2 (x := (0, (-1))) (y := (1, 17 * a + 86)) (q := 51) 2 rfl ?_
    refine e_Ok.putf rfl (lA0 (a := a) rfl g_a) rfl rfl ?_
    generalize hw11 : e_up w7 (17 * a + 86) 14 (-1) = w11
    have hT13 : e_Has kTy w11 := e_Has.upr q9T hw11 (kA_14 (a := a) rfl g_a) (by omega)
    refine e_Ok.ps1 (x := (1, 8)) (q := 55) 1 rfl ?_
    refine e_Ok.getr (z := 74) rfl (el_o rfl) rfl rfl (e_uq hw11 (Or.inr (by decide)) ((q9f 8 3 no_ce_0).trans (e_Has.eq hT (kt_o rfl)))) ⟨by decide, by decide⟩ ?_
    refine e_Ok.ps3 (x := (0, w (17 * a + 86) 14)) (y := (0, a)) (z := (0, 7)) (q := 62) 3 rfl ?_
    refine e_Ok.callV rfl (e_dq hd rfl) rfl rfl rfl rfl (c_27 hT13 (by omega) (by omega) (by omega) (by rw [← hw11, e_up_ne _ _ (by omega), q9f _ _ (by unfold kFl; omega)]; omega)) (fun r14 w15 h16 => ?_)
    obtain ⟨rfl, q17f, q17T, q17x⟩ := h16
    refine e_Ok.nrm (q := 65) (st' := []) rfl rfl ?_
    refine e_Ok.ps2 (x := (0, (-1))) (y := (1, 8)) (q := 67) 2 rfl ?_
    refine e_Ok.callV rfl (e_dq hd rfl) rfl rfl rfl rfl (c_39 q17T (by omega)) (fun r19 w20 h21 => ?_)
    obtain ⟨rfl, q22f, q22T, q22x⟩ := h21
    refine e_Ok.nrm (q := 70) (st' := []) rfl rfl ?_
    refine e_Ok.rets rfl rfl ?_
    have ew : ∀ c k, ¬ (c = 17 * a + 86 ∧ (k = 14 ∨ k = 15)) → w11 c k = w7 c k := fun c k g => by rw [← hw11, e_up_ne _ _ (by omega)]
    have ew0 : ∀ c k, ¬ (c = 17 * a + 86 ∧ (k = 14 ∨ k = 15)) → ¬ kFl c k → w11 c k = w c k := fun c k g1 g2 => (ew c k g1).trans (q9f c k g2)
    have eh : w11 (17 * a + 86) 14 = (-1) := (e_ue hw11)
    have hF : fK w11 := fK.fr (S := fun c k => c = 17 * a + 86 ∧ (k = 14 ∨ k = 15)) (fun c k g => ew c k g) (fun c k g1 g2 => by omega) (fun k => by omega) (by omega) (by rw [q9f _ _ (by unfold kFl; omega)]; omega) q9x.1
    have hH := aH.drop (a := a) (by omega) rfl (by omega) (ew0 _ _ (by omega) (by unfold kFl; omega)) (fun i g => (ew _ _ (by omega)).trans (q9x.2 i g)) eh (fun b g1 g2 g3 => ew0 _ _ (by omega) (by unfold kFl; omega)) (fun b g1 g2 => (q.arm g1 g2).2.2.2.2.1)
    have Q1 : kI w11 OP OD CL h t0 := kI.fl q hT13 (a := a) (by omega) (fun c k g => ew0 c k (fun g2 => g (by unfold kFh; omega)) (fun g2 => g (by unfold kFl at g2; unfold kFh; omega))) hF hH
    have Q2 := kI.lg Q1 q17T (e_fr.mono q17f (fun c k g => lh_kLg g)) (q17x.2 Q1.lgk)
    have Q3 := kI.stale Q2 q22T q22f q22x
    have e74 : w20 74 1 = w 74 1 + 1 := by rw [q22f _ _ (by unfold kMv; omega), q17x.1, ew0 _ _ (by omega) (by unfold kFl; omega)]
    exact ⟨rfl, (show e_fr (kGd a) w w20 from e_fr.trans (show e_fr (kGd a) w w15 from e_fr.trans (show e_fr (kGd a) w w11 from e_fr.up (show e_fr (kGd a) w w7 from e_fr.trans (e_fr.refl w) (e_fr.mono q9f (fun c k q => by first | exact su_ce_4 q | (unfold kFl at q; unfold kGd; omega)))) hw11 (by first | exact Or.inr (Or.inr (Or.inr (Or.inr (Or.inr (Or.inr (Or.inr (Or.inr ⟨(by omega), Or.inl rfl⟩))))))) | (unfold kGd; omega))) (e_fr.mono q17f (fun c k q => by first | exact su_ce_5 q | (unfold kLg at q; unfold kGd; omega)))) (e_fr.mono q22f (fun c k q => by first | exact su_ce_6 q | (unfold kMv at q; unfold kGd; omega)))), q22T, ⟨Q3, (sK.fr q22f (by unfold kMv; omega) (fun k => by unfold kMv; omega) (sK.fr q17f (by unfold kLg; omega) (fun k => by unfold kLg; omega) (sK.eq (fun c k g => ew0 c k (by omega) (by unfold kFl; omega)) hk))), by omega⟩⟩
  · replace h2 : (w (17 * a + 86) 14 : Int) < 0 := Int.not_le.mp (show ¬ ((w (17 * a + 86) 14 : Int) ≥ 0) from h2)
    refine e_Ok.ps2 (x := (0, 7)) (y := (1, 8)) (q := 19) 2 rfl ?_
    refine e_Ok.callV rfl (e_dq hd rfl) rfl rfl rfl rfl (c_46 hT (by omega) hk) (fun r24 w25 h26 => ?_)
    obtain ⟨rfl, q27f, q27T, q27x⟩ := h26
    have Q29 := kI.hm q q27T (e_fr.mono q27f (fun c k g => hm_kDs g))
    refine e_Ok.nrm (q := 22) (st' := []) rfl rfl ?_
    refine e_Ok.rets rfl rfl ?_
    exact ⟨rfl, (show e_fr (kGd a) w w25 from e_fr.trans (e_fr.refl w) (e_fr.mono q27f (fun c k q => by first | exact su_ce_3 q | (unfold kDs at q; unfold kGd; omega)))), q27T, ⟨Q29, q27x, by rw [q27f _ _ (by unfold kDs; omega)]; omega⟩⟩
end
end
-- part cf
section
noncomputable section
/-! the class: turns begin; tasks end -/
def kGn (t : Int) (c k : Int) : Prop := (c = 8 ∧ (k = 8 ∨ k = 10 ∨ k = 11)) ∨ c = 84 ∨ (c = 6 * t + 154 ∧ (k = 1 ∨ k = 10))
def kFb (t a : Int) (c k : Int) : Prop := (c = 6 * t + 154 ∧ (k = 1 ∨ k = 4 ∨ k = 5 ∨ k = 15)) ∨ (154 ≤ c ∧ c ≤ 249 ∧ (c - 154) % 6 = 0 ∧ k = 10) ∨ (c = 74 ∧ k = 1) ∨ c = 75 ∨ c = 83 ∨ (c = 17 * a + 86 ∧ (k = 11 ∨ k = 13 ∨ k = 16 ∨ k = 18))
def kEl (t : Int) (c k : Int) : Prop := (c = 6 * t + 154 ∧ (k = 1 ∨ k = 4 ∨ k = 15)) ∨ (c = 74 ∧ k = 1) ∨ c = 75 ∨ c = 83
section Kf
variable {w w' : eW} {OP OD CL : Int → Int → Int} {h t0 : Int}
theorem hm_t {t k : Int} (ht : 0 ≤ t ∧ t ≤ 15) (hk : k = 5 ∨ k = 6 ∨ k = 7 ∨ k = 10 ∨ k = 14) : kHm (6 * t + 154) k := by
  unfold kHm
  have h1 : (6 * t + 154 - 154) % 6 = 0 := by omega
  have h2 : 154 ≤ 6 * t + 154 ∧ 6 * t + 154 ≤ 249 := by omega
  simp only [h1, h2.1, h2.2, hk, true_and, true_or, or_true]
theorem hm_a {a k : Int} (ha : 0 ≤ a ∧ a ≤ 3) (hk : k = 13 ∨ k = 15 ∨ k = 16) : kHm (17 * a + 86) k := by
  unfold kHm
  rcases c4 ha with rfl | rfl | rfl | rfl <;> simp [hk]
theorem kI.hu (q : kI w OP OD CL h t0) (hT : e_Has kTy w') {c k z : Int} (hw : e_up w c k z = w') (hk : kHm c k) : kI w' OP OD CL h t0 := q.hm hT (fun c' k' g => by
  rw [← hw]
  refine e_up_ne _ _ ?_
  by_cases e : c' = c
  · exact Or.inr (fun e2 => g (by rw [e, e2]; exact hk))
  · exact Or.inl e)
theorem kI.weak (q : kI w OP OD CL h t0) (hn : t0 < 0) {t : Int} : kI w OP OD CL h t := by
  obtain ⟨q1, q2, q3, q4, q5, q6, q7, q8, q9⟩ := q
  exact ⟨q1, q2, q3, q4, q5, q6, q7, q8, fun s g1 g2 => ⟨(q9 s g1 g2).1, fun k1 k2 => ⟨((q9 s g1 g2).2 k1 k2).1, fun _ => ((q9 s g1 g2).2 k1 k2).2 (by omega)⟩⟩⟩
theorem sK.init {w w1 w' : eW} (h1 : e_up w 8 11 0 = w1) (h2 : e_up w1 8 8 0 = w') : sK w' := by
  have e8 : w' 8 8 = 0 := by rw [← h2]; exact e_up_eq _ _ _ _
  have e11 : w' 8 11 = 0 := by rw [← h2, e_up_ne _ _ (by omega), ← h1]; exact e_up_eq _ _ _ _
  refine ⟨by rw [e8]; decide, fun i g1 g2 => by rw [e8] at g2; omega, by rw [e11]; decide, fun g => by rw [e11] at g; exact absurd g (by decide)⟩
/-- a task ends -/
theorem kI.fin {t : Int} (q : kI w OP OD CL h t) (hT : e_Has kTy w') (ht : 0 ≤ t ∧ t ≤ 15) (hA : 0 ≤ w (6 * t + 154) 2 ∧ w (6 * t + 154) 2 ≤ 3) (f : e_fr (kFi t) w w') (h1 : 5 < w' (6 * t + 154) 1) : kI w' OP OD CL h t :=
  kI.tg q hT ht (f.mono (fun c k g => Or.inr (by unfold kFi at g; omega))) (f _ _ (by unfold kFi; omega)) hA ⟨fun _ g => by omega, fun g => by omega, fun g => by omega⟩ (fun _ g => by omega)
end Kf
theorem th_kGn {t c k : Int} (g : kGn t c k) : kTh t c k := by
  unfold kGn at g
  rcases g with g | g | g
  · exact Or.inl (hm_kDs (Or.inl g))
  · exact Or.inl (hm_kDs (Or.inr g))
  · exact Or.inr (by omega)
theorem c_42 {d : Nat} (hd : 21 ≤ d) {w : eW} (hT : e_Has kTy w) {t : Int} (g_t : 0 ≤ t ∧ t ≤ 15) {OP OD CL : Int → Int → Int} {h t0 : Int} (q : kI w OP OD CL h t0) : e_Ok 20 elay kcode eI d 42 (0, [(0, (1, 8)), (1, (0, t))], [], w) (fun r w' => ∃ z : Int, r = [(0, z)] ∧ w = w' ∧ (0 ≤ z ∧ z ≤ 1) ∧ (z = 1 → 1 ≤ w (6 * t + 154) 1 ∧ w (6 * t + 154) 1 ≤ 5)) := by
  obtain ⟨d, rfl⟩ : ∃ e, d = e + 1 := ⟨d - 1, by omega⟩
  refine e_Ok.ps1 (x := (1, 8)) (q := 1) 1 rfl ?_
  refine e_Ok.getr (z := 82) rfl (el_o rfl) rfl rfl (e_Has.eq hT (kt_o rfl)) ⟨by decide, by decide⟩ ?_
  refine e_Ok.ps1 (x := (0, t)) (q := 5) 1 rfl ?_
  refine e_Ok.aald (z := 6 * t + 154) rfl (el_o rfl) rfl (by omega) (Eq.trans (e_Has.eq hT (k82 (by omega))) (by omega)) (by omega) ?_
  have h1 := (e_Has.get hT (c := 6 * t + 154) (k := 1) (lo := 0) (hi := 7) (kT_1 (t := t) rfl g_t) (by decide))
  refine e_Ok.getf (z := w (6 * t + 154) 1) rfl (lT0 (t := t) rfl g_t) rfl rfl rfl (e_bq h1 (by decide) (by decide)) ?_
  refine e_Ok.ps2 (x := (0, 5)) (y := (0, 1)) (q := 11) 2 rfl ?_
  refine e_Ok.callS rfl (e_dq hd rfl) rfl rfl (c_242 (by omega) (by omega) (by omega)) (fun r2 w3 h4 => ?_)
  obtain ⟨z5, rfl, rfl, q6⟩ := h4
  obtain ⟨rfl, q6⟩ | ⟨rfl, q6⟩ := q6
  · refine e_Ok.nrm (q := 14) (st' := [(0, 1)]) rfl rfl ?_
    refine e_Ok.if1 rfl (fun h7 => ?_) (fun h7 => ?_)
    · replace h7 : (1 : Int) ≠ 0 := h7
      refine e_Ok.ps1 (x := (1, 8)) (q := 20) 1 rfl ?_
      refine e_Ok.getr (z := 82) rfl (el_o rfl) rfl rfl (e_Has.eq hT (kt_o rfl)) ⟨by decide, by decide⟩ ?_
      refine e_Ok.ps1 (x := (0, t)) (q := 24) 1 rfl ?_
      refine e_Ok.aald (z := 6 * t + 154) rfl (el_o rfl) rfl (by omega) (Eq.trans (e_Has.eq hT (k82 (by omega))) (by omega)) (by omega) ?_
      have h8 := (e_Has.get hT (c := 6 * t + 154) (k := 7) (lo := (-2147483648)) (hi := 2147483647) (kT_7 (t := t) rfl g_t) (by decide))
      refine e_Ok.getf (z := w (6 * t + 154) 7) rfl (lT0 (t := t) rfl g_t) rfl rfl rfl (e_bq h8 (by decide) (by decide)) ?_
      refine e_Ok.ps1 (x := (1, 8)) (q := 29) 1 rfl ?_
      refine e_Ok.getr (z := 74) rfl (el_o rfl) rfl rfl (e_Has.eq hT (kt_o rfl)) ⟨by decide, by decide⟩ ?_
      have h9 := (e_Has.get hT (c := 74) (k := 0) (lo := 0) (hi := 6000) (kt_o rfl) (by decide))
      refine e_Ok.getf (z := w 74 0) rfl (el_o rfl) rfl rfl rfl (e_bq h9 (by decide) (by decide)) ?_
      refine e_Ok.if2 rfl (fun h10 => ?_) (fun h10 => ?_)
      · replace h10 : (w (6 * t + 154) 7 : Int) = w 74 0 := h10
        refine e_Ok.ps1 (x := (0, 0)) (q := 63) 1 rfl ?_
        refine e_Ok.rets rfl rfl ?_
        exact ⟨_, rfl, rfl, ⟨by omega, by omega⟩, by omega⟩
      · replace h10 : (w (6 * t + 154) 7 : Int) ≠ w 74 0 := (show ¬ ((w (6 * t + 154) 7 : Int) = w 74 0) from h10)
        have hac0 := (q.ts (t := t) (by omega) (by omega)).1.1 (by omega) (by omega)
        have h2 := e_Has.get hT (c := 6 * t + 154) (k := 2) (lo := -1) (hi := 3) (kT_2 (t := t) rfl (by omega)) (by decide)
        refine e_Ok.ps1 (x := (1, 8)) (q := 39) 1 rfl ?_
        refine e_Ok.getr (z := 9) rfl (el_o rfl) rfl rfl (e_Has.eq hT (kt_o rfl)) ⟨by decide, by decide⟩ ?_
        refine e_Ok.ps1 (x := (1, 8)) (q := 43) 1 rfl ?_
        refine e_Ok.getr (z := 82) rfl (el_o rfl) rfl rfl (e_Has.eq hT (kt_o rfl)) ⟨by decide, by decide⟩ ?_
        refine e_Ok.ps1 (x := (0, t)) (q := 47) 1 rfl ?_
        refine e_Ok.aald (z := 6 * t + 154) rfl (el_o rfl) rfl (by omega) (Eq.trans (e_Has.eq hT (k82 (by omega))) (by omega)) (by omega) ?_
        refine e_Ok.getf (z := w (6 * t + 154) 2) rfl (lT0 (t := t) rfl g_t) rfl rfl rfl (by omega) ?_
        refine e_Ok.aald (z := 17 * w (6 * t + 154) 2 + 86) rfl (el_o rfl) rfl (by omega) (Eq.trans (e_Has.eq hT (k9 (by omega))) (by omega)) (by omega) ?_
        have h11 := (e_Has.get hT (c := 17 * w (6 * t + 154) 2 + 86) (k := 16) (lo := (-1)) (hi := 15) (kA_16 (a := (w (6 * t + 154) 2)) (by omega) (by omega)) (by decide))
        refine e_Ok.getf (z := w (17 * w (6 * t + 154) 2 + 86) 16) rfl (lA0 (a := (w (6 * t + 154) 2)) (by omega) (by omega)) rfl rfl rfl (e_bq h11 (by decide) (by decide)) ?_
        refine e_Ok.if1 rfl (fun h12 => ?_) (fun h12 => ?_)
        · replace h12 : (w (17 * w (6 * t + 154) 2 + 86) 16 : Int) ≥ 0 := h12
          refine e_Ok.ps1 (x := (0, 0)) (q := 63) 1 rfl ?_
          refine e_Ok.rets rfl rfl ?_
          exact ⟨_, rfl, rfl, ⟨by omega, by omega⟩, by omega⟩
        · replace h12 : (w (17 * w (6 * t + 154) 2 + 86) 16 : Int) < 0 := Int.not_le.mp (show ¬ ((w (17 * w (6 * t + 154) 2 + 86) 16 : Int) ≥ 0) from h12)
          refine e_Ok.ps1 (x := (0, 1)) (q := 63) 2 rfl ?_
          refine e_Ok.rets rfl rfl ?_
          exact ⟨_, rfl, rfl, ⟨by omega, by omega⟩, by omega⟩
    · replace h7 : (1 : Int) = 0 := Classical.not_not.mp (show ¬ ((1 : Int) ≠ 0) from h7)
      exfalso; omega
  · refine e_Ok.nrm (q := 14) (st' := [(0, 0)]) rfl rfl ?_
    refine e_Ok.if1 rfl (fun h13 => ?_) (fun h13 => ?_)
    · replace h13 : (0 : Int) ≠ 0 := h13
      exfalso; omega
    · replace h13 : (0 : Int) = 0 := Classical.not_not.mp (show ¬ ((0 : Int) ≠ 0) from h13)
      refine e_Ok.ps1 (x := (0, 0)) (q := 18) 1 rfl ?_
      refine e_Ok.rets rfl rfl ?_
      exact ⟨_, rfl, rfl, ⟨by omega, by omega⟩, by omega⟩
theorem no_cf_0 {t : Int} (ht : 0 ≤ t ∧ t ≤ 15) : ¬ kDs (6 * t + 154) 1 := by unfold kDs; omega
theorem su_cf_21 {t : Int} {c k : Int} (q : kDs c k) : kGn t c k := by
  unfold kDs at q
  rcases q with ⟨q, (q | q | q)⟩ | q
  · exact Or.inl ⟨(by omega), Or.inl (by omega)⟩
  · exact Or.inl ⟨(by omega), Or.inr (Or.inl (by omega))⟩
  · exact Or.inl ⟨(by omega), Or.inr (Or.inr (by omega))⟩
  · exact Or.inr (Or.inl (by omega))
theorem c_45 {d : Nat} (hd : 21 ≤ d) {w : eW} (hT : e_Has kTy w) {t : Int} (g_t : 0 ≤ t ∧ t ≤ 15) {OP OD CL : Int → Int → Int} {h : Int} (q : kI w OP OD CL h t) (hk : sK w) (hst : 1 ≤ w (6 * t + 154) 1 ∧ w (6 * t + 154) 1 ≤ 5) : e_Ok 20 elay kcode eI d 45 (0, [(0, (1, 8)), (1, (1, 6 * t + 154))], [], w) (fun r w' => r = [] ∧ e_fr (kGn t) w w' ∧ e_Has kTy w' ∧ (kI w' OP OD CL h t ∧ sK w')) := by
  obtain ⟨d, rfl⟩ : ∃ e, d = e + 1 := ⟨d - 1, by omega⟩
  have h2 := e_Has.get hT (c := 6 * t + 154) (k := 2) (lo := -1) (hi := 3) (kT_2 (t := t) rfl (by omega)) (by decide)
  have hac := ((q.ts (t := t) (by omega) (by omega)).2 (by omega) (by omega)).1
  have hac1 := (q.ts (t := t) (by omega) (by omega)).1
  have hac0 := hac1.1 (by omega) (by omega)
  refine e_Ok.run (t' := (3, [(2, (0, 1)), (0, (1, 8)), (1, (1, 6 * t + 154))], [(1, 6 * t + 154)], w)) 3 rfl ?_
  refine e_Ok.getf (z := w (6 * t + 154) 1) rfl (lT0 (t := t) rfl g_t) rfl rfl rfl (by omega) ?_
  have hs2 : ∀ x : Int, 1 ≤ x ∧ x ≤ 5 → (x = 1 ∨ x = 4) ∨ (x = 2) ∨ (x = 3) ∨ (x = 5) := fun x h => by omega
  obtain h1 | h1 | h1 | h1 := hs2 (w (6 * t + 154) 1) (by omega)
  · refine e_Ok.swk (tg := 113) rfl (by rcases h1 with h1 | h1 <;> (rw [h1]; rfl)) ?_
    refine e_Ok.run (t' := (114, [(2, (0, 1)), (0, (1, 8)), (1, (1, 6 * t + 154))], [(0, 1)], w)) 1 rfl ?_
    refine e_Ok.if1 rfl (fun h3 => ?_) (fun h3 => ?_)
    · replace h3 : (1 : Int) ≠ 0 := h3
      refine e_Ok.ps2 (x := (0, 1)) (y := (1, 6 * t + 154)) (q := 120) 2 rfl ?_
      refine e_Ok.putf rfl (lT0 (t := t) rfl g_t) rfl rfl ?_
      generalize hw4 : e_up w (6 * t + 154) 1 1 = w4
      have f5 : e_fr (kGn t) w w4 := e_fr.up (e_fr.refl w) hw4 (by first | exact Or.inr (Or.inr ⟨(by omega), Or.inl rfl⟩) | (unfold kGn; omega))
      have hT6 : e_Has kTy w4 := e_Has.upr hT hw4 (kT_1 (t := t) rfl g_t) (by omega)
      refine e_Ok.ps1 (x := (1, 6 * t + 154)) (q := 124) 1 rfl ?_
      have h7 := (e_Has.get hT (c := 6 * t + 154) (k := 10) (lo := 0) (hi := 1) (kT_10 (t := t) rfl g_t) (by decide))
      refine e_Ok.getf (z := w (6 * t + 154) 10) rfl (lT0 (t := t) rfl g_t) rfl rfl (e_uq hw4 (Or.inr (by decide)) rfl) (e_bq h7 (by decide) (by decide)) ?_
      refine e_Ok.if1 rfl (fun h8 => ?_) (fun h8 => ?_)
      · replace h8 : (w (6 * t + 154) 10 : Int) = 0 := h8
        refine e_Ok.ps2 (x := (0, 0)) (y := (1, 6 * t + 154)) (q := 138) 2 rfl ?_
        refine e_Ok.putb rfl (lT0 (t := t) rfl g_t) rfl rfl (by omega) ?_
        generalize hw9 : e_up w4 (6 * t + 154) 10 0 = w9
        have f10 : e_fr (kGn t) w w9 := e_fr.up f5 hw9 (by first | exact Or.inr (Or.inr ⟨(by omega), Or.inr rfl⟩) | (unfold kGn; omega))
        have hT11 : e_Has kTy w9 := e_Has.upr hT6 hw9 (kT_10 (t := t) rfl g_t) (by omega)
        refine e_Ok.rets rfl rfl ?_
        have eA : ∀ c k, ¬ kGn t c k → w9 c k = w c k := f10
        have e1 : w9 (6 * t + 154) 1 = 1 := (e_uq hw9 (Or.inr (by decide)) (e_ue hw4))
        exact ⟨rfl, f10, hT11, ⟨kI.tg q hT11 (by omega) (e_fr.mono f10 (fun c k g => th_kGn g)) (eA _ _ (by unfold kGn; omega)) (by omega) ⟨fun _ _ => by rw [eA _ _ (by unfold kGn; omega)]; exact hac0, fun g => by omega, fun g => by omega⟩ (fun _ _ => hac.eq (fun d k g => eA _ _ (by unfold kGn; omega))), (sK.eq (fun c k g => by rw [← hw9, e_up_ne _ _ (by omega), ← hw4, e_up_ne _ _ (by omega)]) hk)⟩⟩
      · replace h8 : (w (6 * t + 154) 10 : Int) ≠ 0 := (show ¬ ((w (6 * t + 154) 10 : Int) = 0) from h8)
        refine e_Ok.ps2 (x := (0, 6)) (y := (1, 8)) (q := 133) 2 rfl ?_
        refine e_Ok.callV rfl (e_dq hd rfl) rfl rfl rfl rfl (c_46 hT6 (by omega) (sK.eq (fun c k g => by rw [← hw4, e_up_ne _ _ (by omega)]) hk)) (fun r12 w13 h14 => ?_)
        obtain ⟨rfl, q15f, q15T, q15x⟩ := h14
        refine e_Ok.nrm (q := 136) (st' := []) rfl rfl ?_
        refine e_Ok.ps2 (x := (0, 0)) (y := (1, 6 * t + 154)) (q := 138) 2 rfl ?_
        refine e_Ok.putb rfl (lT0 (t := t) rfl g_t) rfl rfl (by omega) ?_
        generalize hw17 : e_up w13 (6 * t + 154) 10 0 = w17
        have f18 : e_fr (kGn t) w w17 := e_fr.up (show e_fr (kGn t) w w13 from e_fr.trans f5 (e_fr.mono q15f (fun c k q => by first | exact su_cf_21 q | (unfold kDs at q; unfold kGn; omega)))) hw17 (by first | exact Or.inr (Or.inr ⟨(by omega), Or.inr rfl⟩) | (unfold kGn; omega))
        have hT19 : e_Has kTy w17 := e_Has.upr q15T hw17 (kT_10 (t := t) rfl g_t) (by omega)
        refine e_Ok.rets rfl rfl ?_
        have eA : ∀ c k, ¬ kGn t c k → w17 c k = w c k := f18
        have e1 : w17 (6 * t + 154) 1 = 1 := (e_uq hw17 (Or.inr (by decide)) ((q15f (6 * t + 154) 1 (by first | exact no_cf_0 (by omega) | (unfold kDs; omega))).trans (e_ue hw4)))
        exact ⟨rfl, f18, hT19, ⟨kI.tg q hT19 (by omega) (e_fr.mono f18 (fun c k g => th_kGn g)) (eA _ _ (by unfold kGn; omega)) (by omega) ⟨fun _ _ => by rw [eA _ _ (by unfold kGn; omega)]; exact hac0, fun g => by omega, fun g => by omega⟩ (fun _ _ => hac.eq (fun d k g => eA _ _ (by unfold kGn; omega))), (sK.eq (fun c k g => by rw [← hw17, e_up_ne _ _ (by omega)]) q15x)⟩⟩
    · replace h3 : (1 : Int) = 0 := Classical.not_not.mp (show ¬ ((1 : Int) ≠ 0) from h3)
      exfalso; omega
  · refine e_Ok.swk (tg := 36) rfl (by rw [h1]; rfl) ?_
    refine e_Ok.run (t' := (37, [(2, (0, 1)), (0, (1, 8)), (1, (1, 6 * t + 154))], [(1, 8)], w)) 1 rfl ?_
    refine e_Ok.getr (z := 9) rfl (el_o rfl) rfl rfl (e_Has.eq hT (kt_o rfl)) ⟨by decide, by decide⟩ ?_
    refine e_Ok.ps1 (x := (1, 6 * t + 154)) (q := 41) 1 rfl ?_
    refine e_Ok.getf (z := w (6 * t + 154) 2) rfl (lT0 (t := t) rfl g_t) rfl rfl rfl (by omega) ?_
    refine e_Ok.aald (z := 17 * w (6 * t + 154) 2 + 86) rfl (el_o rfl) rfl (by omega) (Eq.trans (e_Has.eq hT (k9 (by omega))) (by omega)) (by omega) ?_
    have h20 := (e_Has.get hT (c := 17 * w (6 * t + 154) 2 + 86) (k := 11) (lo := 0) (hi := 2) (kA_11 (a := (w (6 * t + 154) 2)) (by omega) (by omega)) (by decide))
    refine e_Ok.getf (z := w (17 * w (6 * t + 154) 2 + 86) 11) rfl (lA0 (a := (w (6 * t + 154) 2)) (by omega) (by omega)) rfl rfl rfl (e_bq h20 (by decide) (by decide)) ?_
    have hJ23 : ∀ m22 : Int, 0 ≤ m22 ∧ m22 ≤ 1 → e_Ok 20 elay kcode eI (d + 1) 45 (56, [(2, (0, 1)), (0, (1, 8)), (1, (1, 6 * t + 154))], [(0, m22)], w) (fun r w' => r = [] ∧ e_fr (kGn t) w w' ∧ e_Has kTy w' ∧ (kI w' OP OD CL h t ∧ sK w')) := by
      intro m22 m22r
      refine e_Ok.run (t' := (113, [(2, (0, m22)), (0, (1, 8)), (1, (1, 6 * t + 154))], [], w)) 2 rfl ?_
      refine e_Ok.ps1 (x := (0, m22)) (q := 114) 1 rfl ?_
      refine e_Ok.if1 rfl (fun h24 => ?_) (fun h24 => ?_)
      · replace h24 : (m22 : Int) ≠ 0 := h24
        refine e_Ok.ps2 (x := (0, 1)) (y := (1, 6 * t + 154)) (q := 120) 2 rfl ?_
        refine e_Ok.putf rfl (lT0 (t := t) rfl g_t) rfl rfl ?_
        generalize hw25 : e_up w (6 * t + 154) 1 1 = w25
        have f26 : e_fr (kGn t) w w25 := e_fr.up (e_fr.refl w) hw25 (by first | exact Or.inr (Or.inr ⟨(by omega), Or.inl rfl⟩) | (unfold kGn; omega))
        have hT27 : e_Has kTy w25 := e_Has.upr hT hw25 (kT_1 (t := t) rfl g_t) (by omega)
        refine e_Ok.ps1 (x := (1, 6 * t + 154)) (q := 124) 1 rfl ?_
        have h28 := (e_Has.get hT (c := 6 * t + 154) (k := 10) (lo := 0) (hi := 1) (kT_10 (t := t) rfl g_t) (by decide))
        refine e_Ok.getf (z := w (6 * t + 154) 10) rfl (lT0 (t := t) rfl g_t) rfl rfl (e_uq hw25 (Or.inr (by decide)) rfl) (e_bq h28 (by decide) (by decide)) ?_
        refine e_Ok.if1 rfl (fun h29 => ?_) (fun h29 => ?_)
        · replace h29 : (w (6 * t + 154) 10 : Int) = 0 := h29
          refine e_Ok.ps2 (x := (0, 0)) (y := (1, 6 * t + 154)) (q := 138) 2 rfl ?_
          refine e_Ok.putb rfl (lT0 (t := t) rfl g_t) rfl rfl (by omega) ?_
          generalize hw30 : e_up w25 (6 * t + 154) 10 0 = w30
          have f31 : e_fr (kGn t) w w30 := e_fr.up f26 hw30 (by first | exact Or.inr (Or.inr ⟨(by omega), Or.inr rfl⟩) | (unfold kGn; omega))
          have hT32 : e_Has kTy w30 := e_Has.upr hT27 hw30 (kT_10 (t := t) rfl g_t) (by omega)
          refine e_Ok.rets rfl rfl ?_
          have eA : ∀ c k, ¬ kGn t c k → w30 c k = w c k := f31
          have e1 : w30 (6 * t + 154) 1 = 1 := (e_uq hw30 (Or.inr (by decide)) (e_ue hw25))
          exact ⟨rfl, f31, hT32, ⟨kI.tg q hT32 (by omega) (e_fr.mono f31 (fun c k g => th_kGn g)) (eA _ _ (by unfold kGn; omega)) (by omega) ⟨fun _ _ => by rw [eA _ _ (by unfold kGn; omega)]; exact hac0, fun g => by omega, fun g => by omega⟩ (fun _ _ => hac.eq (fun d k g => eA _ _ (by unfold kGn; omega))), (sK.eq (fun c k g => by rw [← hw30, e_up_ne _ _ (by omega), ← hw25, e_up_ne _ _ (by omega)]) hk)⟩⟩
        · replace h29 : (w (6 * t + 154) 10 : Int) ≠ 0 := (show ¬ ((w (6 * t + 154) 10 : Int) = 0) from h29)
          refine e_Ok.ps2 (x := (0, 6)) (y := (1, 8)) (q := 133) 2 rfl ?_
          refine e_Ok.callV rfl (e_dq hd rfl) rfl rfl rfl rfl (c_46 hT27 (by omega) (sK.eq (fun c k g => by rw [← hw25, e_up_ne _ _ (by omega)]) hk)) (fun r33 w34 h35 => ?_)
          obtain ⟨rfl, q36f, q36T, q36x⟩ := h35
          refine e_Ok.nrm (q := 136) (st' := []) rfl rfl ?_
          refine e_Ok.ps2 (x := (0, 0)) (y := (1, 6 * t + 154)) (q := 138) 2 rfl ?_
          refine e_Ok.putb rfl (lT0 (t := t) rfl g_t) rfl rfl (by omega) ?_
          generalize hw38 : e_up w34 (6 * t + 154) 10 0 = w38
          have f40 : e_fr (kGn t) w w38 := e_fr.up (show e_fr (kGn t) w w34 from e_fr.trans f26 (e_fr.mono q36f (fun c k q => by first | exact su_cf_21 q | (unfold kDs at q; unfold kGn; omega)))) hw38 (by first | exact Or.inr (Or.inr ⟨(by omega), Or.inr rfl⟩) | (unfold kGn; omega))
          have hT41 : e_Has kTy w38 := e_Has.upr q36T hw38 (kT_10 (t := t) rfl g_t) (by omega)
          refine e_Ok.rets rfl rfl ?_
          have eA : ∀ c k, ¬ kGn t c k → w38 c k = w c k := f40
          have e1 : w38 (6 * t + 154) 1 = 1 := (e_uq hw38 (Or.inr (by decide)) ((q36f (6 * t + 154) 1 (by first | exact no_cf_0 (by omega) | (unfold kDs; omega))).trans (e_ue hw25)))
          exact ⟨rfl, f40, hT41, ⟨kI.tg q hT41 (by omega) (e_fr.mono f40 (fun c k g => th_kGn g)) (eA _ _ (by unfold kGn; omega)) (by omega) ⟨fun _ _ => by rw [eA _ _ (by unfold kGn; omega)]; exact hac0, fun g => by omega, fun g => by omega⟩ (fun _ _ => hac.eq (fun d k g => eA _ _ (by unfold kGn; omega))), (sK.eq (fun c k g => by rw [← hw38, e_up_ne _ _ (by omega)]) q36x)⟩⟩
      · replace h24 : (m22 : Int) = 0 := Classical.not_not.mp (show ¬ ((m22 : Int) ≠ 0) from h24)
        refine e_Ok.rets rfl rfl ?_
        exact ⟨rfl, (e_fr.refl w), hT, ⟨q, hk⟩⟩
    refine e_Ok.if1 rfl (fun h21 => ?_) (fun h21 => ?_)
    · exact e_Ok.run 1 rfl (hJ23 0 (by omega))
    · exact e_Ok.run 2 rfl (hJ23 1 (by omega))
  · refine e_Ok.swk (tg := 60) rfl (by rw [h1]; rfl) ?_
    have hac2 := hac1.2.1 (by omega); unfold kn1 at hac2
    refine e_Ok.run (t' := (61, [(2, (0, 1)), (0, (1, 8)), (1, (1, 6 * t + 154))], [(1, 8)], w)) 1 rfl ?_
    refine e_Ok.getr (z := 74) rfl (el_o rfl) rfl rfl (e_Has.eq hT (kt_o rfl)) ⟨by decide, by decide⟩ ?_
    have h42 := (e_Has.get hT (c := 74) (k := 0) (lo := 0) (hi := 6000) (kt_o rfl) (by decide))
    refine e_Ok.getf (z := w 74 0) rfl (el_o rfl) rfl rfl rfl (e_bq h42 (by decide) (by decide)) ?_
    refine e_Ok.ps1 (x := (1, 6 * t + 154)) (q := 68) 1 rfl ?_
    refine e_Ok.getf (z := w (6 * t + 154) 9) rfl (lT0 (t := t) rfl g_t) rfl rfl rfl (by omega) ?_
    refine e_Ok.any rfl (eF_sub_any _ _) (fun z43 z43a z43b => ?_)
    refine e_Ok.ps1 (x := (1, 6 * t + 154)) (q := 73) 1 rfl ?_
    refine e_Ok.getf (z := w (6 * t + 154) 8) rfl (lT0 (t := t) rfl g_t) rfl rfl rfl (by omega) ?_
    have hJ46 : ∀ m45 : Int, 0 ≤ m45 ∧ m45 ≤ 1 → e_Ok 20 elay kcode eI (d + 1) 45 (84, [(2, (0, 1)), (0, (1, 8)), (1, (1, 6 * t + 154))], [(0, m45)], w) (fun r w' => r = [] ∧ e_fr (kGn t) w w' ∧ e_Has kTy w' ∧ (kI w' OP OD CL h t ∧ sK w')) := by
      intro m45 m45r
      refine e_Ok.run (t' := (113, [(2, (0, m45)), (0, (1, 8)), (1, (1, 6 * t + 154))], [], w)) 2 rfl ?_
      refine e_Ok.ps1 (x := (0, m45)) (q := 114) 1 rfl ?_
      refine e_Ok.if1 rfl (fun h47 => ?_) (fun h47 => ?_)
      · replace h47 : (m45 : Int) ≠ 0 := h47
        refine e_Ok.ps2 (x := (0, 1)) (y := (1, 6 * t + 154)) (q := 120) 2 rfl ?_
        refine e_Ok.putf rfl (lT0 (t := t) rfl g_t) rfl rfl ?_
        generalize hw48 : e_up w (6 * t + 154) 1 1 = w48
        have f49 : e_fr (kGn t) w w48 := e_fr.up (e_fr.refl w) hw48 (by first | exact Or.inr (Or.inr ⟨(by omega), Or.inl rfl⟩) | (unfold kGn; omega))
        have hT50 : e_Has kTy w48 := e_Has.upr hT hw48 (kT_1 (t := t) rfl g_t) (by omega)
        refine e_Ok.ps1 (x := (1, 6 * t + 154)) (q := 124) 1 rfl ?_
        have h51 := (e_Has.get hT (c := 6 * t + 154) (k := 10) (lo := 0) (hi := 1) (kT_10 (t := t) rfl g_t) (by decide))
        refine e_Ok.getf (z := w (6 * t + 154) 10) rfl (lT0 (t := t) rfl g_t) rfl rfl (e_uq hw48 (Or.inr (by decide)) rfl) (e_bq h51 (by decide) (by decide)) ?_
        refine e_Ok.if1 rfl (fun h52 => ?_) (fun h52 => ?_)
        · replace h52 : (w (6 * t + 154) 10 : Int) = 0 := h52
          refine e_Ok.ps2 (x := (0, 0)) (y := (1, 6 * t + 154)) (q := 138) 2 rfl ?_
          refine e_Ok.putb rfl (lT0 (t := t) rfl g_t) rfl rfl (by omega) ?_
          generalize hw53 : e_up w48 (6 * t + 154) 10 0 = w53
          have f54 : e_fr (kGn t) w w53 := e_fr.up f49 hw53 (by first | exact Or.inr (Or.inr ⟨(by omega), Or.inr rfl⟩) | (unfold kGn; omega))
          have hT55 : e_Has kTy w53 := e_Has.upr hT50 hw53 (kT_10 (t := t) rfl g_t) (by omega)
          refine e_Ok.rets rfl rfl ?_
          have eA : ∀ c k, ¬ kGn t c k → w53 c k = w c k := f54
          have e1 : w53 (6 * t + 154) 1 = 1 := (e_uq hw53 (Or.inr (by decide)) (e_ue hw48))
          exact ⟨rfl, f54, hT55, ⟨kI.tg q hT55 (by omega) (e_fr.mono f54 (fun c k g => th_kGn g)) (eA _ _ (by unfold kGn; omega)) (by omega) ⟨fun _ _ => by rw [eA _ _ (by unfold kGn; omega)]; exact hac0, fun g => by omega, fun g => by omega⟩ (fun _ _ => hac.eq (fun d k g => eA _ _ (by unfold kGn; omega))), (sK.eq (fun c k g => by rw [← hw53, e_up_ne _ _ (by omega), ← hw48, e_up_ne _ _ (by omega)]) hk)⟩⟩
        · replace h52 : (w (6 * t + 154) 10 : Int) ≠ 0 := (show ¬ ((w (6 * t + 154) 10 : Int) = 0) from h52)
          refine e_Ok.ps2 (x := (0, 6)) (y := (1, 8)) (q := 133) 2 rfl ?_
          refine e_Ok.callV rfl (e_dq hd rfl) rfl rfl rfl rfl (c_46 hT50 (by omega) (sK.eq (fun c k g => by rw [← hw48, e_up_ne _ _ (by omega)]) hk)) (fun r56 w57 h58 => ?_)
          obtain ⟨rfl, q59f, q59T, q59x⟩ := h58
          refine e_Ok.nrm (q := 136) (st' := []) rfl rfl ?_
          refine e_Ok.ps2 (x := (0, 0)) (y := (1, 6 * t + 154)) (q := 138) 2 rfl ?_
          refine e_Ok.putb rfl (lT0 (t := t) rfl g_t) rfl rfl (by omega) ?_
          generalize hw61 : e_up w57 (6 * t + 154) 10 0 = w61
          have f62 : e_fr (kGn t) w w61 := e_fr.up (show e_fr (kGn t) w w57 from e_fr.trans f49 (e_fr.mono q59f (fun c k q => by first | exact su_cf_21 q | (unfold kDs at q; unfold kGn; omega)))) hw61 (by first | exact Or.inr (Or.inr ⟨(by omega), Or.inr rfl⟩) | (unfold kGn; omega))
          have hT63 : e_Has kTy w61 := e_Has.upr q59T hw61 (kT_10 (t := t) rfl g_t) (by omega)
          refine e_Ok.rets rfl rfl ?_
          have eA : ∀ c k, ¬ kGn t c k → w61 c k = w c k := f62
          have e1 : w61 (6 * t + 154) 1 = 1 := (e_uq hw61 (Or.inr (by decide)) ((q59f (6 * t + 154) 1 (by first | exact no_cf_0 (by omega) | (unfold kDs; omega))).trans (e_ue hw48)))
          exact ⟨rfl, f62, hT63, ⟨kI.tg q hT63 (by omega) (e_fr.mono f62 (fun c k g => th_kGn g)) (eA _ _ (by unfold kGn; omega)) (by omega) ⟨fun _ _ => by rw [eA _ _ (by unfold kGn; omega)]; exact hac0, fun g => by omega, fun g => by omega⟩ (fun _ _ => hac.eq (fun d k g => eA _ _ (by unfold kGn; omega))), (sK.eq (fun c k g => by rw [← hw61, e_up_ne _ _ (by omega)]) q59x)⟩⟩
      · replace h47 : (m45 : Int) = 0 := Classical.not_not.mp (show ¬ ((m45 : Int) ≠ 0) from h47)
        refine e_Ok.rets rfl rfl ?_
        exact ⟨rfl, (e_fr.refl w), hT, ⟨q, hk⟩⟩
    refine e_Ok.if2 rfl (fun h44 => ?_) (fun h44 => ?_)
    · exact e_Ok.run 1 rfl (hJ46 0 (by omega))
    · exact e_Ok.run 2 rfl (hJ46 1 (by omega))
  · refine e_Ok.swk (tg := 88) rfl (by rw [h1]; rfl) ?_
    have hac2 := hac1.2.2 (by omega); unfold kn1 at hac2
    refine e_Ok.run (t' := (89, [(2, (0, 1)), (0, (1, 8)), (1, (1, 6 * t + 154))], [(1, 8)], w)) 1 rfl ?_
    refine e_Ok.getr (z := 83) rfl (el_o rfl) rfl rfl (e_Has.eq hT (kt_o rfl)) ⟨by decide, by decide⟩ ?_
    refine e_Ok.ps1 (x := (1, 6 * t + 154)) (q := 93) 1 rfl ?_
    refine e_Ok.getf (z := w (6 * t + 154) 8) rfl (lT0 (t := t) rfl g_t) rfl rfl rfl (by omega) ?_
    have h64 := (e_Has.get hT (c := 83) (k := w (6 * t + 154) 8) (lo := (-1)) (hi := 15) rfl (by decide))
    refine e_Ok.ald (z := w 83 (w (6 * t + 154) 8)) rfl rfl rfl (by omega) rfl (e_bq h64 (by decide) (by decide)) ?_
    refine e_Ok.ps1 (x := (1, 6 * t + 154)) (q := 98) 1 rfl ?_
    refine e_Ok.getf (z := t) rfl (lT0 (t := t) rfl g_t) rfl rfl (Eq.trans (e_Has.eq hT (kT_0 (t := t) rfl g_t)) (by omega)) (by omega) ?_
    have hJ67 : ∀ m66 : Int, 0 ≤ m66 ∧ m66 ≤ 1 → e_Ok 20 elay kcode eI (d + 1) 45 (109, [(2, (0, 1)), (0, (1, 8)), (1, (1, 6 * t + 154))], [(0, m66)], w) (fun r w' => r = [] ∧ e_fr (kGn t) w w' ∧ e_Has kTy w' ∧ (kI w' OP OD CL h t ∧ sK w')) := by
      intro m66 m66r
      refine e_Ok.run (t' := (113, [(2, (0, m66)), (0, (1, 8)), (1, (1, 6 * t + 154))], [], w)) 2 rfl ?_
      refine e_Ok.ps1 (x := (0, m66)) (q := 114) 1 rfl ?_
      refine e_Ok.if1 rfl (fun h68 => ?_) (fun h68 => ?_)
      · replace h68 : (m66 : Int) ≠ 0 := h68
        refine e_Ok.ps2 (x := (0, 1)) (y := (1, 6 * t + 154)) (q := 120) 2 rfl ?_
        refine e_Ok.putf rfl (lT0 (t := t) rfl g_t) rfl rfl ?_
        generalize hw69 : e_up w (6 * t + 154) 1 1 = w69
        have f70 : e_fr (kGn t) w w69 := e_fr.up (e_fr.refl w) hw69 (by first | exact Or.inr (Or.inr ⟨(by omega), Or.inl rfl⟩) | (unfold kGn; omega))
        have hT71 : e_Has kTy w69 := e_Has.upr hT hw69 (kT_1 (t := t) rfl g_t) (by omega)
        refine e_Ok.ps1 (x := (1, 6 * t + 154)) (q := 124) 1 rfl ?_
        have h72 := (e_Has.get hT (c := 6 * t + 154) (k := 10) (lo := 0) (hi := 1) (kT_10 (t := t) rfl g_t) (by decide))
        refine e_Ok.getf (z := w (6 * t + 154) 10) rfl (lT0 (t := t) rfl g_t) rfl rfl (e_uq hw69 (Or.inr (by decide)) rfl) (e_bq h72 (by decide) (by decide)) ?_
        refine e_Ok.if1 rfl (fun h73 => ?_) (fun h73 => ?_)
        · replace h73 : (w (6 * t + 154) 10 : Int) = 0 := h73
          refine e_Ok.ps2 (x := (0, 0)) (y := (1, 6 * t + 154)) (q := 138) 2 rfl ?_
          refine e_Ok.putb rfl (lT0 (t := t) rfl g_t) rfl rfl (by omega) ?_
          generalize hw74 : e_up w69 (6 * t + 154) 10 0 = w74
          have f75 : e_fr (kGn t) w w74 := e_fr.up f70 hw74 (by first | exact Or.inr (Or.inr ⟨(by omega), Or.inr rfl⟩) | (unfold kGn; omega))
          have hT76 : e_Has kTy w74 := e_Has.upr hT71 hw74 (kT_10 (t := t) rfl g_t) (by omega)
          refine e_Ok.rets rfl rfl ?_
          have eA : ∀ c k, ¬ kGn t c k → w74 c k = w c k := f75
          have e1 : w74 (6 * t + 154) 1 = 1 := (e_uq hw74 (Or.inr (by decide)) (e_ue hw69))
          exact ⟨rfl, f75, hT76, ⟨kI.tg q hT76 (by omega) (e_fr.mono f75 (fun c k g => th_kGn g)) (eA _ _ (by unfold kGn; omega)) (by omega) ⟨fun _ _ => by rw [eA _ _ (by unfold kGn; omega)]; exact hac0, fun g => by omega, fun g => by omega⟩ (fun _ _ => hac.eq (fun d k g => eA _ _ (by unfold kGn; omega))), (sK.eq (fun c k g => by rw [← hw74, e_up_ne _ _ (by omega), ← hw69, e_up_ne _ _ (by omega)]) hk)⟩⟩
        · replace h73 : (w (6 * t + 154) 10 : Int) ≠ 0 := (show ¬ ((w (6 * t + 154) 10 : Int) = 0) from h73)
          refine e_Ok.ps2 (x := (0, 6)) (y := (1, 8)) (q := 133) 2 rfl ?_
          refine e_Ok.callV rfl (e_dq hd rfl) rfl rfl rfl rfl (c_46 hT71 (by omega) (sK.eq (fun c k g => by rw [← hw69, e_up_ne _ _ (by omega)]) hk)) (fun r77 w78 h79 => ?_)
          obtain ⟨rfl, q80f, q80T, q80x⟩ := h79
          refine e_Ok.nrm (q := 136) (st' := []) rfl rfl ?_
          refine e_Ok.ps2 (x := (0, 0)) (y := (1, 6 * t + 154)) (q := 138) 2 rfl ?_
          refine e_Ok.putb rfl (lT0 (t := t) rfl g_t) rfl rfl (by omega) ?_
          generalize hw82 : e_up w78 (6 * t + 154) 10 0 = w82
          have f83 : e_fr (kGn t) w w82 := e_fr.up (show e_fr (kGn t) w w78 from e_fr.trans f70 (e_fr.mono q80f (fun c k q => by first | exact su_cf_21 q | (unfold kDs at q; unfold kGn; omega)))) hw82 (by first | exact Or.inr (Or.inr ⟨(by omega), Or.inr rfl⟩) | (unfold kGn; omega))
          have hT84 : e_Has kTy w82 := e_Has.upr q80T hw82 (kT_10 (t := t) rfl g_t) (by omega)
          refine e_Ok.rets rfl rfl ?_
          have eA : ∀ c k, ¬ kGn t c k → w82 c k = w c k := f83
          have e1 : w82 (6 * t + 154) 1 = 1 := (e_uq hw82 (Or.inr (by decide)) ((q80f (6 * t + 154) 1 (by first | exact no_cf_0 (by omega) | (unfold kDs; omega))).trans (e_ue hw69)))
          exact ⟨rfl, f83, hT84, ⟨kI.tg q hT84 (by omega) (e_fr.mono f83 (fun c k g => th_kGn g)) (eA _ _ (by unfold kGn; omega)) (by omega) ⟨fun _ _ => by rw [eA _ _ (by unfold kGn; omega)]; exact hac0, fun g => by omega, fun g => by omega⟩ (fun _ _ => hac.eq (fun d k g => eA _ _ (by unfold kGn; omega))), (sK.eq (fun c k g => by rw [← hw82, e_up_ne _ _ (by omega)]) q80x)⟩⟩
      · replace h68 : (m66 : Int) = 0 := Classical.not_not.mp (show ¬ ((m66 : Int) ≠ 0) from h68)
        refine e_Ok.rets rfl rfl ?_
        exact ⟨rfl, (e_fr.refl w), hT, ⟨q, hk⟩⟩
    refine e_Ok.if2 rfl (fun h65 => ?_) (fun h65 => ?_)
    · exact e_Ok.run 1 rfl (hJ67 0 (by omega))
    · exact e_Ok.run 2 rfl (hJ67 1 (by omega))
theorem no_cf_1 {t : Int} : ¬ kFi t 8 3 := by unfold kFi; omega
theorem no_cf_2 {t : Int} (ht : 0 ≤ t ∧ t ≤ 15) : ¬ kFi t (6 * t + 154) 0 := by unfold kFi; omega
theorem no_cf_3 {t : Int} (ht : 0 ≤ t ∧ t ≤ 15) : ¬ kLk (6 * t + 154) 2 := by unfold kLk; omega
theorem no_cf_4 {t : Int} (ht : 0 ≤ t ∧ t ≤ 15) : ¬ kLg (6 * t + 154) 2 := by unfold kLg; omega
theorem no_cf_5 {t : Int} (ht : 0 ≤ t ∧ t ≤ 15) : ¬ kFi t (6 * t + 154) 2 := by unfold kFi; omega
theorem no_cf_6 {a : Int} : ¬ kBa a 8 0 := by unfold kBa; omega
theorem no_cf_7 {k : Int} : ¬ kLk 8 k := by unfold kLk; omega
theorem no_cf_8 {k : Int} : ¬ kLg 8 k := by unfold kLg; omega
theorem no_cf_9 {t : Int} : ¬ kFi t 8 0 := by unfold kFi; omega
theorem no_cf_10 {a : Int} {t : Int} (ha : 0 ≤ a ∧ a ≤ 3) (ht : 0 ≤ t ∧ t ≤ 15) : ¬ kBa a (6 * t + 154) 2 := by unfold kBa; omega
theorem no_cf_11 {a : Int} (ha : 0 ≤ a ∧ a ≤ 3) : ¬ kBa a 9 a := by unfold kBa; omega
theorem no_cf_12 {k : Int} : ¬ kLk 9 k := by unfold kLk; omega
theorem no_cf_13 {k : Int} : ¬ kLg 9 k := by unfold kLg; omega
theorem no_cf_14 {t : Int} {a : Int} (ht : 0 ≤ t ∧ t ≤ 15) (ha : 0 ≤ a ∧ a ≤ 3) : ¬ kFi t 9 a := by unfold kFi; omega
theorem no_cf_15 {a : Int} {t : Int} (ha : 0 ≤ a ∧ a ≤ 3) (ht : 0 ≤ t ∧ t ≤ 15) : ¬ kBa a (6 * t + 154) 0 := by unfold kBa; omega
theorem no_cf_16 {t : Int} (ht : 0 ≤ t ∧ t ≤ 15) : ¬ kLk (6 * t + 154) 0 := by unfold kLk; omega
theorem no_cf_17 {t : Int} (ht : 0 ≤ t ∧ t ≤ 15) : ¬ kLg (6 * t + 154) 0 := by unfold kLg; omega
theorem no_cf_18 {a : Int} {t : Int} (ha : 0 ≤ a ∧ a ≤ 3) (ht : 0 ≤ t ∧ t ≤ 15) : ¬ kBa a (6 * t + 154) 1 := by unfold kBa; omega
theorem no_cf_19 {t : Int} (ht : 0 ≤ t ∧ t ≤ 15) : ¬ kLk (6 * t + 154) 1 := by unfold kLk; omega
theorem no_cf_20 {t : Int} (ht : 0 ≤ t ∧ t ≤ 15) : ¬ kLg (6 * t + 154) 1 := by unfold kLg; omega
theorem su_cf_22 {t : Int} {a : Int} {c k : Int} (q : kFi t c k) : kFb t a c k := by
  unfold kFi at q
  rcases q with ⟨q, (q | q | q)⟩
  · exact Or.inl ⟨(by omega), Or.inl (by omega)⟩
  · exact Or.inl ⟨(by omega), Or.inr (Or.inl (by omega))⟩
  · exact Or.inl ⟨(by omega), Or.inr (Or.inr (Or.inr (by omega)))⟩
theorem su_cf_23 {t : Int} {a : Int} {c k : Int} (q : kLg c k) : kFb t a c k := by
  unfold kLg at q
  rcases q with ⟨q, q⟩ | q
  · exact Or.inr (Or.inr (Or.inl ⟨(by omega), (by omega)⟩))
  · exact Or.inr (Or.inr (Or.inr (Or.inl (by omega))))
theorem su_cf_24 {t : Int} {a : Int} {c k : Int} (q : kLk c k) : kFb t a c k := by
  unfold kLk at q
  rcases q with q
  · exact Or.inr (Or.inr (Or.inr (Or.inr (Or.inl (by omega)))))
theorem su_cf_25 {a : Int} {t : Int} {c k : Int} (q : kBa a c k) : kFb t a c k := by
  unfold kBa at q
  rcases q with ⟨q, q⟩ | q | ⟨q, ⟨q, ⟨q, q⟩⟩⟩ | ⟨q, (q | q | q)⟩
  · exact Or.inr (Or.inr (Or.inl ⟨(by omega), (by omega)⟩))
  · exact Or.inr (Or.inr (Or.inr (Or.inl (by omega))))
  · exact Or.inr (Or.inl ⟨(by omega), ⟨(by omega), ⟨(by omega), (by omega)⟩⟩⟩)
  · exact Or.inr (Or.inr (Or.inr (Or.inr (Or.inr ⟨(by omega), Or.inl (by omega)⟩))))
  · exact Or.inr (Or.inr (Or.inr (Or.inr (Or.inr ⟨(by omega), Or.inr (Or.inl (by omega))⟩))))
  · exact Or.inr (Or.inr (Or.inr (Or.inr (Or.inr ⟨(by omega), Or.inr (Or.inr (Or.inr (by omega)))⟩))))
theorem c_48 {d : Nat} (hd : 24 ≤ d) {w : eW} (hT : e_Has kTy w) {t a e : Int} (g_t : 0 ≤ t ∧ t ≤ 15) (g_a : 0 ≤ a ∧ a ≤ 3) (g_e : (-2147483648) ≤ e ∧ e ≤ 2147483647) {OP OD CL : Int → Int → Int} {h : Int} (q : kI w OP OD CL h t) (ha : w (6 * t + 154) 2 = a) (he : w 74 1 < 2147483646) : e_Ok 20 elay kcode eI d 48 (0, [(0, (1, 8)), (1, (1, 6 * t + 154)), (2, (0, e))], [], w) (fun r w' => r = [] ∧ e_fr (kFb t a) w w' ∧ e_Has kTy w' ∧ (kI w' OP OD CL h t ∧ w' (6 * t + 154) 1 = 7 ∧ w 74 1 ≤ w' 74 1 ∧ w' 74 1 ≤ w 74 1 + 2)) := by
  obtain ⟨d, rfl⟩ : ∃ e, d = e + 1 := ⟨d - 1, by omega⟩
  have h74 := e_Has.get hT (c := 74) (k := 1) (lo := 0) (hi := 2147483647) (kt_o rfl) (by decide)
  refine e_Ok.ps2 (x := (0, 7)) (y := (1, 6 * t + 154)) (q := 3) 2 rfl ?_
  refine e_Ok.callV rfl (e_dq hd rfl) rfl (lT0 (t := t) rfl g_t) rfl rfl (c_181 (t := t) (op := fun x => x) hT (by omega) (by omega)) (fun r1 w2 h3 => ?_)
  obtain ⟨rfl, q4f, q4T, q4a, q4b, q4c⟩ := h3
  have Q6 := kI.fin q q4T (by omega) (by omega) q4f (by rw [q4a]; decide)
  have ef0 : w2 74 1 = w 74 1 := q4f _ _ (by unfold kFi; omega)
  refine e_Ok.nrm (q := 6) (st' := []) rfl rfl ?_
  refine e_Ok.ps2 (x := (0, e)) (y := (1, 6 * t + 154)) (q := 8) 2 rfl ?_
  refine e_Ok.putf rfl (lT0 (t := t) rfl g_t) rfl rfl ?_
  generalize hw7 : e_up w2 (6 * t + 154) 5 e = w7
  have hT9 : e_Has kTy w7 := e_Has.upr q4T hw7 (kT_5 (t := t) rfl g_t) (by omega)
  refine e_Ok.ps1 (x := (1, 8)) (q := 12) 1 rfl ?_
  refine e_Ok.getr (z := 74) rfl (el_o rfl) rfl rfl (e_uq hw7 (Or.inr (by decide)) ((q4f 8 3 (by first | exact no_cf_1 | (unfold kFi; omega))).trans (e_Has.eq hT (kt_o rfl)))) ⟨by decide, by decide⟩ ?_
  refine e_Ok.ps2 (x := (1, 6 * t + 154)) (y := (0, 5)) (q := 17) 2 rfl ?_
  refine e_Ok.getf (z := t) rfl (lT0 (t := t) rfl g_t) rfl rfl (e_uq hw7 (Or.inr (by decide)) ((q4f (6 * t + 154) 0 (by first | exact no_cf_2 (by omega) | (unfold kFi; omega))).trans (Eq.trans (e_Has.eq hT (kT_0 (t := t) rfl g_t)) (by omega)))) (by omega) ?_
  refine e_Ok.ps1 (x := (0, e)) (q := 21) 1 rfl ?_
  refine e_Ok.callV rfl (e_dq hd rfl) rfl rfl rfl rfl (c_27 hT9 (by omega) (by omega) (by omega) (by rw [← hw7, e_up_ne _ _ (by omega), ef0]; omega)) (fun r10 w11 h12 => ?_)
  obtain ⟨rfl, q13f, q13T, q13x⟩ := h12
  have Q16 := kI.hu Q6 hT9 hw7 (hm_t (by omega) (by omega))
  have Q15 := kI.lg Q16 q13T (e_fr.mono q13f (fun c k g => lh_kLg g)) (q13x.2 Q16.lgk)
  have ef1 : w7 74 1 = w2 74 1 := by rw [← hw7, e_up_ne _ _ (by omega)]
  have ef2 := q13x.1
  refine e_Ok.nrm (q := 24) (st' := []) rfl rfl ?_
  refine e_Ok.ps2 (x := (1, 6 * t + 154)) (y := (1, 8)) (q := 26) 2 rfl ?_
  refine e_Ok.callV rfl (e_dq hd rfl) rfl rfl rfl rfl (c_50 (e_dq hd rfl) (t := t) q13T (by omega) Q15) (fun r17 w18 h19 => ?_)
  obtain ⟨rfl, q20f, q20T⟩ := h19
  have Q22 := kI.hm Q15 q20T (e_fr.mono q20f (fun c k g => hm_kLk g))
  have ef3 : w18 74 1 = w11 74 1 := q20f _ _ (by unfold kLk; omega)
  refine e_Ok.nrm (q := 29) (st' := []) rfl rfl ?_
  refine e_Ok.ps2 (x := (1, 6 * t + 154)) (y := (1, 8)) (q := 31) 2 rfl ?_
  refine e_Ok.getf (z := a) rfl (lT0 (t := t) rfl g_t) rfl rfl ((q20f (6 * t + 154) 2 (by first | exact no_cf_3 (by omega) | (unfold kLk; omega))).trans ((q13f (6 * t + 154) 2 (by first | exact no_cf_4 (by omega) | (unfold kLg; omega))).trans (e_uq hw7 (Or.inr (by decide)) ((q4f (6 * t + 154) 2 (by first | exact no_cf_5 (by omega) | (unfold kFi; omega))).trans ha)))) (by omega) ?_
  refine e_Ok.callV rfl (e_dq hd rfl) rfl rfl rfl rfl (c_40 (e_dq hd rfl) q20T (by omega) Q22 (by omega)) (fun r23 w24 h25 => ?_)
  obtain ⟨rfl, q26f, q26T, q26x⟩ := h25
  have ef4 := q26x.2
  refine e_Ok.nrm (q := 37) (st' := []) rfl rfl ?_
  refine e_Ok.ps1 (x := (1, 8)) (q := 38) 1 rfl ?_
  refine e_Ok.getr (z := 9) rfl (el_o rfl) rfl rfl ((q26f 8 0 (by first | exact no_cf_6 | (unfold kBa; omega))).trans ((q20f 8 0 no_cf_7).trans ((q13f 8 0 no_cf_8).trans (e_uq hw7 (Or.inr (by decide)) ((q4f 8 0 (by first | exact no_cf_9 | (unfold kFi; omega))).trans (e_Has.eq hT (kt_o rfl))))))) ⟨by decide, by decide⟩ ?_
  refine e_Ok.ps1 (x := (1, 6 * t + 154)) (q := 42) 1 rfl ?_
  refine e_Ok.getf (z := a) rfl (lT0 (t := t) rfl g_t) rfl rfl ((q26f (6 * t + 154) 2 (by first | exact no_cf_10 (by omega) (by omega) | (unfold kBa; omega))).trans ((q20f (6 * t + 154) 2 (by first | exact no_cf_3 (by omega) | (unfold kLk; omega))).trans ((q13f (6 * t + 154) 2 (by first | exact no_cf_4 (by omega) | (unfold kLg; omega))).trans (e_uq hw7 (Or.inr (by decide)) ((q4f (6 * t + 154) 2 (by first | exact no_cf_5 (by omega) | (unfold kFi; omega))).trans ha))))) (by omega) ?_
  refine e_Ok.aald (z := 17 * a + 86) rfl (el_o rfl) rfl (by omega) ((q26f 9 a (by first | exact no_cf_11 (by omega) | (unfold kBa; omega))).trans ((q20f 9 a no_cf_12).trans ((q13f 9 a no_cf_13).trans (e_uq hw7 (Or.inl (by omega)) ((q4f 9 a (by first | exact no_cf_14 (by omega) (by omega) | (unfold kFi; omega))).trans (Eq.trans (e_Has.eq hT (k9 (by omega))) (by omega))))))) (by omega) ?_
  refine e_Ok.ps1 (x := (1, 6 * t + 154)) (q := 47) 1 rfl ?_
  refine e_Ok.getf (z := t) rfl (lT0 (t := t) rfl g_t) rfl rfl ((q26f (6 * t + 154) 0 (by first | exact no_cf_15 (by omega) (by omega) | (unfold kBa; omega))).trans ((q20f (6 * t + 154) 0 (by first | exact no_cf_16 (by omega) | (unfold kLk; omega))).trans ((q13f (6 * t + 154) 0 (by first | exact no_cf_17 (by omega) | (unfold kLg; omega))).trans (e_uq hw7 (Or.inr (by decide)) ((q4f (6 * t + 154) 0 (by first | exact no_cf_2 (by omega) | (unfold kFi; omega))).trans (Eq.trans (e_Has.eq hT (kT_0 (t := t) rfl g_t)) (by omega))))))) (by omega) ?_
  refine e_Ok.putf rfl (lA0 (a := a) rfl g_a) rfl rfl ?_
  generalize hw28 : e_up w24 (17 * a + 86) 16 t = w28
  have hT30 : e_Has kTy w28 := e_Has.upr q26T hw28 (kA_16 (a := a) rfl g_a) (by omega)
  refine e_Ok.rets rfl rfl ?_
  have Q31 := kI.hu q26x.1 hT30 hw28 (hm_a (by omega) (by omega))
  have ef5 : w28 74 1 = w24 74 1 := by rw [← hw28]; exact e_up_ne _ _ (by omega)
  exact ⟨rfl, (show e_fr (kFb t a) w w28 from e_fr.up (show e_fr (kFb t a) w w24 from e_fr.trans (show e_fr (kFb t a) w w18 from e_fr.trans (show e_fr (kFb t a) w w11 from e_fr.trans (show e_fr (kFb t a) w w7 from e_fr.up (show e_fr (kFb t a) w w2 from e_fr.trans (e_fr.refl w) (e_fr.mono q4f (fun c k q => by first | exact su_cf_22 q | (unfold kFi at q; unfold kFb; omega)))) hw7 (by first | exact Or.inl ⟨(by omega), Or.inr (Or.inr (Or.inl rfl))⟩ | (unfold kFb; omega))) (e_fr.mono q13f (fun c k q => by first | exact su_cf_23 q | (unfold kLg at q; unfold kFb; omega)))) (e_fr.mono q20f (fun c k q => by first | exact su_cf_24 q | (unfold kLk at q; unfold kFb; omega)))) (e_fr.mono q26f (fun c k q => by first | exact su_cf_25 q | (unfold kBa at q; unfold kFb; omega)))) hw28 (by first | exact Or.inr (Or.inr (Or.inr (Or.inr (Or.inr ⟨(by omega), Or.inr (Or.inr (Or.inl rfl))⟩)))) | (unfold kFb; omega))), hT30, ⟨Q31, Eq.trans (show w28 (6 * t + 154) 1 = w2 (6 * t + 154) 1 from (e_uq hw28 (Or.inr (by first | decide | omega)) ((q26f (6 * t + 154) 1 (by first | exact no_cf_18 (by omega) (by omega) | (unfold kBa; omega))).trans ((q20f (6 * t + 154) 1 (by first | exact no_cf_19 (by omega) | (unfold kLk; omega))).trans ((q13f (6 * t + 154) 1 (by first | exact no_cf_20 (by omega) | (unfold kLg; omega))).trans (e_uq hw7 (Or.inr (by first | decide | omega)) rfl)))))) q4a, by omega⟩⟩
theorem su_cf_26 {t : Int} {c k : Int} (q : kFi t c k) : kEl t c k := by
  unfold kFi at q
  rcases q with ⟨q, (q | q | q)⟩
  · exact Or.inl ⟨(by omega), Or.inl (by omega)⟩
  · exact Or.inl ⟨(by omega), Or.inr (Or.inl (by omega))⟩
  · exact Or.inl ⟨(by omega), Or.inr (Or.inr (by omega))⟩
theorem su_cf_27 {t : Int} {c k : Int} (q : kLg c k) : kEl t c k := by
  unfold kLg at q
  rcases q with ⟨q, q⟩ | q
  · exact Or.inr (Or.inl ⟨(by omega), (by omega)⟩)
  · exact Or.inr (Or.inr (Or.inl (by omega)))
theorem su_cf_28 {t : Int} {c k : Int} (q : kLk c k) : kEl t c k := by
  unfold kLk at q
  rcases q with q
  · exact Or.inr (Or.inr (Or.inr (by omega)))
theorem c_49 {d : Nat} (hd : 23 ≤ d) {w : eW} (hT : e_Has kTy w) {t : Int} (g_t : 0 ≤ t ∧ t ≤ 15) {OP OD CL : Int → Int → Int} {h : Int} (q : kI w OP OD CL h t) (ha : 0 ≤ w (6 * t + 154) 2) (he : w 74 1 < 2147483647) : e_Ok 20 elay kcode eI d 49 (0, [(0, (1, 8)), (1, (1, 6 * t + 154))], [], w) (fun r w' => r = [] ∧ e_fr (kEl t) w w' ∧ e_Has kTy w' ∧ (kI w' OP OD CL h t ∧ w 74 1 ≤ w' 74 1 ∧ w' 74 1 ≤ w 74 1 + 1 ∧ ((w' = w ∧ 0 < w (6 * t + 154) 4) ∨ w' (6 * t + 154) 1 = 6))) := by
  obtain ⟨d, rfl⟩ : ∃ e, d = e + 1 := ⟨d - 1, by omega⟩
  have h74 := e_Has.get hT (c := 74) (k := 1) (lo := 0) (hi := 2147483647) (kt_o rfl) (by decide)
  have h2 := e_Has.get hT (c := 6 * t + 154) (k := 2) (lo := -1) (hi := 3) (kT_2 (t := t) rfl (by omega)) (by decide)
  refine e_Ok.ps1 (x := (1, 6 * t + 154)) (q := 1) 1 rfl ?_
  have h1 := (e_Has.get hT (c := 6 * t + 154) (k := 4) (lo := 0) (hi := 20) (kT_4 (t := t) rfl g_t) (by decide))
  refine e_Ok.getf (z := w (6 * t + 154) 4) rfl (lT0 (t := t) rfl g_t) rfl rfl rfl (e_bq h1 (by decide) (by decide)) ?_
  refine e_Ok.if1 rfl (fun h2 => ?_) (fun h2 => ?_)
  · replace h2 : (w (6 * t + 154) 4 : Int) ≤ 0 := h2
    refine e_Ok.ps2 (x := (0, 6)) (y := (1, 6 * t + 154)) (q := 11) 2 rfl ?_
    refine e_Ok.callV rfl (e_dq hd rfl) rfl (lT0 (t := t) rfl g_t) rfl rfl (c_181 (t := t) (op := fun x => x) hT (by omega) (by omega)) (fun r3 w4 h5 => ?_)
    obtain ⟨rfl, q6f, q6T, q6a, q6b, q6c⟩ := h5
    have Q8 := kI.fin q q6T (by omega) (by omega) q6f (by rw [q6a]; decide)
    have ef0 : w4 74 1 = w 74 1 := q6f _ _ (by unfold kFi; omega)
    refine e_Ok.nrm (q := 14) (st' := []) rfl rfl ?_
    refine e_Ok.ps1 (x := (1, 8)) (q := 15) 1 rfl ?_
    refine e_Ok.getr (z := 74) rfl (el_o rfl) rfl rfl ((q6f 8 3 (by first | exact no_cf_1 | (unfold kFi; omega))).trans (e_Has.eq hT (kt_o rfl))) ⟨by decide, by decide⟩ ?_
    refine e_Ok.ps2 (x := (1, 6 * t + 154)) (y := (0, 4)) (q := 20) 2 rfl ?_
    refine e_Ok.getf (z := t) rfl (lT0 (t := t) rfl g_t) rfl rfl ((q6f (6 * t + 154) 0 (by first | exact no_cf_2 (by omega) | (unfold kFi; omega))).trans (Eq.trans (e_Has.eq hT (kT_0 (t := t) rfl g_t)) (by omega))) (by omega) ?_
    refine e_Ok.ps1 (x := (0, 0)) (q := 24) 1 rfl ?_
    refine e_Ok.callV rfl (e_dq hd rfl) rfl rfl rfl rfl (c_27 q6T (by omega) (by omega) (by omega) (by rw [ef0]; omega)) (fun r9 w10 h11 => ?_)
    obtain ⟨rfl, q12f, q12T, q12x⟩ := h11
    have Q14 := kI.lg Q8 q12T (e_fr.mono q12f (fun c k g => lh_kLg g)) (q12x.2 Q8.lgk)
    have ef2 := q12x.1
    refine e_Ok.nrm (q := 27) (st' := []) rfl rfl ?_
    refine e_Ok.ps2 (x := (1, 6 * t + 154)) (y := (1, 8)) (q := 29) 2 rfl ?_
    refine e_Ok.callV rfl (e_dq hd rfl) rfl rfl rfl rfl (c_50 (e_dq hd rfl) (t := t) q12T (by omega) Q14) (fun r15 w16 h17 => ?_)
    obtain ⟨rfl, q18f, q18T⟩ := h17
    have Q20 := kI.hm Q14 q18T (e_fr.mono q18f (fun c k g => hm_kLk g))
    have ef3 : w16 74 1 = w10 74 1 := q18f _ _ (by unfold kLk; omega)
    refine e_Ok.nrm (q := 32) (st' := []) rfl rfl ?_
    refine e_Ok.rets rfl rfl ?_
    exact ⟨rfl, (show e_fr (kEl t) w w16 from e_fr.trans (show e_fr (kEl t) w w10 from e_fr.trans (show e_fr (kEl t) w w4 from e_fr.trans (e_fr.refl w) (e_fr.mono q6f (fun c k q => by first | exact su_cf_26 q | (unfold kFi at q; unfold kEl; omega)))) (e_fr.mono q12f (fun c k q => by first | exact su_cf_27 q | (unfold kLg at q; unfold kEl; omega)))) (e_fr.mono q18f (fun c k q => by first | exact su_cf_28 q | (unfold kLk at q; unfold kEl; omega)))), q18T, ⟨Q20, by omega, by omega, Or.inr (Eq.trans (show w16 (6 * t + 154) 1 = w4 (6 * t + 154) 1 from ((q18f (6 * t + 154) 1 (by first | exact no_cf_19 (by omega) | (unfold kLk; omega))).trans ((q12f (6 * t + 154) 1 (by first | exact no_cf_20 (by omega) | (unfold kLg; omega))).trans rfl))) q6a)⟩⟩
  · replace h2 : (w (6 * t + 154) 4 : Int) > 0 := Int.not_le.mp (show ¬ ((w (6 * t + 154) 4 : Int) ≤ 0) from h2)
    refine e_Ok.rets rfl rfl ?_
    exact ⟨rfl, (e_fr.refl w), hT, ⟨q, by omega, by omega, Or.inl ⟨rfl, by omega⟩⟩⟩
end
end
