noncomputable section
/-! the class: a turn -/
/-- events so far, and where the task stands -/
def tuE (OP CL : Int → Int → Int) (a p st ev e0 b h : Int) : Prop := (st = 1 → CL a p ≤ h ∧ ((40 ≤ OP a p ∧ ev ≤ e0 + 1 + b) ∨ ev ≤ e0 + b)) ∧ (st ≠ 1 → ev ≤ e0 + b + 3 ∧ (st ≤ 5 → CL a p ≤ h))
theorem tuE.ctl {OP CL : Int → Int → Int} {a p st ev e0 b h : Int} (hs : st = 1) (h0 : 0 ≤ h) (hc : CL a p ≤ 0) (ho : 40 ≤ OP a p) (he : ev ≤ e0 + 1 + b) : tuE OP CL a p st ev e0 b h := ⟨fun _ => ⟨by omega, Or.inl ⟨ho, he⟩⟩, fun g => absurd hs g⟩
theorem tuE.exp {OP CL : Int → Int → Int} {a p st ev e0 b h : Int} (hs : st = 1) (hc : CL a p ≤ h) (he : ev ≤ e0 + b) : tuE OP CL a p st ev e0 b h := ⟨fun _ => ⟨hc, Or.inr he⟩, fun g => absurd hs g⟩
theorem tuE.off {OP CL : Int → Int → Int} {a p st ev e0 b h : Int} (hs : st ≠ 1) (he : ev ≤ e0 + b + 3) (hc : st ≤ 5 → CL a p ≤ h) : tuE OP CL a p st ev e0 b h := ⟨fun g => absurd g hs, fun _ => ⟨he, hc⟩⟩
theorem tuE.lt {OP CL : Int → Int → Int} {a p st ev e0 b h : Int} (q : tuE OP CL a p st ev e0 b h) (hs : st = 1) (ho : OP a p < 40) : CL a p ≤ h ∧ ev ≤ e0 + b := ⟨(q.1 hs).1, (q.1 hs).2.elim (fun g => by omega) (fun g => g)⟩
theorem tuE.ge {OP CL : Int → Int → Int} {a p st ev e0 b h : Int} (q : tuE OP CL a p st ev e0 b h) (hs : st = 1) : CL a p ≤ h ∧ ev ≤ e0 + 1 + b := ⟨(q.1 hs).1, (q.1 hs).2.elim (fun g => g.2) (fun g => by omega)⟩
theorem tuE.all {OP CL : Int → Int → Int} {a p st ev e0 b h : Int} (q : tuE OP CL a p st ev e0 b h) : ev ≤ e0 + b + 3 ∧ (st ≤ 5 → CL a p ≤ h) := by
  by_cases g : st = 1
  · exact ⟨by have := q.ge g; omega, fun _ => (q.ge g).1⟩
  · exact q.2 g
theorem e_Ok.inc1 {fd : Nat} {lay : List eY} {code : Nat → Nat → eE} {I : Nat → xM} {d M nx a b p : Nat} {l : eL} {r : List eV} {w : eW} {Q : List eV → eW → Prop} {x : Int} (hc : code M p = (0, ei_bin eF_add nx, a, b)) (h : ∀ z, (-2147483648 ≤ z ∧ z ≤ 2147483647) → (-2147483648 ≤ x → x ≤ 2147483646 → z = x + 1) ∧ (x = 2147483647 → z = -2147483648) → e_Ok fd lay code I d M (nx, l, (0, z) :: r, w) Q) : e_Ok fd lay code I d M (p, l, (0, 1) :: (0, x) :: r, w) Q := by
  refine e_Ok.step (t' := (nx, l, (0, e32 (x + 1)) :: r, w)) hc rfl (h _ (e32_in _) ⟨fun g1 g2 => e32_id (by omega) (by omega), fun g => by rw [g]; decide⟩)
theorem kCd.nxt {w : eW} {cd x z : Int} {op od : Int → Int} (hT : e_Has kTy w) (hk : kCd w cd op od) (hx : -2147483648 ≤ x ∧ x ≤ 2147483647) (hz : (-2147483648 ≤ x → x ≤ 2147483646 → z = x + 1) ∧ (x = 2147483647 → z = -2147483648)) : (op (z - 1) = op x ∧ od (z - 1) = od x) ∧ (op x ≠ 43 → z = x + 1) := by
  have hl := e_Has.get hT (c := cd) (k := 0) (lo := 0) (hi := 4000) (kD_0 hk.1) (by decide)
  by_cases g : x = 2147483647
  · have e1 := (hk.2 x).2 (by omega)
    have e2 := (hk.2 (z - 1)).2 (by have := hz.2 g; omega)
    exact ⟨⟨by omega, by omega⟩, fun g2 => absurd e1.1 g2⟩
  · have e := hz.1 hx.1 (by omega)
    rw [show z - 1 = x by omega]
    exact ⟨⟨rfl, rfl⟩, fun _ => e⟩
theorem th_kDp {t c k : Int} (g : kDp t c k) : kTh t c k := by
  unfold kDp at g
  rcases g with g | g | g
  · exact Or.inl (hm_kDs (Or.inl g))
  · exact Or.inl (hm_kDs (Or.inr g))
  · exact Or.inr (by omega)
set_option maxHeartbeats 4000000 in
theorem c_43 {d : Nat} (hd : 27 ≤ d) {w : eW} (hT : e_Has kTy w) {t : Int} (gt : 0 ≤ t ∧ t ≤ 15) {OP OD CL : Int → Int → Int} {h : Int} (q : kI w OP OD CL h t) {a : Int} (ga : 0 ≤ a ∧ a ≤ 3) (ha : w (6 * t + 154) 2 = a) {cd : Int} (hcv : w (17 * a + 86) 7 = cd) (h0 : 0 ≤ h) (hst : 1 ≤ w (6 * t + 154) 1 ∧ w (6 * t + 154) 1 ≤ 5) (hcol : CL a (w (6 * t + 154) 3) ≤ h) (he : w 74 1 ≤ 2000000000) : e_Ok 20 elay kcode eI d 43 (0, [(0, (1, 8)), (1, (1, 6 * t + 154))], [], w) (fun r w' => r = [] ∧ e_Has kTy w' ∧ (e_fr kNq w w' ∧ w' 74 0 = w 74 0) ∧ ∃ h', h ≤ h' ∧ kI w' OP OD CL h' (-1) ∧ w 74 1 ≤ w' 74 1 ∧ w' 74 1 ≤ w 74 1 + 24) := by
  obtain ⟨d, rfl⟩ : ∃ e, d = e + 1 := ⟨d - 1, by omega⟩
  have hcd9 := q.cd a (by omega) (by omega)
  rw [hcv] at hcd9
  unfold isCd at hcd9
  have h74w := e_Has.get hT (c := 74) (k := 1) (lo := 0) (hi := 2147483647) rfl (by decide)
  refine e_Ok.run (t' := (1, [(0, (1, 8)), (1, (1, 6 * t + 154))], [(1, 8)], w)) 1 rfl ?_
  refine e_Ok.getr (z := 9) rfl (el_o rfl) rfl rfl (Eq.trans (e_Has.eq hT rfl) (by omega)) (by omega) ?_
  refine e_Ok.run (t' := (5, [(0, (1, 8)), (1, (1, 6 * t + 154))], [(1, 6 * t + 154), (1, 9)], w)) 1 rfl ?_
  refine e_Ok.getf (z := a) rfl (lT0 (t := t) (by omega) (by omega)) rfl rfl ha (by omega) ?_
  refine e_Ok.aald (z := 17 * a + 86) rfl (el_o rfl) rfl (by omega) (Eq.trans (e_Has.eq hT (k9 (by omega))) (by omega)) (by omega) ?_
  refine e_Ok.getr (z := cd) rfl (lA0 (a := a) (by omega) (by omega)) rfl rfl hcv (by omega) ?_
  refine e_Ok.run (t' := (15, [(2, (1, cd)), (0, (1, 8)), (1, (1, 6 * t + 154))], [(0, 0), (1, 8)], w)) 3 rfl ?_
  refine e_Ok.putb rfl (el_o rfl) rfl rfl (by omega) ?_
  generalize hw1 : e_up w 8 11 0 = w1
  have f2 : e_fr kNq w w1 := e_fr.up (e_fr.refl w) hw1 (by unfold kNq; omega)
  have hT3 : e_Has kTy w1 := e_Has.ups hT hw1 rfl
  refine e_Ok.run (t' := (20, [(2, (1, cd)), (0, (1, 8)), (1, (1, 6 * t + 154))], [(0, 0), (1, 8)], w1)) 2 rfl ?_
  refine e_Ok.putf rfl (el_o rfl) rfl rfl ?_
  generalize hw4 : e_up w1 8 8 0 = w4
  have f5 : e_fr kNq w w4 := e_fr.up f2 hw4 (by unfold kNq; omega)
  have hT6 : e_Has kTy w4 := e_Has.ups hT3 hw4 rfl
  have Q7 := kI.hm q hT6 (fun c k g => by rw [← hw4, e_up_ne _ _ (nds g (by decide)), ← hw1]; exact e_up_ne _ _ (nds g (by decide)))
  have hsk : sK w4 := sK.init hw1 hw4
  have es : w4 (6 * t + 154) 1 = w (6 * t + 154) 1 := (by rw [← hw4]; exact (e_up_ne _ _ (Or.inr (by omega))).trans (by rw [← hw1]; exact (e_up_ne _ _ (Or.inr (by omega))).trans rfl))
  refine e_Ok.run (t' := (25, [(2, (1, cd)), (0, (1, 8)), (1, (1, 6 * t + 154))], [(1, 6 * t + 154), (1, 8)], w4)) 2 rfl ?_
  refine e_Ok.callV rfl (by omega) rfl rfl rfl rfl (c_45 (by omega) (t := t) hT6 (by omega) Q7 hsk (by rw [es]; exact hst)) (fun r8 w9 h10 => ?_)
  obtain ⟨rfl, q11f, q11T, q11x⟩ := h10
  have f12 : e_fr kNq w w9 := e_fr.trans f5 (e_fr.mono q11f (fun c k q => by exact nq_kGn (by omega) q))
  have x2 : w9 (6 * t + 154) 2 = a := ((q11f (6 * t + 154) 2 (by unfold kGn; omega)).trans (by rw [← hw4]; exact (e_up_ne _ _ (Or.inr (by omega))).trans (by rw [← hw1]; exact (e_up_ne _ _ (Or.inr (by omega))).trans ha)))
  have x3 : w9 (6 * t + 154) 3 = w (6 * t + 154) 3 := ((q11f (6 * t + 154) 3 (by unfold kGn; omega)).trans (by rw [← hw4]; exact (e_up_ne _ _ (Or.inr (by omega))).trans (by rw [← hw1]; exact (e_up_ne _ _ (Or.inr (by omega))).trans rfl)))
  have x7 : w9 (17 * a + 86) 7 = cd := ((q11f (17 * a + 86) 7 (by unfold kGn; omega)).trans (by rw [← hw4]; exact (e_up_ne _ _ (Or.inr (by omega))).trans (by rw [← hw1]; exact (e_up_ne _ _ (Or.inr (by omega))).trans hcv)))
  have xe : w9 74 1 = w 74 1 := ((q11f 74 1 (by unfold kGn; omega)).trans (by rw [← hw4]; exact (e_up_ne _ _ (Or.inl (by omega))).trans (by rw [← hw1]; exact (e_up_ne _ _ (Or.inl (by omega))).trans rfl)))
  have xt : w9 74 0 = w 74 0 := ((q11f 74 0 (by unfold kGn; omega)).trans (by rw [← hw4]; exact (e_up_ne _ _ (Or.inl (by omega))).trans (by rw [← hw1]; exact (e_up_ne _ _ (Or.inl (by omega))).trans rfl)))
  have htu0 : tuE OP CL a (w9 (6 * t + 154) 3) (w9 (6 * t + 154) 1) (w9 74 1) (w 74 1) 0 h := by rw [x3, xe]; exact ⟨fun _ => ⟨hcol, Or.inr (by omega)⟩, fun _ => ⟨by omega, fun _ => hcol⟩⟩
  show e_Ok 20 elay kcode eI (d + 1) 43 (28, [(2, (1, cd)), (0, (1, 8)), (1, (1, 6 * t + 154))], [], w9) _
  refine e_Ok.run (t' := (33, [(4, (0, 0)), (3, (0, 0)), (2, (1, cd)), (0, (1, 8)), (1, (1, 6 * t + 154))], [], w9)) 4 rfl ?_
  have hL13 : ∀ (nn : Nat) (y3 : Int) (y4 : Int) (v1 : eW) (h1 : Int), e_fr kNq w v1 ∧ e_Has kTy v1 ∧ v1 74 0 = w 74 0 ∧ h ≤ h1 ∧ kI v1 OP OD CL h1 t ∧ sK v1 ∧ v1 (6 * t + 154) 2 = a ∧ v1 (17 * a + 86) 7 = cd ∧ tuE OP CL a (v1 (6 * t + 154) 3) (v1 (6 * t + 154) 1) (v1 74 1) (w 74 1) y3 h1 ∧ w 74 1 ≤ v1 74 1 ∧ (0 ≤ y3 ∧ y3 ≤ 20) ∧ (0 ≤ y4 ∧ y4 ≤ 1000000) → 1000000 - y4 < nn → e_Ok 20 elay kcode eI (d + 1) 43 (33, [(0, (1, 8)), (1, (1, 6 * t + 154)), (2, (1, cd)), (3, (0, y3)), (4, (0, y4))], [], v1) (fun r w' => r = [] ∧ e_Has kTy w' ∧ (e_fr kNq w w' ∧ w' 74 0 = w 74 0) ∧ ∃ h', h ≤ h' ∧ kI w' OP OD CL h' (-1) ∧ w 74 1 ≤ w' 74 1 ∧ w' 74 1 ≤ w 74 1 + 24) := by
    intro nn
    induction nn with
    | zero => intro y3 y4 v1 h1 hj hm; obtain ⟨j15, j16, j17, j18, j19, j20, j21, j22, j23, j24, j25, j26⟩ := hj; exfalso; omega
    | succ nn ih14 =>
      intro y3 y4 v1 h1 hj hm
      obtain ⟨j15, j16, j17, j18, j19, j20, j21, j22, j23, j24, j25, j26⟩ := hj
      refine e_Ok.run (t' := (37, [(0, (1, 8)), (1, (1, 6 * t + 154)), (2, (1, cd)), (3, (0, y3)), (4, (0, y4))], [(0, 1000000), (0, y4)], v1)) 2 rfl ?_
      refine e_Ok.if2 rfl (fun h27 => ?_) (fun h27 => ?_)
      · replace h27 : (y4 : Int) ≥ 1000000 := h27
        refine e_Ok.rets rfl rfl ?_
        have htl := j23.all
        exact ⟨rfl, j16, ⟨j15, j17⟩, h1, j18, j19.own (fun _ g => by rw [j21]; exact htl.2 g), by omega, by omega⟩
      · replace h27 : (y4 : Int) < 1000000 := by have q : ¬ ((y4 : Int) ≥ 1000000) := h27; omega
        refine e_Ok.run (t' := (41, [(0, (1, 8)), (1, (1, 6 * t + 154)), (2, (1, cd)), (3, (0, y3)), (4, (0, y4))], [(1, 6 * t + 154)], v1)) 1 rfl ?_
        have h28 := (e_Has.get j16 (c := 6 * t + 154) (k := 1) (lo := 0) (hi := 7) (kT_1 (t := t) (by omega) (by omega)) (by decide))
        refine e_Ok.getf (z := v1 (6 * t + 154) 1) rfl (lT0 (t := t) (by omega) (by omega)) rfl rfl rfl (by omega) ?_
        refine e_Ok.run (t' := (45, [(0, (1, 8)), (1, (1, 6 * t + 154)), (2, (1, cd)), (3, (0, y3)), (4, (0, y4))], [(0, 1), (0, v1 (6 * t + 154) 1)], v1)) 1 rfl ?_
        refine e_Ok.if2 rfl (fun h29 => ?_) (fun h29 => ?_)
        · replace h29 : (v1 (6 * t + 154) 1 : Int) ≠ 1 := h29
          refine e_Ok.rets rfl rfl ?_
          have htl := j23.all
          exact ⟨rfl, j16, ⟨j15, j17⟩, h1, j18, j19.own (fun _ g => by rw [j21]; exact htl.2 g), by omega, by omega⟩
        · replace h29 : (v1 (6 * t + 154) 1 : Int) = 1 := by have q : ¬ ((v1 (6 * t + 154) 1 : Int) ≠ 1) := h29; omega
          have hcoL := j19.co (a := a) (by omega) (by omega); rw [j22] at hcoL
          have hcdL := hcoL.1.1; have hDL := hcoL.2.1; have hcd0 := hcdL; unfold isCd at hcd0
          have hs1 : v1 (6 * t + 154) 1 = 1 := by omega
          have htg := j23.ge hs1
          have h3 := e_Has.get j16 (c := 6 * t + 154) (k := 3) (lo := -2147483648) (hi := 2147483647) (kT_3 (t := t) rfl gt) (by decide)
          have h74 := e_Has.get j16 (c := 74) (k := 1) (lo := 0) (hi := 2147483647) rfl (by decide)
          have hr0 := j20.2.2.1
          refine e_Ok.run (t' := (50, [(0, (1, 8)), (1, (1, 6 * t + 154)), (2, (1, cd)), (3, (0, y3)), (4, (0, y4))], [(1, 6 * t + 154), (1, cd)], v1)) 2 rfl ?_
          refine e_Ok.getf (z := v1 (6 * t + 154) 3) rfl (lT0 (t := t) (by omega) (by omega)) rfl rfl rfl (by omega) ?_
          refine e_Ok.callV rfl (by omega) rfl (lD0 hcdL) rfl rfl (c_23 j16 hcoL.1 (by omega)) (fun r30 w31 h32 => ?_)
          obtain ⟨z33, rfl, rfl, q34, q34r⟩ := h32
          replace q34 : z33 = OP a (v1 (6 * t + 154) 3) := q34
          show e_Ok 20 elay kcode eI (d + 1) 43 (56, [(0, (1, 8)), (1, (1, 6 * t + 154)), (2, (1, cd)), (3, (0, y3)), (4, (0, y4))], [(0, z33)], v1) _
          refine e_Ok.run (t' := (60, [(5, (0, z33)), (0, (1, 8)), (1, (1, 6 * t + 154)), (2, (1, cd)), (3, (0, y3)), (4, (0, y4))], [(1, 6 * t + 154), (1, cd)], v1)) 3 rfl ?_
          refine e_Ok.getf (z := v1 (6 * t + 154) 3) rfl (lT0 (t := t) (by omega) (by omega)) rfl rfl rfl (by omega) ?_
          refine e_Ok.callV rfl (by omega) rfl (lD0 hcdL) rfl rfl (c_24 j16 hcoL.1 (by omega)) (fun r35 w36 h37 => ?_)
          obtain ⟨z38, rfl, rfl, q40, q40r⟩ := h37
          replace q40 : z38 = OD a (v1 (6 * t + 154) 3) := q40
          show e_Ok 20 elay kcode eI (d + 1) 43 (66, [(5, (0, z33)), (0, (1, 8)), (1, (1, 6 * t + 154)), (2, (1, cd)), (3, (0, y3)), (4, (0, y4))], [(0, z38)], v1) _
          refine e_Ok.run (t' := (69, [(6, (0, z38)), (5, (0, z33)), (0, (1, 8)), (1, (1, 6 * t + 154)), (2, (1, cd)), (3, (0, y3)), (4, (0, y4))], [(1, 8)], v1)) 2 rfl ?_
          refine e_Ok.getf (z := v1 8 11) rfl (el_o rfl) rfl rfl rfl (by omega) ?_
          refine e_Ok.if1 rfl (fun h41 => ?_) (fun h41 => ?_)
          · replace h41 : (v1 8 11 : Int) = 0 := h41
            refine e_Ok.run (t' := (88, [(6, (0, z38)), (5, (0, z33)), (0, (1, 8)), (1, (1, 6 * t + 154)), (2, (1, cd)), (3, (0, y3)), (4, (0, y4))], [(0, 50), (0, z33)], v1)) 2 rfl ?_
            refine e_Ok.if2 rfl (fun h42 => ?_) (fun h42 => ?_)
            · replace h42 : (z33 : Int) ≠ 50 := h42
              refine e_Ok.run (t' := (128, [(6, (0, z38)), (5, (0, z33)), (0, (1, 8)), (1, (1, 6 * t + 154)), (2, (1, cd)), (3, (0, y3)), (4, (0, y4))], [(1, 6 * t + 154), (1, 6 * t + 154)], v1)) 2 rfl ?_
              refine e_Ok.getf (z := v1 (6 * t + 154) 3) rfl (lT0 (t := t) (by omega) (by omega)) rfl rfl rfl (by omega) ?_
              refine e_Ok.run (t' := (132, [(6, (0, z38)), (5, (0, z33)), (0, (1, 8)), (1, (1, 6 * t + 154)), (2, (1, cd)), (3, (0, y3)), (4, (0, y4))], [(0, 1), (0, v1 (6 * t + 154) 3), (1, 6 * t + 154)], v1)) 1 rfl ?_
              refine e_Ok.inc1 rfl (fun z43 z43r hz43 => ?_)
              have hnx := hcoL.1.nxt j16 (x := v1 (6 * t + 154) 3) (by omega) hz43
              refine e_Ok.putf rfl (lT0 (t := t) (by omega) (by omega)) rfl rfl ?_
              generalize hw44 : e_up v1 (6 * t + 154) 3 z43 = w44
              have f45 : e_fr kNq w w44 := e_fr.up j15 hw44 (by unfold kNq; omega)
              have hT46 : e_Has kTy w44 := e_Has.upr j16 hw44 (kT_3 (t := t) (by omega) (by omega)) (by omega)
              have Q47 := kI.pc j19 hT46 (by omega) hs1 hw44
              have hskp : sK w44 := sK.eq (fun c k g => by rw [← hw44, e_up_ne _ _ (by omega)]) j20
              have xp : w44 (6 * t + 154) 3 = z43 := (by rw [← hw44]; exact e_up_eq _ _ _ _)
              have xs : w44 (6 * t + 154) 1 = 1 := by rw [← hw44, e_up_ne _ _ (by omega)]; exact hs1
              have xa : w44 (6 * t + 154) 2 = a := by rw [← hw44, e_up_ne _ _ (by omega)]; exact j21
              have xc : w44 (17 * a + 86) 7 = cd := by rw [← hw44, e_up_ne _ _ (by omega)]; exact j22
              have xv : w44 74 1 = v1 74 1 := by rw [← hw44, e_up_ne _ _ (by omega)]
              refine e_Ok.run (t' := (140, [(6, (0, z38)), (5, (0, z33)), (0, (1, 8)), (1, (1, 6 * t + 154)), (2, (1, cd)), (3, (0, y3)), (4, (0, y4))], [(0, 8), (0, z33)], w44)) 2 rfl ?_
              refine e_Ok.if2 rfl (fun h48 => ?_) (fun h48 => ?_)
              · replace h48 : (z33 : Int) > 8 := h48
                refine e_Ok.run (t' := (159, [(6, (0, z38)), (5, (0, z33)), (0, (1, 8)), (1, (1, 6 * t + 154)), (2, (1, cd)), (3, (0, y3)), (4, (0, y4))], [(0, 13), (0, z33)], w44)) 2 rfl ?_
                refine e_Ok.if2 rfl (fun h49 => ?_) (fun h49 => ?_)
                · replace h49 : (z33 : Int) > 13 := h49
                  refine e_Ok.run (t' := (178, [(6, (0, z38)), (5, (0, z33)), (0, (1, 8)), (1, (1, 6 * t + 154)), (2, (1, cd)), (3, (0, y3)), (4, (0, y4))], [(0, 24), (0, z33)], w44)) 2 rfl ?_
                  refine e_Ok.if2 rfl (fun h50 => ?_) (fun h50 => ?_)
                  · replace h50 : (z33 : Int) > 24 := h50
                    refine e_Ok.run (t' := (202, [(6, (0, z38)), (5, (0, z33)), (0, (1, 8)), (1, (1, 6 * t + 154)), (2, (1, cd)), (3, (0, y3)), (4, (0, y4))], [(0, 39), (0, z33)], w44)) 2 rfl ?_
                    refine e_Ok.if2 rfl (fun h51 => ?_) (fun h51 => ?_)
                    · replace h51 : (z33 : Int) > 39 := h51
                      refine e_Ok.run (t' := (225, [(6, (0, z38)), (5, (0, z33)), (0, (1, 8)), (1, (1, 6 * t + 154)), (2, (1, cd)), (3, (0, y3)), (4, (0, y4))], [(0, z38), (0, z33), (1, cd), (1, 6 * t + 154), (1, 8)], w44)) 5 rfl ?_
                      refine e_Ok.callV rfl (by omega) rfl rfl rfl rfl (c_71 (by omega) (t := t) hT46 (by omega) (by omega) (by omega) Q47 hskp xs (by omega) xa xc (by rw [xp]; exact hnx.1.1.trans q34.symm) (by rw [xp]; exact hnx.1.2.trans q40.symm) (by omega) (by omega)) (fun r52 w53 h54 => ?_)
                      obtain ⟨rfl, q55f, q55T, q55x⟩ := h54
                      have f56 : e_fr kNq w w53 := e_fr.trans f45 (e_fr.mono q55f (fun c k q => by exact nq_kLd (by omega) q))
                      show e_Ok 20 elay kcode eI (d + 1) 43 (228, [(6, (0, z38)), (5, (0, z33)), (0, (1, 8)), (1, (1, 6 * t + 154)), (2, (1, cd)), (3, (0, y3)), (4, (0, y4))], [], w53) _
                      have hev : (v1 74 1 ≤ w53 74 1 ∧ w53 74 1 ≤ v1 74 1 + 1) := by have g := q55x.2.2.2; omega
                      have htn : tuE OP CL a (w53 (6 * t + 154) 3) (w53 (6 * t + 154) 1) (w53 74 1) (w 74 1) y3 h1 := by
                        rcases q55x.2.2.2.2.2.2 with g | g
                        · have g2 := q55x.2.2.2.2.2.1 g; exact tuE.ctl g (by omega) (hDL.2.1 _ g2.1) g2.1 (by omega)
                        · exact tuE.off (by rw [g]; decide) (by omega) (fun g3 => by omega)
                      have htx : w53 74 0 = w 74 0 := by rw [q55f _ _ (by unfold kLd; omega), ← hw44, e_up_ne _ _ (by omega)]; exact j17
                      have hcx : w53 (17 * a + 86) 7 = cd := Eq.trans (q55f _ _ (by unfold kLd; omega)) xc
                      refine e_Ok.inc (z := y4 + 1) rfl rfl (by omega) (by omega) ?_
                      show e_Ok 20 elay kcode eI (d + 1) 43 (231, [(4, (0, y4 + 1)), (6, (0, z38)), (5, (0, z33)), (0, (1, 8)), (1, (1, 6 * t + 154)), (2, (1, cd)), (3, (0, y3))], [], w53) _
                      refine e_Ok.run (t' := (33, [(4, (0, y4 + 1)), (6, (0, z38)), (5, (0, z33)), (0, (1, 8)), (1, (1, 6 * t + 154)), (2, (1, cd)), (3, (0, y3))], [], w53)) 1 rfl ?_
                      refine e_Ok.sub kAlk (e_sub_of rfl ?_) (ih14 y3 (y4 + 1) w53 h1 ⟨f56, q55T, htx, j18, q55x.1, q55x.2.1, q55x.2.2.1, hcx, htn, (by omega), by omega, by omega⟩ (by omega))
                      exact ⟨rfl, rfl, rfl, rfl, rfl, trivial⟩
                    · replace h51 : (z33 : Int) ≤ 39 := by have q : ¬ ((z33 : Int) > 39) := h51; omega
                      refine e_Ok.run (t' := (212, [(6, (0, z38)), (5, (0, z33)), (0, (1, 8)), (1, (1, 6 * t + 154)), (2, (1, cd)), (3, (0, y3)), (4, (0, y4))], [(0, z38), (0, z33), (1, cd), (1, 6 * t + 154), (1, 8)], w44)) 5 rfl ?_
                      refine e_Ok.callV rfl (by omega) rfl rfl rfl rfl (c_59 (by omega) hT46 (by omega) (by omega) (by omega) Q47 hskp xs (by omega) xa xc (by omega) (by rw [xp]; exact hnx.1.1.trans q34.symm) (by rw [xp]; exact hnx.1.2.trans q40.symm) (by rw [xp, hnx.2 (by omega), show v1 (6 * t + 154) 3 + 1 - 1 = v1 (6 * t + 154) 3 by omega]; exact htg.1) (by omega)) (fun r57 w58 h59 => ?_)
                      obtain ⟨rfl, q60T, q60f, q60h, q60x⟩ := h59
                      have f61 : e_fr kNq w w58 := e_fr.trans f45 (e_fr.mono q60f.1 (fun c k q => by exact q))
                      show e_Ok 20 elay kcode eI (d + 1) 43 (215, [(6, (0, z38)), (5, (0, z33)), (0, (1, 8)), (1, (1, 6 * t + 154)), (2, (1, cd)), (3, (0, y3)), (4, (0, y4))], [], w58) _
                      refine e_Ok.run (t' := (228, [(6, (0, z38)), (5, (0, z33)), (0, (1, 8)), (1, (1, 6 * t + 154)), (2, (1, cd)), (3, (0, y3)), (4, (0, y4))], [], w58)) 1 rfl ?_
                      have hlt : CL a (v1 (6 * t + 154) 3) ≤ h1 ∧ v1 74 1 ≤ w 74 1 + y3 := j23.lt hs1 (by omega)
                      have hev : (v1 74 1 ≤ w58 74 1 ∧ w58 74 1 ≤ v1 74 1 + 1) := by have g := q60x.2.2.2.2.2.1; omega
                      have htn : tuE OP CL a (w58 (6 * t + 154) 3) (w58 (6 * t + 154) 1) (w58 74 1) (w 74 1) y3 q60h := by
                        rcases q60x.2.2.2.2.2.2.2.2 with ⟨g1, g2⟩ | ⟨g1, g2, g3, g4, g5⟩ | ⟨g1, g2⟩
                        · exact tuE.ctl g1 (by have := q60x.1; omega) (hDL.2.1 _ g2) g2 (by omega)
                        · refine tuE.exp g2 ?_ (by omega)
                          rw [g3, xp, hnx.2 (by omega)]; have g := (hDL.2.2 (v1 (6 * t + 154) 3)).2.2.2.2.2.2.2.1 (by omega); omega
                        · exact tuE.off g1 (by omega) (fun _ => g2)
                      have htx : w58 74 0 = w 74 0 := by rw [q60f.2, ← hw44, e_up_ne _ _ (by omega)]; exact j17
                      refine e_Ok.inc (z := y4 + 1) rfl rfl (by omega) (by omega) ?_
                      show e_Ok 20 elay kcode eI (d + 1) 43 (231, [(4, (0, y4 + 1)), (6, (0, z38)), (5, (0, z33)), (0, (1, 8)), (1, (1, 6 * t + 154)), (2, (1, cd)), (3, (0, y3))], [], w58) _
                      refine e_Ok.run (t' := (33, [(4, (0, y4 + 1)), (6, (0, z38)), (5, (0, z33)), (0, (1, 8)), (1, (1, 6 * t + 154)), (2, (1, cd)), (3, (0, y3))], [], w58)) 1 rfl ?_
                      refine e_Ok.sub kAlk (e_sub_of rfl ?_) (ih14 y3 (y4 + 1) w58 q60h ⟨f61, q60T, htx, (Int.le_trans j18 q60x.1), q60x.2.1, q60x.2.2.1, q60x.2.2.2.1, q60x.2.2.2.2.1, htn, (by omega), by omega, by omega⟩ (by omega))
                      exact ⟨rfl, rfl, rfl, rfl, rfl, trivial⟩
                  · replace h50 : (z33 : Int) ≤ 24 := by have q : ¬ ((z33 : Int) > 24) := h50; omega
                    refine e_Ok.run (t' := (185, [(6, (0, z38)), (5, (0, z33)), (0, (1, 8)), (1, (1, 6 * t + 154)), (2, (1, cd)), (3, (0, y3)), (4, (0, y4))], [(1, 8), (0, z33), (1, 8)], w44)) 3 rfl ?_
                    refine e_Ok.callV rfl (by omega) rfl rfl rfl rfl (c_53 hT46 hskp) (fun r62 w63 h64 => ?_)
                    obtain ⟨z66, rfl, q65f, q65T, q65r, q65x⟩ := h64
                    have f67 : e_fr kNq w w63 := e_fr.trans f45 (e_fr.mono q65f (fun c k q => by exact nq_kDs q))
                    have Q68 := kI.hm Q47 q65T (e_fr.mono q65f (fun c k g => hm_kDs g))
                    show e_Ok 20 elay kcode eI (d + 1) 43 (188, [(6, (0, z38)), (5, (0, z33)), (0, (1, 8)), (1, (1, 6 * t + 154)), (2, (1, cd)), (3, (0, y3)), (4, (0, y4))], [(0, z66), (0, z33), (1, 8)], w63) _
                    refine e_Ok.run (t' := (189, [(6, (0, z38)), (5, (0, z33)), (0, (1, 8)), (1, (1, 6 * t + 154)), (2, (1, cd)), (3, (0, y3)), (4, (0, y4))], [(1, 8), (0, z66), (0, z33), (1, 8)], w63)) 1 rfl ?_
                    refine e_Ok.callV rfl (by omega) rfl rfl rfl rfl (c_53 q65T q65x) (fun r69 w70 h71 => ?_)
                    obtain ⟨z73, rfl, q72f, q72T, q72r, q72x⟩ := h71
                    have f74 : e_fr kNq w w70 := e_fr.trans f67 (e_fr.mono q72f (fun c k q => by exact nq_kDs q))
                    have Q75 := kI.hm Q68 q72T (e_fr.mono q72f (fun c k g => hm_kDs g))
                    show e_Ok 20 elay kcode eI (d + 1) 43 (192, [(6, (0, z38)), (5, (0, z33)), (0, (1, 8)), (1, (1, 6 * t + 154)), (2, (1, cd)), (3, (0, y3)), (4, (0, y4))], [(0, z73), (0, z66), (0, z33), (1, 8)], w70) _
                    refine e_Ok.callV rfl (by omega) rfl rfl rfl rfl (c_58 (by omega) q72T (by omega) (by omega) (by omega) q72x) (fun r76 w77 h78 => ?_)
                    obtain ⟨rfl, q79f, q79T, q79x⟩ := h78
                    have f80 : e_fr kNq w w77 := e_fr.trans f74 (e_fr.mono q79f (fun c k q => by exact nq_kDs q))
                    have Q81 := kI.hm Q75 q79T (e_fr.mono q79f (fun c k g => hm_kDs g))
                    show e_Ok 20 elay kcode eI (d + 1) 43 (195, [(6, (0, z38)), (5, (0, z33)), (0, (1, 8)), (1, (1, 6 * t + 154)), (2, (1, cd)), (3, (0, y3)), (4, (0, y4))], [], w77) _
                    refine e_Ok.run (t' := (228, [(6, (0, z38)), (5, (0, z33)), (0, (1, 8)), (1, (1, 6 * t + 154)), (2, (1, cd)), (3, (0, y3)), (4, (0, y4))], [], w77)) 1 rfl ?_
                    have hlt : CL a (v1 (6 * t + 154) 3) ≤ h1 ∧ v1 74 1 ≤ w 74 1 + y3 := j23.lt hs1 (by omega)
                    have z1 : w77 (6 * t + 154) 1 = v1 (6 * t + 154) 1 := ((q79f (6 * t + 154) 1 (by unfold kDs; omega)).trans ((q72f (6 * t + 154) 1 (by unfold kDs; omega)).trans ((q65f (6 * t + 154) 1 (by unfold kDs; omega)).trans (by rw [← hw44]; exact (e_up_ne _ _ (Or.inr (by omega))).trans rfl))))
                    have z2 : w77 (6 * t + 154) 2 = a := ((q79f (6 * t + 154) 2 (by unfold kDs; omega)).trans ((q72f (6 * t + 154) 2 (by unfold kDs; omega)).trans ((q65f (6 * t + 154) 2 (by unfold kDs; omega)).trans (by rw [← hw44]; exact (e_up_ne _ _ (Or.inr (by omega))).trans j21))))
                    have z7 : w77 (17 * a + 86) 7 = cd := ((q79f (17 * a + 86) 7 (by unfold kDs; omega)).trans ((q72f (17 * a + 86) 7 (by unfold kDs; omega)).trans ((q65f (17 * a + 86) 7 (by unfold kDs; omega)).trans (by rw [← hw44]; exact (e_up_ne _ _ (Or.inr (by omega))).trans ((j15 (17 * a + 86) 7 (by unfold kNq; omega)).trans hcv)))))
                    have ze : w77 74 1 = v1 74 1 := ((q79f 74 1 (by unfold kDs; omega)).trans ((q72f 74 1 (by unfold kDs; omega)).trans ((q65f 74 1 (by unfold kDs; omega)).trans (by rw [← hw44]; exact (e_up_ne _ _ (Or.inr (by omega))).trans rfl))))
                    have zt : w77 74 0 = v1 74 0 := ((q79f 74 0 (by unfold kDs; omega)).trans ((q72f 74 0 (by unfold kDs; omega)).trans ((q65f 74 0 (by unfold kDs; omega)).trans (by rw [← hw44]; exact (e_up_ne _ _ (Or.inr (by omega))).trans rfl))))
                    have hpc : CL a (w77 (6 * t + 154) 3) ≤ h1 := by rw [show w77 (6 * t + 154) 3 = z43 from ((q79f (6 * t + 154) 3 (by unfold kDs; omega)).trans ((q72f (6 * t + 154) 3 (by unfold kDs; omega)).trans ((q65f (6 * t + 154) 3 (by unfold kDs; omega)).trans (by rw [← hw44]; exact e_up_eq _ _ _ _)))), hnx.2 (by omega)]; have g := (hDL.2.2 (v1 (6 * t + 154) 3)).2.2.2.2.2.1 (by omega); omega
                    have htn : tuE OP CL a (w77 (6 * t + 154) 3) (w77 (6 * t + 154) 1) (w77 74 1) (w 74 1) y3 h1 := tuE.exp (z1.trans hs1) hpc (by omega)
                    refine e_Ok.inc (z := y4 + 1) rfl rfl (by omega) (by omega) ?_
                    show e_Ok 20 elay kcode eI (d + 1) 43 (231, [(4, (0, y4 + 1)), (6, (0, z38)), (5, (0, z33)), (0, (1, 8)), (1, (1, 6 * t + 154)), (2, (1, cd)), (3, (0, y3))], [], w77) _
                    refine e_Ok.run (t' := (33, [(4, (0, y4 + 1)), (6, (0, z38)), (5, (0, z33)), (0, (1, 8)), (1, (1, 6 * t + 154)), (2, (1, cd)), (3, (0, y3))], [], w77)) 1 rfl ?_
                    refine e_Ok.sub kAlk (e_sub_of rfl ?_) (ih14 y3 (y4 + 1) w77 h1 ⟨f80, q79T, (zt.trans j17), j18, Q81, q79x, z2, z7, htn, (by omega), by omega, by omega⟩ (by omega))
                    exact ⟨rfl, rfl, rfl, rfl, rfl, trivial⟩
                · replace h49 : (z33 : Int) ≤ 13 := by have q : ¬ ((z33 : Int) > 13) := h49; omega
                  refine e_Ok.run (t' := (168, [(6, (0, z38)), (5, (0, z33)), (0, (1, 8)), (1, (1, 6 * t + 154)), (2, (1, cd)), (3, (0, y3)), (4, (0, y4))], [(0, z38), (0, z33), (1, 6 * t + 154), (1, 8)], w44)) 4 rfl ?_
                  refine e_Ok.callV rfl (by omega) rfl rfl rfl rfl (c_57 (by omega) (t := t) hT46 (by omega) (by omega) (by omega) hskp) (fun r82 w83 h84 => ?_)
                  obtain ⟨rfl, q85f, q85T, q85x⟩ := h84
                  have f86 : e_fr kNq w w83 := e_fr.trans f45 (e_fr.mono q85f (fun c k q => by exact nq_kDp (by omega) q))
                  have Q87 := kI.tsx Q47 q85T (by omega) q85f (fun c k g => th_kDp g) (by unfold kDp; omega) xs ((kI.tsx0 Q47 (by omega) xs).eq (fun d k g => q85f _ _ (by unfold kDp; omega)))
                  show e_Ok 20 elay kcode eI (d + 1) 43 (171, [(6, (0, z38)), (5, (0, z33)), (0, (1, 8)), (1, (1, 6 * t + 154)), (2, (1, cd)), (3, (0, y3)), (4, (0, y4))], [], w83) _
                  refine e_Ok.run (t' := (228, [(6, (0, z38)), (5, (0, z33)), (0, (1, 8)), (1, (1, 6 * t + 154)), (2, (1, cd)), (3, (0, y3)), (4, (0, y4))], [], w83)) 1 rfl ?_
                  have hlt : CL a (v1 (6 * t + 154) 3) ≤ h1 ∧ v1 74 1 ≤ w 74 1 + y3 := j23.lt hs1 (by omega)
                  have z1 : w83 (6 * t + 154) 1 = v1 (6 * t + 154) 1 := ((q85f (6 * t + 154) 1 (by unfold kDp; omega)).trans (by rw [← hw44]; exact (e_up_ne _ _ (Or.inr (by omega))).trans rfl))
                  have z2 : w83 (6 * t + 154) 2 = a := ((q85f (6 * t + 154) 2 (by unfold kDp; omega)).trans (by rw [← hw44]; exact (e_up_ne _ _ (Or.inr (by omega))).trans j21))
                  have z7 : w83 (17 * a + 86) 7 = cd := ((q85f (17 * a + 86) 7 (by unfold kDp; omega)).trans (by rw [← hw44]; exact (e_up_ne _ _ (Or.inr (by omega))).trans ((j15 (17 * a + 86) 7 (by unfold kNq; omega)).trans hcv)))
                  have ze : w83 74 1 = v1 74 1 := ((q85f 74 1 (by unfold kDp; omega)).trans (by rw [← hw44]; exact (e_up_ne _ _ (Or.inr (by omega))).trans rfl))
                  have zt : w83 74 0 = v1 74 0 := ((q85f 74 0 (by unfold kDp; omega)).trans (by rw [← hw44]; exact (e_up_ne _ _ (Or.inr (by omega))).trans rfl))
                  have hpc : CL a (w83 (6 * t + 154) 3) ≤ h1 := by rcases q85x.2 with g | ⟨g1, g2⟩; (rw [g, xp, hnx.2 (by omega)]; have g := (hDL.2.2 (v1 (6 * t + 154) 3)).2.2.2.2.2.1 (by omega); omega); (rw [g2, q40]; have g := (hDL.2.2 (v1 (6 * t + 154) 3)).2.2.2.2.2.2.1 (by omega); omega)
                  have htn : tuE OP CL a (w83 (6 * t + 154) 3) (w83 (6 * t + 154) 1) (w83 74 1) (w 74 1) y3 h1 := tuE.exp (z1.trans hs1) hpc (by omega)
                  refine e_Ok.inc (z := y4 + 1) rfl rfl (by omega) (by omega) ?_
                  show e_Ok 20 elay kcode eI (d + 1) 43 (231, [(4, (0, y4 + 1)), (6, (0, z38)), (5, (0, z33)), (0, (1, 8)), (1, (1, 6 * t + 154)), (2, (1, cd)), (3, (0, y3))], [], w83) _
                  refine e_Ok.run (t' := (33, [(4, (0, y4 + 1)), (6, (0, z38)), (5, (0, z33)), (0, (1, 8)), (1, (1, 6 * t + 154)), (2, (1, cd)), (3, (0, y3))], [], w83)) 1 rfl ?_
                  refine e_Ok.sub kAlk (e_sub_of rfl ?_) (ih14 y3 (y4 + 1) w83 h1 ⟨f86, q85T, (zt.trans j17), j18, Q87, q85x.1, z2, z7, htn, (by omega), by omega, by omega⟩ (by omega))
                  exact ⟨rfl, rfl, rfl, rfl, rfl, trivial⟩
              · replace h48 : (z33 : Int) ≤ 8 := by have q : ¬ ((z33 : Int) > 8) := h48; omega
                refine e_Ok.run (t' := (149, [(6, (0, z38)), (5, (0, z33)), (0, (1, 8)), (1, (1, 6 * t + 154)), (2, (1, cd)), (3, (0, y3)), (4, (0, y4))], [(0, z38), (0, z33), (1, 6 * t + 154), (1, 8)], w44)) 4 rfl ?_
                refine e_Ok.callV rfl (by omega) rfl rfl rfl rfl (c_54 (by omega) (t := t) (a := a) hT46 (by omega) (by omega) (by omega) (by omega) hskp xa (fun g => by have g2 := (hDL.2.2 (v1 (6 * t + 154) 3)).1 (by omega); omega)) (fun r88 w89 h90 => ?_)
                obtain ⟨rfl, q91f, q91T, q91x⟩ := h90
                have f92 : e_fr kNq w w89 := e_fr.trans f45 (e_fr.mono q91f (fun c k q => by exact nq_kDs q))
                have Q93 := kI.hm Q47 q91T (e_fr.mono q91f (fun c k g => hm_kDs g))
                show e_Ok 20 elay kcode eI (d + 1) 43 (152, [(6, (0, z38)), (5, (0, z33)), (0, (1, 8)), (1, (1, 6 * t + 154)), (2, (1, cd)), (3, (0, y3)), (4, (0, y4))], [], w89) _
                refine e_Ok.run (t' := (228, [(6, (0, z38)), (5, (0, z33)), (0, (1, 8)), (1, (1, 6 * t + 154)), (2, (1, cd)), (3, (0, y3)), (4, (0, y4))], [], w89)) 1 rfl ?_
                have hlt : CL a (v1 (6 * t + 154) 3) ≤ h1 ∧ v1 74 1 ≤ w 74 1 + y3 := j23.lt hs1 (by omega)
                have z1 : w89 (6 * t + 154) 1 = v1 (6 * t + 154) 1 := ((q91f (6 * t + 154) 1 (by unfold kDs; omega)).trans (by rw [← hw44]; exact (e_up_ne _ _ (Or.inr (by omega))).trans rfl))
                have z2 : w89 (6 * t + 154) 2 = a := ((q91f (6 * t + 154) 2 (by unfold kDs; omega)).trans (by rw [← hw44]; exact (e_up_ne _ _ (Or.inr (by omega))).trans j21))
                have z7 : w89 (17 * a + 86) 7 = cd := ((q91f (17 * a + 86) 7 (by unfold kDs; omega)).trans (by rw [← hw44]; exact (e_up_ne _ _ (Or.inr (by omega))).trans ((j15 (17 * a + 86) 7 (by unfold kNq; omega)).trans hcv)))
                have ze : w89 74 1 = v1 74 1 := ((q91f 74 1 (by unfold kDs; omega)).trans (by rw [← hw44]; exact (e_up_ne _ _ (Or.inr (by omega))).trans rfl))
                have zt : w89 74 0 = v1 74 0 := ((q91f 74 0 (by unfold kDs; omega)).trans (by rw [← hw44]; exact (e_up_ne _ _ (Or.inr (by omega))).trans rfl))
                have hpc : CL a (w89 (6 * t + 154) 3) ≤ h1 := by rw [show w89 (6 * t + 154) 3 = z43 from ((q91f (6 * t + 154) 3 (by unfold kDs; omega)).trans (by rw [← hw44]; exact e_up_eq _ _ _ _)), hnx.2 (by omega)]; have g := (hDL.2.2 (v1 (6 * t + 154) 3)).2.2.2.2.2.1 (by omega); omega
                have htn : tuE OP CL a (w89 (6 * t + 154) 3) (w89 (6 * t + 154) 1) (w89 74 1) (w 74 1) y3 h1 := tuE.exp (z1.trans hs1) hpc (by omega)
                refine e_Ok.inc (z := y4 + 1) rfl rfl (by omega) (by omega) ?_
                show e_Ok 20 elay kcode eI (d + 1) 43 (231, [(4, (0, y4 + 1)), (6, (0, z38)), (5, (0, z33)), (0, (1, 8)), (1, (1, 6 * t + 154)), (2, (1, cd)), (3, (0, y3))], [], w89) _
                refine e_Ok.run (t' := (33, [(4, (0, y4 + 1)), (6, (0, z38)), (5, (0, z33)), (0, (1, 8)), (1, (1, 6 * t + 154)), (2, (1, cd)), (3, (0, y3))], [], w89)) 1 rfl ?_
                refine e_Ok.sub kAlk (e_sub_of rfl ?_) (ih14 y3 (y4 + 1) w89 h1 ⟨f92, q91T, (zt.trans j17), j18, Q93, q91x, z2, z7, htn, (by omega), by omega, by omega⟩ (by omega))
                exact ⟨rfl, rfl, rfl, rfl, rfl, trivial⟩
            · replace h42 : (z33 : Int) = 50 := by have q : ¬ ((z33 : Int) ≠ 50) := h42; omega
              refine e_Ok.run (t' := (94, [(6, (0, z38)), (5, (0, z33)), (0, (1, 8)), (1, (1, 6 * t + 154)), (2, (1, cd)), (3, (0, y3)), (4, (0, y4))], [(0, 20), (0, y3)], v1)) 2 rfl ?_
              refine e_Ok.if2 rfl (fun h94 => ?_) (fun h94 => ?_)
              · replace h94 : (y3 : Int) ≠ 20 := h94
                refine e_Ok.run (t' := (101, [(6, (0, z38)), (5, (0, z33)), (0, (1, 8)), (1, (1, 6 * t + 154)), (2, (1, cd)), (3, (0, y3)), (4, (0, y4))], [(1, cd), (1, 6 * t + 154), (1, 8)], v1)) 3 rfl ?_
                refine e_Ok.callV rfl (by omega) rfl rfl rfl rfl (c_47 (by omega) j16 (by omega) j19 j20 hs1 (by omega) j21 j22 (by omega)) (fun r95 w101 h103 => ?_)
                obtain ⟨z105, rfl, q104f, q104T, q104r, q104x⟩ := h103
                have f106 : e_fr kNq w w101 := e_fr.trans j15 (e_fr.mono q104f (fun c k q => by exact nq_kWc (by omega) q))
                show e_Ok 20 elay kcode eI (d + 1) 43 (104, [(6, (0, z38)), (5, (0, z33)), (0, (1, 8)), (1, (1, 6 * t + 154)), (2, (1, cd)), (3, (0, y3)), (4, (0, y4))], [(0, z105)], w101) _
                refine e_Ok.if1 rfl (fun h107 => ?_) (fun h107 => ?_)
                · replace h107 : (z105 : Int) = 0 := h107
                  have hw3 : w101 (6 * t + 154) 3 = v1 (6 * t + 154) 3 := by rcases q104x.2.2.2.2 with g | g; exact g.2; exact absurd g.1 (by omega)
                  refine e_Ok.inc (z := y3 + 1) rfl rfl (by omega) (by omega) ?_
                  show e_Ok 20 elay kcode eI (d + 1) 43 (113, [(3, (0, y3 + 1)), (6, (0, z38)), (5, (0, z33)), (0, (1, 8)), (1, (1, 6 * t + 154)), (2, (1, cd)), (4, (0, y4))], [], w101) _
                  refine e_Ok.run (t' := (115, [(3, (0, y3 + 1)), (6, (0, z38)), (5, (0, z33)), (0, (1, 8)), (1, (1, 6 * t + 154)), (2, (1, cd)), (4, (0, y4))], [(1, 6 * t + 154), (1, 6 * t + 154)], w101)) 2 rfl ?_
                  refine e_Ok.getf (z := v1 (6 * t + 154) 3) rfl (lT0 (t := t) (by omega) (by omega)) rfl rfl hw3 (by omega) ?_
                  refine e_Ok.run (t' := (119, [(3, (0, y3 + 1)), (6, (0, z38)), (5, (0, z33)), (0, (1, 8)), (1, (1, 6 * t + 154)), (2, (1, cd)), (4, (0, y4))], [(0, 1), (0, v1 (6 * t + 154) 3), (1, 6 * t + 154)], w101)) 1 rfl ?_
                  refine e_Ok.inc1 rfl (fun z108 z108r hz108 => ?_)
                  have hnx := hcoL.1.nxt j16 (x := v1 (6 * t + 154) 3) (by omega) hz108
                  refine e_Ok.putf rfl (lT0 (t := t) (by omega) (by omega)) rfl rfl ?_
                  generalize hw109 : e_up w101 (6 * t + 154) 3 z108 = w109
                  have f110 : e_fr kNq w w109 := e_fr.up f106 hw109 (by unfold kNq; omega)
                  have hT111 : e_Has kTy w109 := e_Has.upr q104T hw109 (kT_3 (t := t) (by omega) (by omega)) (by omega)
                  have Q112 := kI.pc q104x.1 hT111 (by omega) q104x.2.2.1 hw109
                  have hskp : sK w109 := sK.eq (fun c k g => by rw [← hw109, e_up_ne _ _ (by omega)]) q104x.2.1
                  have xp : w109 (6 * t + 154) 3 = z108 := (by rw [← hw109]; exact e_up_eq _ _ _ _)
                  have xs : w109 (6 * t + 154) 1 = 1 := by rw [← hw109, e_up_ne _ _ (by omega)]; exact q104x.2.2.1
                  have xa : w109 (6 * t + 154) 2 = a := by rw [← hw109, e_up_ne _ _ (by omega)]; exact q104x.2.2.2.1
                  have xc : w109 (17 * a + 86) 7 = cd := by rw [← hw109, e_up_ne _ _ (by omega)]; exact (Eq.trans (q104f _ _ (by unfold kWc; omega)) j22)
                  have xv : w109 74 1 = v1 74 1 := by rw [← hw109, e_up_ne _ _ (by omega)]; exact (q104f _ _ (by unfold kWc; omega))
                  refine e_Ok.run (t' := (228, [(3, (0, y3 + 1)), (6, (0, z38)), (5, (0, z33)), (0, (1, 8)), (1, (1, 6 * t + 154)), (2, (1, cd)), (4, (0, y4))], [], w109)) 1 rfl ?_
                  have hpc : CL a (w109 (6 * t + 154) 3) ≤ h1 := by rw [xp, hnx.2 (by omega)]; have g := (hDL.2.2 (v1 (6 * t + 154) 3)).2.2.2.2.2.1 (by omega); omega
                  have htn : tuE OP CL a (w109 (6 * t + 154) 3) (w109 (6 * t + 154) 1) (w109 74 1) (w 74 1) (y3 + 1) h1 := tuE.exp xs hpc (by omega)
                  have htx : w109 74 0 = w 74 0 := by rw [← hw109, e_up_ne _ _ (by omega), q104f _ _ (by unfold kWc; omega)]; exact j17
                  refine e_Ok.inc (z := y4 + 1) rfl rfl (by omega) (by omega) ?_
                  show e_Ok 20 elay kcode eI (d + 1) 43 (231, [(4, (0, y4 + 1)), (3, (0, y3 + 1)), (6, (0, z38)), (5, (0, z33)), (0, (1, 8)), (1, (1, 6 * t + 154)), (2, (1, cd))], [], w109) _
                  refine e_Ok.run (t' := (33, [(4, (0, y4 + 1)), (3, (0, y3 + 1)), (6, (0, z38)), (5, (0, z33)), (0, (1, 8)), (1, (1, 6 * t + 154)), (2, (1, cd))], [], w109)) 1 rfl ?_
                  refine e_Ok.sub kAlk (e_sub_of rfl ?_) (ih14 (y3 + 1) (y4 + 1) w109 h1 ⟨f110, hT111, htx, j18, Q112, hskp, xa, xc, htn, (by omega), by omega, by omega⟩ (by omega))
                  exact ⟨rfl, rfl, rfl, rfl, rfl, trivial⟩
                · replace h107 : (z105 : Int) ≠ 0 := by have q : ¬ ((z105 : Int) = 0) := h107; omega
                  refine e_Ok.run (t' := (228, [(6, (0, z38)), (5, (0, z33)), (0, (1, 8)), (1, (1, 6 * t + 154)), (2, (1, cd)), (3, (0, y3)), (4, (0, y4))], [], w101)) 1 rfl ?_
                  have hcl : 40 ≤ OP a (w101 (6 * t + 154) 3) := by rcases q104x.2.2.2.2 with g | g; exact absurd g.1 (by omega); exact g.2
                  have evx : w101 74 1 = v1 74 1 := q104f _ _ (by unfold kWc; omega)
                  have htx : w101 74 0 = w 74 0 := Eq.trans (q104f _ _ (by unfold kWc; omega)) j17
                  have htn : tuE OP CL a (w101 (6 * t + 154) 3) (w101 (6 * t + 154) 1) (w101 74 1) (w 74 1) y3 h1 := tuE.ctl q104x.2.2.1 (by omega) (hDL.2.1 _ hcl) hcl (by omega)
                  refine e_Ok.inc (z := y4 + 1) rfl rfl (by omega) (by omega) ?_
                  show e_Ok 20 elay kcode eI (d + 1) 43 (231, [(4, (0, y4 + 1)), (6, (0, z38)), (5, (0, z33)), (0, (1, 8)), (1, (1, 6 * t + 154)), (2, (1, cd)), (3, (0, y3))], [], w101) _
                  refine e_Ok.run (t' := (33, [(4, (0, y4 + 1)), (6, (0, z38)), (5, (0, z33)), (0, (1, 8)), (1, (1, 6 * t + 154)), (2, (1, cd)), (3, (0, y3))], [], w101)) 1 rfl ?_
                  refine e_Ok.sub kAlk (e_sub_of rfl ?_) (ih14 y3 (y4 + 1) w101 h1 ⟨f106, q104T, htx, j18, q104x.1, q104x.2.1, q104x.2.2.2.1, (Eq.trans (q104f _ _ (by unfold kWc; omega)) j22), htn, (by omega), by omega, by omega⟩ (by omega))
                  exact ⟨rfl, rfl, rfl, rfl, rfl, trivial⟩
              · replace h94 : (y3 : Int) = 20 := by have q : ¬ ((y3 : Int) ≠ 20) := h94; omega
                refine e_Ok.rets rfl rfl ?_
                have htl := j23.all
                exact ⟨rfl, j16, ⟨j15, j17⟩, h1, j18, j19.own (fun _ g => by rw [j21]; exact htl.2 g), by omega, by omega⟩
          · replace h41 : (v1 8 11 : Int) ≠ 0 := by have q : ¬ ((v1 8 11 : Int) = 0) := h41; omega
            refine e_Ok.run (t' := (78, [(6, (0, z38)), (5, (0, z33)), (0, (1, 8)), (1, (1, 6 * t + 154)), (2, (1, cd)), (3, (0, y3)), (4, (0, y4))], [(1, cd), (1, 6 * t + 154), (1, 8)], v1)) 3 rfl ?_
            refine e_Ok.callV rfl (by omega) rfl rfl rfl rfl (c_44 (by omega) j16 (by omega) j19 j20 hs1 (by omega) j21 j22 (by omega) (by omega)) (fun r113 w114 h115 => ?_)
            obtain ⟨rfl, q116f, q116T, q116x⟩ := h115
            have f117 : e_fr kNq w w114 := e_fr.trans j15 (e_fr.mono q116f (fun c k q => by exact nq_kLe (by omega) (by omega) q))
            show e_Ok 20 elay kcode eI (d + 1) 43 (81, [(6, (0, z38)), (5, (0, z33)), (0, (1, 8)), (1, (1, 6 * t + 154)), (2, (1, cd)), (3, (0, y3)), (4, (0, y4))], [], w114) _
            refine e_Ok.run (t' := (228, [(6, (0, z38)), (5, (0, z33)), (0, (1, 8)), (1, (1, 6 * t + 154)), (2, (1, cd)), (3, (0, y3)), (4, (0, y4))], [], w114)) 1 rfl ?_
            have htn : tuE OP CL a (w114 (6 * t + 154) 3) (w114 (6 * t + 154) 1) (w114 74 1) (w 74 1) y3 h1 := by rcases q116x.2.2.2.2.2 with ⟨g1, g2, g3⟩ | g1; (exact tuE.ctl g1 (by omega) (hDL.2.1 _ g2) g2 (by omega)); (exact tuE.off (by rw [g1]; decide) (by have := q116x.2.2.2; omega) (fun g => by omega))
            have hcx : w114 (17 * a + 86) 7 = cd := Eq.trans (q116f _ _ (by unfold kLe; omega)) j22
            have htx : w114 74 0 = w 74 0 := Eq.trans (q116f _ _ (by unfold kLe; omega)) j17
            refine e_Ok.inc (z := y4 + 1) rfl rfl (by omega) (by omega) ?_
            show e_Ok 20 elay kcode eI (d + 1) 43 (231, [(4, (0, y4 + 1)), (6, (0, z38)), (5, (0, z33)), (0, (1, 8)), (1, (1, 6 * t + 154)), (2, (1, cd)), (3, (0, y3))], [], w114) _
            refine e_Ok.run (t' := (33, [(4, (0, y4 + 1)), (6, (0, z38)), (5, (0, z33)), (0, (1, 8)), (1, (1, 6 * t + 154)), (2, (1, cd)), (3, (0, y3))], [], w114)) 1 rfl ?_
            refine e_Ok.sub kAlk (e_sub_of rfl ?_) (ih14 y3 (y4 + 1) w114 h1 ⟨f117, q116T, htx, j18, q116x.1, q116x.2.1, q116x.2.2.1, hcx, htn, (by have := q116x.2.2.2; omega), by omega, by omega⟩ (by omega))
            exact ⟨rfl, rfl, rfl, rfl, rfl, trivial⟩
  refine e_Ok.sub kAlk (e_sub_of rfl ?_) (hL13 (1000000 + 1 : Int).toNat 0 0 w9 h ⟨f12, q11T, xt, Int.le_refl h, q11x.1, q11x.2, x2, x7, htu0, by omega, by omega, by omega⟩ (by omega))
  exact ⟨rfl, rfl, rfl, rfl, rfl, trivial⟩
end
