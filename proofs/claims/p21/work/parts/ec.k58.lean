noncomputable section
/-! the stretches that the class's macros jump over, for any G -/
theorem g_259 {d : Nat} (hd : 12 ≤ d) {G : eS → Prop} {l : eL} (hS : e_GS code1 259 G) (hC : e_GC 1 elay code1 eI d 259 G) {w : eW} (hc : -2147483648 ≤ w 0 14 ∧ w 0 14 ≤ 2147483647) (hn : kn1 (w 274 3)) (h0 : kM1 w) (hL0 : e_find l 0 = some (1, 0)) (hK : ∀ u1, e_fr kHv w u1 → e_Has kTy u1 → G (245, l, [], u1)) : G (214, l, [], w) := by
  unfold kn1 at hn
  have hT := h0.1
  have hw0 := e_Has.get hT (c := 0) (k := 11) (lo := 0) (hi := 4) rfl (by decide)
  refine e_GS.load hS hL0 rfl rfl ?_
  refine e_GS.getf hS (z := w 0 14) rfl rfl rfl rfl rfl (by omega) ?_
  refine e_GS.if1 hS rfl (fun h1 => ?_) (fun h1 => ?_)
  · replace h1 : (w 0 14 : Int) = 0 := h1
    exact hK _ (e_fr.refl w) hT
  · replace h1 : (w 0 14 : Int) ≠ 0 := by have q : ¬ ((w 0 14 : Int) = 0) := h1; omega
    refine e_GS.load hS hL0 rfl rfl ?_
    refine e_GS.getr hS (z := 274) rfl rfl rfl rfl (Eq.trans (e_Has.eq hT rfl) (by omega)) (by omega) ?_
    refine e_GS.run hS (t' := (227, l, [(0, 3), (1, 274), (0, 3), (1, 274)], w)) 2 rfl ?_
    refine e_GS.ald hS (z := w 274 3) rfl rfl rfl (by omega) rfl (by omega) ?_
    refine e_GS.load hS hL0 rfl rfl ?_
    refine e_GS.getr hS (z := 19) rfl rfl rfl rfl (Eq.trans (e_Has.eq hT rfl) (by omega)) (by omega) ?_
    refine e_GS.load hS hL0 rfl rfl ?_
    refine e_GS.getr hS (z := 9) rfl rfl rfl rfl (Eq.trans (e_Has.eq hT rfl) (by omega)) (by omega) ?_
    refine e_GS.load hS hL0 rfl rfl ?_
    have h2 := (e_Has.get hT (c := 0) (k := 11) (lo := 0) (hi := 4) rfl (by decide))
    refine e_GS.getf hS (z := w 0 11) rfl rfl rfl rfl rfl (by omega) ?_
    refine e_GS.callV hC rfl (by omega) rfl rfl rfl rfl (b_88_n h0 (by omega)) (fun r3 w4 h5 => ?_)
    obtain ⟨z6, rfl, rfl, q7⟩ := h5
    show G (243, l, [(0, z6), (0, w 274 3), (0, 3), (1, 274)], w)
    refine e_GS.any hS rfl (eF_add_any _ _) (fun z8 z8a z8b => ?_)
    refine e_GS.ast hS rfl rfl rfl rfl (by omega) ?_
    generalize hw9 : e_up w 274 3 z8 = w9
    have f10 : e_fr kHv w w9 := e_fr.up (e_fr.refl w) hw9 (by unfold kHv; omega)
    have hT11 : e_Has kTy w9 := e_Has.ups hT hw9 rfl
    exact hK _ f10 hT11
theorem g_260 {d : Nat} (hd : 12 ≤ d) {G : eS → Prop} {l : eL} (hS : e_GS code1 260 G) (hC : e_GC 1 elay code1 eI d 260 G) {w : eW} (hc : -2147483648 ≤ w 0 14 ∧ w 0 14 ≤ 2147483647) (hn : kn1 (w 274 0)) {a : Int} (ga : 0 ≤ a ∧ a ≤ 3) (hT : e_Has kTy w) (hb : ∀ j, 0 ≤ j → j < w (17 * a + 86) 8 → kn1 (w (17 * a + j + 97) 11)) (hL0 : e_find l 0 = some (1, 0)) (hL2 : e_find l 2 = some (1, 17 * a + 86)) (hK : ∀ u1, e_fr kHv w u1 → e_Has kTy u1 → G (112, l, [], u1)) : G (85, l, [], w) := by
  unfold kn1 at hn
  refine e_GS.load hS hL0 rfl rfl ?_
  refine e_GS.getf hS (z := w 0 14) rfl rfl rfl rfl rfl (by omega) ?_
  refine e_GS.if1 hS rfl (fun h1 => ?_) (fun h1 => ?_)
  · replace h1 : (w 0 14 : Int) = 0 := h1
    exact hK _ (e_fr.refl w) hT
  · replace h1 : (w 0 14 : Int) ≠ 0 := by have q : ¬ ((w 0 14 : Int) = 0) := h1; omega
    refine e_GS.load hS hL0 rfl rfl ?_
    refine e_GS.getr hS (z := 274) rfl rfl rfl rfl (Eq.trans (e_Has.eq hT rfl) (by omega)) (by omega) ?_
    refine e_GS.run hS (t' := (98, l, [(0, 0), (1, 274), (0, 0), (1, 274)], w)) 2 rfl ?_
    refine e_GS.ald hS (z := w 274 0) rfl rfl rfl (by omega) rfl (by omega) ?_
    refine e_GS.load hS hL2 rfl rfl ?_
    refine e_GS.load hS hL0 rfl rfl ?_
    refine e_GS.getr hS (z := 74) rfl rfl rfl rfl (Eq.trans (e_Has.eq hT rfl) (by omega)) (by omega) ?_
    have h2 := (e_Has.get hT (c := 74) (k := 3) (lo := 0) (hi := 1) rfl (by decide))
    refine e_GS.getf hS (z := w 74 3) rfl rfl rfl rfl rfl (by omega) ?_
    refine e_GS.callV hC rfl (by omega) rfl (lA0 (a := a) (by omega) (by omega)) rfl rfl (b_19_n (by omega) (a := a) hT ga (by omega) hb) (fun r3 w4 h5 => ?_)
    obtain ⟨z6, rfl, rfl, q7⟩ := h5
    show G (110, l, [(0, z6), (0, w 274 0), (0, 0), (1, 274)], w)
    refine e_GS.any hS rfl (eF_add_any _ _) (fun z8 z8a z8b => ?_)
    refine e_GS.ast hS rfl rfl rfl rfl (by omega) ?_
    generalize hw9 : e_up w 274 0 z8 = w9
    have f10 : e_fr kHv w w9 := e_fr.up (e_fr.refl w) hw9 (by unfold kHv; omega)
    have hT11 : e_Has kTy w9 := e_Has.ups hT hw9 rfl
    exact hK _ f10 hT11
theorem g_261 {d : Nat} (hd : 12 ≤ d) {G : eS → Prop} {l : eL} (hS : e_GS code1 261 G) (hC : e_GC 1 elay code1 eI d 261 G) {w : eW} (hc : -2147483648 ≤ w 0 14 ∧ w 0 14 ≤ 2147483647) (hn : kn1 (w 274 1)) {a : Int} (ga : 0 ≤ a ∧ a ≤ 3) (hT : e_Has kTy w) (h12 : kn1 (w (17 * a + 86) 12)) (hb : ∀ j, 0 ≤ j → j < w (17 * a + 86) 8 → kn1 (w (17 * a + j + 97) 10)) (hL0 : e_find l 0 = some (1, 0)) (hL2 : e_find l 2 = some (1, 17 * a + 86)) (hK : ∀ u1, e_fr kHv w u1 → e_Has kTy u1 → G (51, l, [], u1)) : G (21, l, [], w) := by
  unfold kn1 at hn
  unfold kn1 at h12
  refine e_GS.load hS hL0 rfl rfl ?_
  refine e_GS.getf hS (z := w 0 14) rfl rfl rfl rfl rfl (by omega) ?_
  refine e_GS.if1 hS rfl (fun h1 => ?_) (fun h1 => ?_)
  · replace h1 : (w 0 14 : Int) = 0 := h1
    exact hK _ (e_fr.refl w) hT
  · replace h1 : (w 0 14 : Int) ≠ 0 := by have q : ¬ ((w 0 14 : Int) = 0) := h1; omega
    refine e_GS.load hS hL2 rfl rfl ?_
    refine e_GS.getf hS (z := w (17 * a + 86) 12) rfl (lA0 (a := a) (by omega) (by omega)) rfl rfl rfl (by omega) ?_
    refine e_GS.load hS hL2 rfl rfl ?_
    refine e_GS.callV hC rfl (by omega) rfl (lA0 (a := a) (by omega) (by omega)) rfl rfl (b_18_n (by omega) (a := a) hT ga hb) (fun r2 w3 h4 => ?_)
    obtain ⟨z5, rfl, rfl, q6⟩ := h4
    show G (36, l, [(0, z5), (0, w (17 * a + 86) 12)], w)
    refine e_GS.run hS (t' := (37, l, [(0, 1), (0, z5), (0, w (17 * a + 86) 12)], w)) 1 rfl ?_
    refine e_GS.add hS (z := z5 + 1) rfl (by omega) (by omega) ?_
    refine e_GS.if2 hS rfl (fun h7 => ?_) (fun h7 => ?_)
    · replace h7 : (w (17 * a + 86) 12 : Int) = z5 + 1 := h7
      exact hK _ (e_fr.refl w) hT
    · replace h7 : (w (17 * a + 86) 12 : Int) ≠ z5 + 1 := by have q : ¬ ((w (17 * a + 86) 12 : Int) = z5 + 1) := h7; omega
      refine e_GS.load hS hL0 rfl rfl ?_
      refine e_GS.getr hS (z := 274) rfl rfl rfl rfl (Eq.trans (e_Has.eq hT rfl) (by omega)) (by omega) ?_
      refine e_GS.run hS (t' := (47, l, [(0, 1), (1, 274), (0, 1), (1, 274)], w)) 2 rfl ?_
      refine e_GS.ald hS (z := w 274 1) rfl rfl rfl (by omega) rfl (by omega) ?_
      refine e_GS.run hS (t' := (49, l, [(0, 1), (0, w 274 1), (0, 1), (1, 274)], w)) 1 rfl ?_
      refine e_GS.any hS rfl (eF_add_any _ _) (fun z8 z8a z8b => ?_)
      refine e_GS.ast hS rfl rfl rfl rfl (by omega) ?_
      generalize hw9 : e_up w 274 1 z8 = w9
      have f10 : e_fr kHv w w9 := e_fr.up (e_fr.refl w) hw9 (by unfold kHv; omega)
      have hT11 : e_Has kTy w9 := e_Has.ups hT hw9 rfl
      exact hK _ f10 hT11
theorem g_262 {d : Nat} (hd : 12 ≤ d) {G : eS → Prop} {l : eL} (hS : e_GS code1 262 G) (hC : e_GC 1 elay code1 eI d 262 G) {w : eW} (hc : -2147483648 ≤ w 0 14 ∧ w 0 14 ≤ 2147483647) (h0 : kM4 w) (h2 : kn1 (w 274 2)) (hL0 : e_find l 0 = some (1, 0)) (hK : ∀ u1, e_fr kHv w u1 → e_Has kTy u1 → G (34, l, [], u1)) : G (23, l, [], w) := by
  have hT := h0.1
  refine e_GS.load hS hL0 rfl rfl ?_
  refine e_GS.getf hS (z := w 0 14) rfl rfl rfl rfl rfl (by omega) ?_
  refine e_GS.if1 hS rfl (fun h1 => ?_) (fun h1 => ?_)
  · replace h1 : (w 0 14 : Int) = 0 := h1
    exact hK _ (e_fr.refl w) hT
  · replace h1 : (w 0 14 : Int) ≠ 0 := by have q : ¬ ((w 0 14 : Int) = 0) := h1; omega
    refine e_GS.load hS hL0 rfl rfl ?_
    refine e_GS.callV hC rfl (by omega) rfl rfl rfl rfl (b_264_n (by omega) h0 h2) (fun r2 w3 h4 => ?_)
    obtain ⟨rfl, cf, cT⟩ := h4
    have f5 : e_fr kHv w w3 := e_fr.trans (e_fr.refl w) (e_fr.mono cf (fun c k q => by exact q))
    show G (34, l, [], w3)
    exact hK _ f5 cT
end
