noncomputable section
/-! the model: tally as a stretch -/
def kC80 (c k : Int) : Prop := c = 280
theorem g_389 {G : eS → Prop} {l : eL} (hS : e_GS code1 389 G) {w : eW} {x y : Int} (gx : 0 ≤ x ∧ x ≤ 3) (h7 : w 275 7 = 280) (hn : kn1 (w 280 x)) (ha : kn1 (w 275 6)) (hL0 : e_find l 0 = some (1, 275)) (hL1 : e_find l 1 = some (0, x)) (hL2 : e_find l 2 = some (0, y)) (hK : ∀ u1, e_fr kC80 w u1 → G (25, l, [], u1)) : G (0, l, [], w) := by
  unfold kn1 at hn ha
  refine e_GS.load hS hL0 rfl rfl ?_
  refine e_GS.getr hS (z := 280) rfl rfl rfl rfl h7 (by omega) ?_
  refine e_GS.load hS hL1 rfl rfl ?_
  refine e_GS.run hS (t' := (6, l, [(0, x), (1, 280), (0, x), (1, 280)], w)) 1 rfl ?_
  refine e_GS.ald hS (z := w 280 x) rfl rfl rfl (by omega) rfl (by omega) ?_
  refine e_GS.load hS hL2 rfl rfl ?_
  refine e_GS.if1 hS rfl (fun h1 => ?_) (fun h1 => ?_)
  · replace h1 : (y : Int) = 0 := h1
    refine e_GS.run hS (t' := (23, l, [(0, 0), (0, w 280 x), (0, x), (1, 280)], w)) 1 rfl ?_
    refine e_GS.add hS (z := w 280 x) rfl (by omega) (by omega) ?_
    refine e_GS.ast hS rfl rfl rfl rfl (by omega) ?_
    generalize hw2 : e_up w 280 x (w 280 x) = w2
    have f3 : e_fr kC80 w w2 := e_fr.up (e_fr.refl w) hw2 (by unfold kC80; omega)
    exact hK _ f3
  · replace h1 : (y : Int) ≠ 0 := by have q : ¬ ((y : Int) = 0) := h1; omega
    refine e_GS.load hS hL0 rfl rfl ?_
    refine e_GS.getf hS (z := w 275 6) rfl rfl rfl rfl rfl (by omega) ?_
    refine e_GS.if1 hS rfl (fun h4 => ?_) (fun h4 => ?_)
    · replace h4 : (w 275 6 : Int) ≠ 0 := h4
      refine e_GS.run hS (t' := (23, l, [(0, 0), (0, w 280 x), (0, x), (1, 280)], w)) 1 rfl ?_
      refine e_GS.add hS (z := w 280 x) rfl (by omega) (by omega) ?_
      refine e_GS.ast hS rfl rfl rfl rfl (by omega) ?_
      generalize hw5 : e_up w 280 x (w 280 x) = w5
      have f6 : e_fr kC80 w w5 := e_fr.up (e_fr.refl w) hw5 (by unfold kC80; omega)
      exact hK _ f6
    · replace h4 : (w 275 6 : Int) = 0 := by have q : ¬ ((w 275 6 : Int) ≠ 0) := h4; omega
      refine e_GS.run hS (t' := (23, l, [(0, 1), (0, w 280 x), (0, x), (1, 280)], w)) 2 rfl ?_
      refine e_GS.any hS rfl (eF_add_any _ _) (fun z7 z7a z7b => ?_)
      refine e_GS.ast hS rfl rfl rfl rfl (by omega) ?_
      generalize hw8 : e_up w 280 x z7 = w8
      have f9 : e_fr kC80 w w8 := e_fr.up (e_fr.refl w) hw8 (by unfold kC80; omega)
      exact hK _ f9
theorem hv_rf {w u u1 : eW} (hu : e_rf w u) (f1 : e_fr kC80 u u1) : e_rf (e_hv 280 w) u1 := fun c k h => by
  unfold e_hv at h ⊢
  by_cases q : c = 280
  · rw [if_pos q] at h
    exact absurd h (by decide)
  · rw [if_neg q] at h ⊢
    rw [f1 c k q]
    exact hu c k h
theorem mac_389 (hT : e_Tab 1 eft cls elay eI code1) {l : Launch} : e_Mac 20 eft cls elay (eI 389) l 0 e_mTal := by
  intro d ad ce sl p e R s m args below meth c D A H0 Q hfd C hce hsl hd hdl hA t t' l' u ht hf hs hu IH
  obtain ⟨pc0, l0, st, w⟩ := t
  subst ht
  unfold e_mTal at hf
  simp only at hf
  split at hf
  · rename_i j x y h0 h1 h2
    split at hf
    · rename_i hc
      cases hf
      obtain ⟨rfl, gx0, gx3, e7⟩ := hc
      intro ls stk H locs hI
      obtain ⟨lv, ws, tys, k1, k2, k3, k4, k5, k6, k7, k8⟩ := hI
      have hu2 : e_rf w u := hu
      have u7 : u 275 7 = 280 := Eq.trans (hu2 275 7 (by rw [e7]; decide)) e7
      have ka := k4.fd (j := 275) (c := 12) (n := 119) rfl 6 (by decide) rfl
      have kn : kn1 (u 280 x) := by
        have z := k4.ar (j := 280) (n := 4) rfl x.toNat (by omega)
        rw [show ((x.toNat : Nat) : Int) = x by omega] at z
        exact z
      have hS := e_Good.gs (ad := ad) (e := e) (below := below) (D := D) (Q := Q) (l := l) hT C hce hsl hA
      have key := g_389 hS (w := u) (l := l') ⟨gx0, gx3⟩ u7 kn ka (hs.find h0) (hs.find h1) (hs.find h2) (fun u1 f1 => IH l' u1 hs (hv_rf hu f1))
      exact key ls stk H locs ⟨lv, ws, tys, k1, k2, k3, k4, k5, k6, k7, k8⟩
    · cases hf
  · cases hf
end
