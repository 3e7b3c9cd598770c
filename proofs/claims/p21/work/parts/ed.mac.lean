noncomputable section
/-! the class's macros may be trusted -/
theorem hk_rf {w u u1 : eW} (hu : e_rf w u) (f1 : e_fr kHv u u1) : e_rf (e_hk w) u1 := fun c k h => by
  by_cases q : kHv c k
  · have e9 : e_hk w c k = 2147483648 := if_pos q
    rw [e9] at h
    exact absurd h (by decide)
  · rw [e_hk_ne q] at h ⊢
    rw [f1 c k q]
    exact hu c k h
theorem mac_259 (hT : e_Tab 1 eft cls elay eI code1) {l : Launch} : e_Mac 20 eft cls elay (eI 259) l 214 (kJp kP1 245) := by
  intro d ad ce sl p e R s m args below meth c D A H0 Q hfd C hce hsl hd hdl hA t t' l' u ht hf hs hu IH
  obtain ⟨pc0, l0, st, w⟩ := t
  subst ht
  unfold kJp at hf
  match st with
  | [] =>
    simp only at hf
    split at hf
    · rename_i hP
      cases hf
      intro ls stk H locs hI
      obtain ⟨lv, ws, tys, h1, h2, h3, h4, h5, h6, h7, h8⟩ := hI
      have kc := h4.fd (j := 0) (c := 11) (n := 15) rfl 14 (by decide) rfl
      have kn : ∀ k : Nat, k < 4 → kn1 (u 274 k) := fun k hk => h4.ar (j := 274) (n := 4) rfl k hk
      have hS := e_Good.gs (ad := ad) (e := e) (below := below) (D := D) (Q := Q) (l := l) hT C hce hsl hA
      have hC := e_Good.gc (d := 19) (ad := ad) (e := e) (below := below) (D := D) (Q := Q) (l := l) hT C hce hsl (by omega) (by omega) hA
      have key := g_259 (d := 19) (by omega) hS hC (w := u) (l := l') kc (kn 3 (by decide)) (hP.2.rf hu) (hs.find hP.1) (fun u1 f1 _ => IH l' u1 hs (hk_rf hu f1))
      exact key ls stk H locs ⟨lv, ws, tys, h1, h2, h3, h4, h5, h6, h7, h8⟩
    · cases hf
  | _ :: _ => cases hf
theorem mac_260 (hT : e_Tab 1 eft cls elay eI code1) {l : Launch} : e_Mac 20 eft cls elay (eI 260) l 85 (kJp kP2 112) := by
  intro d ad ce sl p e R s m args below meth c D A H0 Q hfd C hce hsl hd hdl hA t t' l' u ht hf hs hu IH
  obtain ⟨pc0, l0, st, w⟩ := t
  subst ht
  unfold kJp at hf
  match st with
  | [] =>
    simp only at hf
    split at hf
    · rename_i hP
      cases hf
      intro ls stk H locs hI
      obtain ⟨lv, ws, tys, h1, h2, h3, h4, h5, h6, h7, h8⟩ := hI
      have kc := h4.fd (j := 0) (c := 11) (n := 15) rfl 14 (by decide) rfl
      have kn : ∀ k : Nat, k < 4 → kn1 (u 274 k) := fun k hk => h4.ar (j := 274) (n := 4) rfl k hk
      have hS := e_Good.gs (ad := ad) (e := e) (below := below) (D := D) (Q := Q) (l := l) hT C hce hsl hA
      have hC := e_Good.gc (d := 19) (ad := ad) (e := e) (below := below) (D := D) (Q := Q) (l := l) hT C hce hsl (by omega) (by omega) hA
      obtain ⟨hp0, cc, hp2, hM⟩ := hP
      have hMu := hM.rf hu
      obtain ⟨hTy, a, ga, rfl, hb⟩ := hMu
      have key := g_260 (d := 19) (by omega) hS hC (w := u) (l := l') kc (kn 0 (by decide)) ga hTy hb (hs.find hp0) (hs.find hp2) (fun u1 f1 _ => IH l' u1 hs (hk_rf hu f1))
      exact key ls stk H locs ⟨lv, ws, tys, h1, h2, h3, h4, h5, h6, h7, h8⟩
    · cases hf
  | _ :: _ => cases hf
theorem mac_261 (hT : e_Tab 1 eft cls elay eI code1) {l : Launch} : e_Mac 20 eft cls elay (eI 261) l 21 (kJp kP3 51) := by
  intro d ad ce sl p e R s m args below meth c D A H0 Q hfd C hce hsl hd hdl hA t t' l' u ht hf hs hu IH
  obtain ⟨pc0, l0, st, w⟩ := t
  subst ht
  unfold kJp at hf
  match st with
  | [] =>
    simp only at hf
    split at hf
    · rename_i hP
      cases hf
      intro ls stk H locs hI
      obtain ⟨lv, ws, tys, h1, h2, h3, h4, h5, h6, h7, h8⟩ := hI
      have kc := h4.fd (j := 0) (c := 11) (n := 15) rfl 14 (by decide) rfl
      have kn : ∀ k : Nat, k < 4 → kn1 (u 274 k) := fun k hk => h4.ar (j := 274) (n := 4) rfl k hk
      have hS := e_Good.gs (ad := ad) (e := e) (below := below) (D := D) (Q := Q) (l := l) hT C hce hsl hA
      have hC := e_Good.gc (d := 19) (ad := ad) (e := e) (below := below) (D := D) (Q := Q) (l := l) hT C hce hsl (by omega) (by omega) hA
      obtain ⟨hp0, cc, hp2, hM⟩ := hP
      have hMu := hM.rf hu
      obtain ⟨hTy, a, ga, rfl, h12, hb⟩ := hMu
      have key := g_261 (d := 19) (by omega) hS hC (w := u) (l := l') kc (kn 1 (by decide)) ga hTy h12 hb (hs.find hp0) (hs.find hp2) (fun u1 f1 _ => IH l' u1 hs (hk_rf hu f1))
      exact key ls stk H locs ⟨lv, ws, tys, h1, h2, h3, h4, h5, h6, h7, h8⟩
    · cases hf
  | _ :: _ => cases hf
theorem mac_262 (hT : e_Tab 1 eft cls elay eI code1) {l : Launch} : e_Mac 20 eft cls elay (eI 262) l 23 (kJp kP4 34) := by
  intro d ad ce sl p e R s m args below meth c D A H0 Q hfd C hce hsl hd hdl hA t t' l' u ht hf hs hu IH
  obtain ⟨pc0, l0, st, w⟩ := t
  subst ht
  unfold kJp at hf
  match st with
  | [] =>
    simp only at hf
    split at hf
    · rename_i hP
      cases hf
      intro ls stk H locs hI
      obtain ⟨lv, ws, tys, h1, h2, h3, h4, h5, h6, h7, h8⟩ := hI
      have kc := h4.fd (j := 0) (c := 11) (n := 15) rfl 14 (by decide) rfl
      have kn : ∀ k : Nat, k < 4 → kn1 (u 274 k) := fun k hk => h4.ar (j := 274) (n := 4) rfl k hk
      have hS := e_Good.gs (ad := ad) (e := e) (below := below) (D := D) (Q := Q) (l := l) hT C hce hsl hA
      have hC := e_Good.gc (d := 19) (ad := ad) (e := e) (below := below) (D := D) (Q := Q) (l := l) hT C hce hsl (by omega) (by omega) hA
      have key := g_262 (d := 19) (by omega) hS hC (w := u) (l := l') kc (hP.2.rf hu) (kn 2 (by decide)) (hs.find hP.1) (fun u1 f1 _ => IH l' u1 hs (hk_rf hu f1))
      exact key ls stk H locs ⟨lv, ws, tys, h1, h2, h3, h4, h5, h6, h7, h8⟩
    · cases hf
  | _ :: _ => cases hf
end
