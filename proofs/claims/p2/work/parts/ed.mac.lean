noncomputable section
/-! the class's macros may be trusted -/
theorem hk_rf {w u u1 : eW} (hu : e_rf w u) (f1 : e_fr kHv u u1) : e_rf (e_hk w) u1 := fun c k h => by
  by_cases q : kHv c k
  · have e9 : e_hk w c k = 2147483648 := if_pos q
    rw [e9] at h
    exact absurd h (by decide)
  · rw [e_hk_ne q] at h ⊢
    rw [f1 c k q]
    exact hu c k h
section EED
variable {ad : List Nat} {tys : List (ClassId × FieldType)} {u : eW} {ws : va_W}
theorem e_world.q (h : e_world eft cls elay ad tys u ws) {j : Nat} {y : eY} (hy : elay[j]? = some y) : ∃ q, ws[j]? = some q ∧ e_cell eft cls ad tys y (u j) q.2 := by
  have hj : j < ws.length := by
    rw [← h.2.1]
    exact (List.getElem?_eq_some_iff.mp hy).1
  exact ⟨ws[j], List.getElem?_eq_getElem hj, h.2.2 j y _ hy (List.getElem?_eq_getElem hj)⟩
/-- on the machine every number of a row of ints is known -/
theorem e_world.ar (h : e_world eft cls elay ad tys u ws) {j c n : Nat} (hy : elay[j]? = some (1, c, n)) (k : Nat) (hk : k < n) : kn1 (u j k) := by
  obtain ⟨q, -, hq⟩ := h.q hy
  obtain ⟨t0, cA, f, -, -, -, hf⟩ := hq
  have e := hf k hk
  have a := Int32.le_toInt (f k)
  have b := Int32.toInt_le (f k)
  rw [e] at a b
  exact ⟨a, b⟩
theorem e_world.fd (h : e_world eft cls elay ad tys u ws) {j c n : Nat} (hy : elay[j]? = some (0, c, n)) (k : Nat) (hk : k < n) (h0 : eft c k = 0) : kn1 (u j k) := by
  obtain ⟨q, -, hq⟩ := h.q hy
  obtain ⟨fs, -, -, hf⟩ := hq
  obtain ⟨v, -, hv⟩ := hf k hk
  rw [show eft ((0, c, n) : eY).2.1 k = 0 from h0] at hv
  obtain ⟨z, -, e⟩ := hv
  have a := Int32.le_toInt z
  have b := Int32.toInt_le z
  rw [e] at a b
  exact ⟨a, b⟩
end EED
theorem mac_259 (hT : e_Tab 1 eft cls elay eI code1) {l : Launch} : e_Mac 20 eft cls elay (eI 259) l 214 (kJp kP1 245) := by
  intro d ad ce sl p e R s m args below meth c D A H0 Q hfd C hce hsl hd hdl hA t t' l' u ht hf hs hu IH
  obtain ⟨pc0, l0, st, w⟩ := t
  subst ht
  unfold kJp at hf
  match st with
  | [] =>
    simp only at hf
    split at hf
    · rename_i hP
      cases hf
      intro ls stk H locs hI
      obtain ⟨lv, ws, tys, h1, h2, h3, h4, h5, h6, h7, h8⟩ := hI
      have kc := h4.fd (j := 0) (c := 11) (n := 15) rfl 14 (by decide) rfl
      have kn : ∀ k : Nat, k < 4 → kn1 (u 274 k) := fun k hk => h4.ar (j := 274) (n := 4) rfl k hk
      have hS := e_Good.gs (ad := ad) (e := e) (below := below) (D := D) (Q := Q) (l := l) hT C hce hsl hA
      have hC := e_Good.gc (d := 19) (ad := ad) (e := e) (below := below) (D := D) (Q := Q) (l := l) hT C hce hsl (by omega) (by omega) hA
      have key := g_259 (d := 19) (by omega) hS hC (w := u) (l := l') kc (kn 3 (by decide)) (hP.2.rf hu) (hs.find hP.1) (fun u1 f1 _ => IH l' u1 hs (hk_rf hu f1))
      exact key ls stk H locs ⟨lv, ws, tys, h1, h2, h3, h4, h5, h6, h7, h8⟩
    · cases hf
  | _ :: _ => cases hf
theorem mac_260 (hT : e_Tab 1 eft cls elay eI code1) {l : Launch} : e_Mac 20 eft cls elay (eI 260) l 85 (kJp kP2 112) := by
  intro d ad ce sl p e R s m args below meth c D A H0 Q hfd C hce hsl hd hdl hA t t' l' u ht hf hs hu IH
  obtain ⟨pc0, l0, st, w⟩ := t
  subst ht
  unfold kJp at hf
  match st with
  | [] =>
    simp only at hf
    split at hf
    · rename_i hP
      cases hf
      intro ls stk H locs hI
      obtain ⟨lv, ws, tys, h1, h2, h3, h4, h5, h6, h7, h8⟩ := hI
      have kc := h4.fd (j := 0) (c := 11) (n := 15) rfl 14 (by decide) rfl
      have kn : ∀ k : Nat, k < 4 → kn1 (u 274 k) := fun k hk => h4.ar (j := 274) (n := 4) rfl k hk
      have hS := e_Good.gs (ad := ad) (e := e) (below := below) (D := D) (Q := Q) (l := l) hT C hce hsl hA
      have hC := e_Good.gc (d := 19) (ad := ad) (e := e) (below := below) (D := D) (Q := Q) (l := l) hT C hce hsl (by omega) (by omega) hA
      obtain ⟨hp0, cc, hp2, hM⟩ := hP
      have hMu := hM.rf hu
      obtain ⟨hTy, a, ga, rfl, hb⟩ := hMu
      have key := g_260 (d := 19) (by omega) hS hC (w := u) (l := l') kc (kn 0 (by decide)) ga hTy hb (hs.find hp0) (hs.find hp2) (fun u1 f1 _ => IH l' u1 hs (hk_rf hu f1))
      exact key ls stk H locs ⟨lv, ws, tys, h1, h2, h3, h4, h5, h6, h7, h8⟩
    · cases hf
  | _ :: _ => cases hf
theorem mac_261 (hT : e_Tab 1 eft cls elay eI code1) {l : Launch} : e_Mac 20 eft cls elay (eI 261) l 21 (kJp kP3 51) := by
  intro d ad ce sl p e R s m args below meth c D A H0 Q hfd C hce hsl hd hdl hA t t' l' u ht hf hs hu IH
  obtain ⟨pc0, l0, st, w⟩ := t
  subst ht
  unfold kJp at hf
  match st with
  | [] =>
    simp only at hf
    split at hf
    · rename_i hP
      cases hf
      intro ls stk H locs hI
      obtain ⟨lv, ws, tys, h1, h2, h3, h4, h5, h6, h7, h8⟩ := hI
      have kc := h4.fd (j := 0) (c := 11) (n := 15) rfl 14 (by decide) rfl
      have kn : ∀ k : Nat, k < 4 → kn1 (u 274 k) := fun k hk => h4.ar (j := 274) (n := 4) rfl k hk
      have hS := e_Good.gs (ad := ad) (e := e) (below := below) (D := D) (Q := Q) (l := l) hT C hce hsl hA
      have hC := e_Good.gc (d := 19) (ad := ad) (e := e) (below := below) (D := D) (Q := Q) (l := l) hT C hce hsl (by omega) (by omega) hA
      obtain ⟨hp0, cc, hp2, hM⟩ := hP
      have hMu := hM.rf hu
      obtain ⟨hTy, a, ga, rfl, h12, hb⟩ := hMu
      have key := g_261 (d := 19) (by omega) hS hC (w := u) (l := l') kc (kn 1 (by decide)) ga hTy h12 hb (hs.find hp0) (hs.find hp2) (fun u1 f1 _ => IH l' u1 hs (hk_rf hu f1))
      exact key ls stk H locs ⟨lv, ws, tys, h1, h2, h3, h4, h5, h6, h7, h8⟩
    · cases hf
  | _ :: _ => cases hf
theorem mac_262 (hT : e_Tab 1 eft cls elay eI code1) {l : Launch} : e_Mac 20 eft cls elay (eI 262) l 23 (kJp kP4 34) := by
  intro d ad ce sl p e R s m args below meth c D A H0 Q hfd C hce hsl hd hdl hA t t' l' u ht hf hs hu IH
  obtain ⟨pc0, l0, st, w⟩ := t
  subst ht
  unfold kJp at hf
  match st with
  | [] =>
    simp only at hf
    split at hf
    · rename_i hP
      cases hf
      intro ls stk H locs hI
      obtain ⟨lv, ws, tys, h1, h2, h3, h4, h5, h6, h7, h8⟩ := hI
      have kc := h4.fd (j := 0) (c := 11) (n := 15) rfl 14 (by decide) rfl
      have kn : ∀ k : Nat, k < 4 → kn1 (u 274 k) := fun k hk => h4.ar (j := 274) (n := 4) rfl k hk
      have hS := e_Good.gs (ad := ad) (e := e) (below := below) (D := D) (Q := Q) (l := l) hT C hce hsl hA
      have hC := e_Good.gc (d := 19) (ad := ad) (e := e) (below := below) (D := D) (Q := Q) (l := l) hT C hce hsl (by omega) (by omega) hA
      have key := g_262 (d := 19) (by omega) hS hC (w := u) (l := l') kc (hP.2.rf hu) (kn 2 (by decide)) (hs.find hP.1) (fun u1 f1 _ => IH l' u1 hs (hk_rf hu f1))
      exact key ls stk H locs ⟨lv, ws, tys, h1, h2, h3, h4, h5, h6, h7, h8⟩
    · cases hf
  | _ :: _ => cases hf
end
