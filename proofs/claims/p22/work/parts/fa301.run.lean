noncomputable section
/-! a run that came to its end, as a thing known: it is gone along step by step (the other side's run; sa: partial contracts) -/
section SBR
variable {fd : Nat} {lay : List eY} {code : Nat → Nat → eE} {I : Nat → xM} {d M : Nat} {t t' t1 t2 : eS} {r : List eV} {w : eW}
def e_Rn (fd : Nat) (lay : List eY) (code : Nat → Nat → eE) (I : Nat → xM) (d M : Nat) (t : eS) (r : List eV) (w : eW) : Prop := (t.2.1.map Prod.fst).Nodup ∧ ∃ n, e_go fd lay code I n d M t = some (r, w)
theorem e_Rn.pn (h : e_Rn fd lay code I d M t r w) {Q : List eV → eW → Prop} (p : ∀ n, e_Pn fd lay code I n d M t Q) : Q r w := by
  obtain ⟨hn, n, h⟩ := h
  exact p n hn r w h
theorem e_Rn.self (n : Nat) : e_Pn fd lay code I n d M t (fun r w => e_Rn fd lay code I d M t r w) := fun hn _ _ h => ⟨hn, n, h⟩
theorem e_Rn.st (h : e_Rn fd lay code I d M t r w) (R : ∀ (n : Nat) (Q : List eV → eW → Prop), e_Pn fd lay code I n d M t' Q → e_Pn fd lay code I n d M t Q) : e_Rn fd lay code I d M t' r w := h.pn (fun n => R n _ (e_Rn.self n))
theorem e_Rn.of {C : Prop} (h : e_Rn fd lay code I d M t r w) (R : ∀ (n : Nat) (Q : List eV → eW → Prop), (C → e_Pn fd lay code I n d M t' Q) → e_Pn fd lay code I n d M t Q) : C ∧ e_Rn fd lay code I d M t' r w := h.pn (fun n => R n (fun r w => C ∧ e_Rn fd lay code I d M t' r w) (fun c => (e_Rn.self n).imp (fun _ _ q => ⟨c, q⟩)))
theorem e_Rn.of2 {C C' : Prop} (h : e_Rn fd lay code I d M t r w) (R : ∀ (n : Nat) (Q : List eV → eW → Prop), (C → C' → e_Pn fd lay code I n d M t' Q) → e_Pn fd lay code I n d M t Q) : C ∧ C' ∧ e_Rn fd lay code I d M t' r w := h.pn (fun n => R n (fun r w => C ∧ C' ∧ e_Rn fd lay code I d M t' r w) (fun c c' => (e_Rn.self n).imp (fun _ _ q => ⟨c, c', q⟩)))
theorem e_Rn.or {C : Prop} (h : e_Rn fd lay code I d M t r w) (R : ∀ (n : Nat) (Q : List eV → eW → Prop), (C → e_Pn fd lay code I n d M t1 Q) → (¬ C → e_Pn fd lay code I n d M t2 Q) → e_Pn fd lay code I n d M t Q) : (C ∧ e_Rn fd lay code I d M t1 r w) ∨ (¬ C ∧ e_Rn fd lay code I d M t2 r w) := h.pn (fun n => R n (fun r w => (C ∧ e_Rn fd lay code I d M t1 r w) ∨ (¬ C ∧ e_Rn fd lay code I d M t2 r w)) (fun c => (e_Rn.self n).imp (fun _ _ q => Or.inl ⟨c, q⟩)) (fun c => (e_Rn.self n).imp (fun _ _ q => Or.inr ⟨c, q⟩)))
theorem e_Rn.ex {α : Type} {C : α → Prop} {f : α → eS} (h : e_Rn fd lay code I d M t r w) (R : ∀ (n : Nat) (Q : List eV → eW → Prop), (∀ x, C x → e_Pn fd lay code I n d M (f x) Q) → e_Pn fd lay code I n d M t Q) : ∃ x, C x ∧ e_Rn fd lay code I d M (f x) r w := h.pn (fun n => R n (fun r w => ∃ x, C x ∧ e_Rn fd lay code I d M (f x) r w) (fun x c => (e_Rn.self n).imp (fun _ _ q => ⟨x, c, q⟩)))
/-- a call: the run of what is called, and the run behind it -/
theorem e_Rn.ca {M' na p : Nat} {f : eS → Option eS} {l : eL} {st : List eV} {v : eW} (h : e_Rn fd lay code I d M (p, l, st, v) r w) (hc : code M p = (2, f, M', na)) : ∃ (d' : Nat) (r1 : List eV) (w1 : eW), e_Rn fd lay code I d' M' (0, e_ent 0 (st.take na).reverse, [], v) r1 w1 ∧ e_Rn fd lay code I d M (p + 3, l, r1 ++ st.drop na, w1) r w :=
  h.pn (Q := fun r w => ∃ (d' : Nat) (r1 : List eV) (w1 : eW), e_Rn fd lay code I d' M' (0, e_ent 0 (st.take na).reverse, [], v) r1 w1 ∧ e_Rn fd lay code I d M (p + 3, l, r1 ++ st.drop na, w1) r w) (fun n => e_Pn.callA (Q' := fun r1 w1 => ∃ d', e_Rn fd lay code I d' M' (0, e_ent 0 (st.take na).reverse, [], v) r1 w1) hc (fun n' d' => (e_Rn.self n').imp (fun _ _ q => ⟨d', q⟩)) (fun r1 w1 q => (e_Rn.self n).imp (fun _ _ q2 => by obtain ⟨d', q⟩ := q; exact ⟨d', r1, w1, q, q2⟩)))
theorem e_Rn.re {k p b : Nat} {f : eS → Option eS} {l : eL} {st : List eV} {v : eW} (h : e_Rn fd lay code I d M (p, l, st, v) r w) (hc : code M p = (1, f, k, b)) : e_retv k st = some r ∧ v = w := h.pn (Q := fun r w => e_retv k st = some r ∧ v = w) (fun n => e_Pn.rets hc (fun r' q => ⟨q, rfl⟩))
theorem e_Rn.re0 {p b : Nat} {f : eS → Option eS} {l : eL} {v : eW} (h : e_Rn fd lay code I d M (p, l, [], v) r w) (hc : code M p = (1, f, 0, b)) : r = [] ∧ v = w := by
  obtain ⟨h1, h2⟩ := h.re hc
  cases h1
  exact ⟨rfl, h2⟩
theorem e_Rn.re1 {p b : Nat} {f : eS → Option eS} {l : eL} {v : eW} {z : Int} (h : e_Rn fd lay code I d M (p, l, [(0, z)], v) r w) (hc : code M p = (1, f, 1, b)) : r = [(0, z)] ∧ v = w := by
  obtain ⟨h1, h2⟩ := h.re hc
  cases h1
  exact ⟨rfl, h2⟩
theorem e_Rn.re4 {p b : Nat} {f : eS → Option eS} {l : eL} {v : eW} {z : Int} (h : e_Rn fd lay code I d M (p, l, [(0, z)], v) r w) (hc : code M p = (1, f, 4, b)) : r = [(0, z)] ∧ v = w := by
  obtain ⟨h1, h2⟩ := h.re hc
  replace h1 : (bif e_pk 1 ((0, z) : eV) then some [((0, z) : eV)] else none) = some r := h1
  cases hb : e_pk 1 ((0, z) : eV) with
  | false => rw [hb] at h1; cases h1
  | true => rw [hb] at h1; cases h1; exact ⟨rfl, h2⟩
theorem e_Rn.le {l l' : eL} {p : Nat} {st : List eV} {v : eW} (hN : e_Alk lay code) (ks : List Nat) (hk : e_ndB ks = true) (he : e_ord ks l = l') (h : e_Rn fd lay code I d M (p, l, st, v) r w) : e_Rn fd lay code I d M (p, l', st, v) r w := h.st (fun n Q q => e_Pn.ord hN ks hk he q)
/-- what ends somewhere, ends there in this way -/
theorem e_Ok.rn {t : eS} {Q : List eV → eW → Prop} (hn : (t.2.1.map Prod.fst).Nodup) (h : e_Ok fd lay code I d M t Q) : e_Ok fd lay code I d M t (fun r w => Q r w ∧ e_Rn fd lay code I d M t r w) := by
  obtain ⟨n, r, w, h1, h2⟩ := h
  exact ⟨n, r, w, h1, h2, hn, n, h1⟩
/-- a call that is gone into: what is behind it is asked of its end -/
theorem e_Pn.callI {n M' na p : Nat} {f : eS → Option eS} {l : eL} {st : List eV} {v : eW} {Q : List eV → eW → Prop} (hc : code M p = (2, f, M', na)) (h : ∀ nq dq, e_Pn fd lay code I nq dq M' (0, e_ent 0 (st.take na).reverse, [], v) (fun r w' => e_Pn fd lay code I n d M (p + 3, l, r ++ st.drop na, w') Q)) : e_Pn fd lay code I n d M (p, l, st, v) Q := e_Pn.callA hc h (fun _ _ q => q)
/-- a call whose run is shorter (for methods that call themselves) -/
theorem e_Pn.callF {n M' na p : Nat} {f : eS → Option eS} {l : eL} {st : List eV} {v : eW} {Q' Q : List eV → eW → Prop} (hc : code M p = (2, f, M', na)) (h' : ∀ d, e_Pn fd lay code I n d M' (0, e_ent 0 (st.take na).reverse, [], v) Q') (h : ∀ r w', Q' r w' → e_Pn fd lay code I (n + 1) d M (p + 3, l, r ++ st.drop na, w') Q) : e_Pn fd lay code I (n + 1) d M (p, l, st, v) Q := fun hn r w q => by
  unfold e_go at q
  simp only at q
  rw [hc] at q
  simp only at q
  cases d with
  | zero => cases q
  | succ d' =>
    simp only at q
    cases hb : e_may fd lay d' M' na (I M') st (st.take na).reverse (st.drop na) with
    | false => rw [hb] at q; cases q
    | true =>
      rw [hb] at q
      simp only [cond_true] at q
      split at q
      · rename_i rw9 hls
        obtain ⟨r9, w9⟩ := rw9
        exact h r9 w9 (h' d' (e_ent_nd _ 0) r9 w9 hls) hn r w (e_go_mono q)
      · cases q
end SBR
/-- places that are alike on both sides: the class's place (c, k) with D c k lies at g c k of the model's row 276 -/
def e_al (D : Int → Int → Prop) (g : Int → Int → Int) (w v : eW) : Prop := ∀ c k, D c k → w c k = v 276 (g c k)
theorem e_al.up {D : Int → Int → Prop} {g : Int → Int → Int} (hj : ∀ c k c' k', D c k → D c' k' → g c k = g c' k' → c = c' ∧ k = k') {w v w' v' : eW} (h : e_al D g w v) {c k z q : Int} (hD : D c k) (hq : g c k = q) (hw : e_up w c k z = w') (hv : e_up v 276 q z = v') : e_al D g w' v' := fun c' k' h' => by
  subst hw hv hq
  by_cases e : c' = c ∧ k' = k
  · obtain ⟨rfl, rfl⟩ := e
    rw [e_up_eq, e_up_eq]
  · rw [e_up_ne _ _ (by by_cases e1 : c' = c; exact Or.inr (fun e2 => e ⟨e1, e2⟩); exact Or.inl e1), e_up_ne _ _ (Or.inr (fun e2 => e (hj c' k' c k h' hD e2)))]
    exact h c' k' h'
theorem e_al.upL {D : Int → Int → Prop} {g : Int → Int → Int} {w v w' : eW} (h : e_al D g w v) {c k z : Int} (hD : ¬ D c k) (hw : e_up w c k z = w') : e_al D g w' v := fun c' k' h' => by
  subst hw
  rw [e_up_ne _ _ (by by_cases e1 : c' = c; exact Or.inr (fun e2 => hD (by rw [← e1, ← e2]; exact h')); exact Or.inl e1)]
  exact h c' k' h'
theorem e_al.upR {D : Int → Int → Prop} {g : Int → Int → Int} {w v v' : eW} (h : e_al D g w v) {c k z : Int} (hD : c ≠ 276 ∨ ∀ c' k', D c' k' → g c' k' ≠ k) (hv : e_up v c k z = v') : e_al D g w v' := fun c' k' h' => by
  subst hv
  rw [e_up_ne _ _ (by rcases hD with hD | hD; exact Or.inl (fun e => hD e.symm); exact Or.inr (hD c' k' h'))]
  exact h c' k' h'
end
