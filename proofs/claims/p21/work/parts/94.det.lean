noncomputable section
/-! a run is a function: what comes out is the same, however deep it is called, and whatever else is known -/
section E94
variable {fd : Nat} {lay : List eY} {code : Nat → Nat → eE} {I : Nat → xM}
theorem e_may_up {d M' na : Nat} {q' : xM} {st as rest : List eV} (h : e_may fd lay d M' na q' st as rest = true) : e_may fd lay (d + 1) M' na q' st as rest = true := by
  unfold e_may at h ⊢
  simp only [Bool.and_eq_true] at h ⊢
  exact ⟨Nat.ble_eq.mpr (Nat.le_succ_of_le (Nat.ble_eq.mp h.1)), h.2⟩
theorem e_go_up : ∀ {n : Nat} {d M : Nat} {t : eS} {r : List eV × eW}, e_go fd lay code I n d M t = some r → e_go fd lay code I n (d + 1) M t = some r := by
  intro n
  induction n with
  | zero => intro d M t r h; cases h
  | succ n ih =>
    intro d M t r h
    unfold e_go at h
    unfold e_go
    split at h
    · rename_i f a b hc
      split at h
      · rename_i t' hf
        exact ih h
      · cases h
    · rename_i f k b hc
      exact h
    · rename_i f M' na hc
      cases d with
      | zero => cases h
      | succ d' =>
        simp only at h
        simp only
        cases hb : e_may fd lay d' M' na (I M') t.2.2.1 (t.2.2.1.take na).reverse (t.2.2.1.drop na) with
        | false => rw [hb] at h; cases h
        | true =>
          rw [hb] at h
          rw [e_may_up hb]
          simp only [cond_true] at h ⊢
          split at h
          · rename_i rw9 hls
            rw [ih hls]
            exact ih h
          · cases h
    · cases h
theorem e_go_ups {n d k M : Nat} {t : eS} {r : List eV × eW} (h : e_go fd lay code I n d M t = some r) : e_go fd lay code I n (d + k) M t = some r := by
  induction k with
  | zero => exact h
  | succ k ih => exact e_go_up ih
theorem e_go_one {n d n' d' M : Nat} {t : eS} {r r' : List eV × eW} (h : e_go fd lay code I n d M t = some r) (h' : e_go fd lay code I n' d' M t = some r') : r = r' := by
  have h1 := e_go_le (Nat.le_add_right n n') (e_go_ups (k := d') h)
  have h2 := e_go_le (Nat.le_add_left n' n) (e_go_ups (k := d) h')
  rw [Nat.add_comm d' d] at h2
  rw [h1] at h2
  exact Option.some.inj h2
end E94
/-- what the model's method M makes of t -/
def e_phi (M : Nat) (t : eS) : List eV × eW := @dite _ (∃ r n d, e_go 20 elay ecode eI n d M t = some r) (Classical.propDecidable _) (fun h => Classical.choose h) (fun _ => ([], fun _ _ => 0))
theorem e_phi_eq {n d M : Nat} {t : eS} {r : List eV × eW} (h : e_go 20 elay ecode eI n d M t = some r) : e_phi M t = r := by
  have hx : ∃ r n d, e_go 20 elay ecode eI n d M t = some r := ⟨r, n, d, h⟩
  unfold e_phi
  rw [dif_pos hx]
  obtain ⟨n', d', h'⟩ := Classical.choose_spec hx
  exact e_go_one h' h
/-- of w nothing is known but what K says -/
def e_pz (K : Int → Int → Prop) (w : eW) : eW := fun c k => @ite _ (K c k) (Classical.propDecidable _) (w c k) 2147483648
theorem e_pz_in {K : Int → Int → Prop} {w : eW} {c k : Int} (h : K c k) : e_pz K w c k = w c k := if_pos h
theorem e_pz_rf (K : Int → Int → Prop) (w : eW) : e_rf (e_pz K w) w := fun c k h => by
  unfold e_pz at h ⊢
  by_cases q : K c k
  · rw [if_pos q]
  · rw [if_neg q] at h
    exact absurd h (by decide)
theorem e_pz_eq {K : Int → Int → Prop} {w w' : eW} (h : ∀ c k, K c k → w' c k = w c k) : e_pz K w' = e_pz K w := by
  funext c k
  unfold e_pz
  by_cases q : K c k
  · rw [if_pos q, if_pos q, h c k q]
  · rw [if_neg q, if_neg q]
/-- a contract that asks of w no more than K: what comes out is a function of that -/
theorem e_Ok.det {d M : Nat} {l : eL} {w : eW} {Q : eW → List eV → eW → Prop} (K : Int → Int → Prop) (hn : (l.map Prod.fst).Nodup) (h : ∀ u, (∀ c k, K c k → u c k = w c k) → e_Ok 20 elay ecode eI d M (0, l, [], u) (Q u)) :
    e_Ok 20 elay ecode eI d M (0, l, [], w) (fun r v => Q w r v ∧ Q (e_pz K w) r (e_phi M (0, l, [], e_pz K w)).2 ∧ r = (e_phi M (0, l, [], e_pz K w)).1 ∧ e_rf (e_phi M (0, l, [], e_pz K w)).2 v) := by
  obtain ⟨n, r, u, h1, h2⟩ := h (e_pz K w) (fun c k q => e_pz_in q)
  have e := e_phi_eq h1
  have h3 : e_Ok 20 elay ecode eI d M (0, l, [], e_pz K w) (fun r' u' => r' = r ∧ u' = u) := ⟨n, r, u, h1, rfl, rfl⟩
  obtain ⟨n', r', v, h4, u', ⟨h5, h6⟩, h7⟩ := e_Ok.more eAlk hn (e_pz_rf K w) h3
  obtain ⟨n2, r2, v2, h8, h9⟩ := h w (fun _ _ _ => rfl)
  have e2 := e_go_one h4 h8
  refine ⟨n', r', v, h4, ?_⟩
  rw [e]
  subst h5 h6
  have e3 : r' = r2 := congrArg Prod.fst e2
  have e4 : v = v2 := congrArg Prod.snd e2
  refine ⟨by rw [e3, e4]; exact h9, h2, rfl, h7⟩
end
