noncomputable section
/-! a run stays on its side -/
theorem e_ent_mem : ∀ (as : List eV) (i : Nat) (q : Nat × eV), q ∈ e_ent i as → q.2 ∈ as
  | [], _, q, h => absurd h List.not_mem_nil
  | x :: r, i, q, h => by
    unfold e_ent at h
    rcases List.mem_cons.mp h with rfl | h
    · exact List.mem_cons_self
    · exact List.mem_cons_of_mem _ (e_ent_mem r _ q h)
theorem e_retv_mem {k : Nat} {st r : List eV} (h : e_retv k st = some r) : r = st := by
  unfold e_retv at h
  split at h
  · cases h; rfl
  · rename_i x
    cases hb : Nat.beq (e_ty x) 0 <;> rw [hb] at h <;> cases h
    rfl
  · rename_i x
    cases hb : Nat.beq (e_ty x) 1 <;> rw [hb] at h <;> cases h
    rfl
  · rename_i x
    cases hb : Nat.beq (e_ty x) 2 <;> rw [hb] at h <;> cases h
    rfl
  · rename_i x
    cases hb : e_pk 1 x <;> rw [hb] at h <;> cases h
    rfl
  · rename_i x
    cases hb : e_pc x <;> rw [hb] at h <;> cases h
    rfl
  · cases h
def e_InT (ft : Nat → Nat → Nat) (lay : List eY) (code : Nat → Nat → eE) : Prop := ∀ M pc f a b, code M pc = (0, f, a, b) → e_IN ft lay f
theorem e_go_in {fd : Nat} {ft : Nat → Nat → Nat} {lay : List eY} {code : Nat → Nat → eE} {I : Nat → xM} (hl : lay.length ≤ 357) (hN : e_InT ft lay code) {B : Int → Prop} (hB : e_BB B) : ∀ (n d M : Nat) (t : eS) (r : List eV) (w1 : eW), e_go fd lay code I n d M t = some (r, w1) → e_tB ft lay B t → (∀ x ∈ r, e_vB B x) ∧ e_wB ft lay B w1 ∧ ∀ c k, ¬ B c → w1 c k = t.2.2.2 c k := by
  intro n
  induction n with
  | zero => intro d M t r w1 h; cases h
  | succ n ih =>
    intro d M t r w1 h hI
    unfold e_go at h
    split at h
    · rename_i f a b hc
      split at h
      · rename_i t' hf
        obtain ⟨h1, h2⟩ := hN _ _ _ _ _ hc hl B hB t t' hf hI
        obtain ⟨g1, g2, g3⟩ := ih d M t' r w1 h h1
        exact ⟨g1, g2, fun c k q => (g3 c k q).trans (h2 c k q)⟩
      · cases h
    · rename_i f k b hc
      split at h
      · rename_i r' hr
        cases h
        have e := e_retv_mem hr
        exact ⟨fun x hx => hI.2.1 x (by rw [← e]; exact hx), hI.2.2, fun _ _ _ => rfl⟩
      · cases h
    · rename_i f M' na hc
      cases d with
      | zero => cases h
      | succ d' =>
        simp only at h
        cases hb : e_may fd lay d' M' na (I M') t.2.2.1 (t.2.2.1.take na).reverse (t.2.2.1.drop na) with
        | false => rw [hb] at h; cases h
        | true =>
          rw [hb] at h
          simp only [cond_true] at h
          split at h
          · rename_i rw9 hls
            obtain ⟨r9, w9⟩ := rw9
            have hI1 : e_tB ft lay B (0, e_ent 0 (t.2.2.1.take na).reverse, [], t.2.2.2) := ⟨fun q hq => hI.2.1 _ (List.mem_of_mem_take (List.mem_reverse.mp (e_ent_mem _ _ q hq))), fun x hx => absurd hx List.not_mem_nil, hI.2.2⟩
            obtain ⟨g1, g2, g3⟩ := ih d' M' _ r9 w9 hls hI1
            have hI2 : e_tB ft lay B (t.1 + 3, t.2.1, r9 ++ t.2.2.1.drop na, w9) := ⟨hI.1, fun x hx => by
              rcases List.mem_append.mp hx with hx | hx
              · exact g1 x hx
              · exact hI.2.1 x (List.mem_of_mem_drop hx), g2⟩
            obtain ⟨k1, k2, k3⟩ := ih (d' + 1) M _ r w1 h hI2
            exact ⟨k1, k2, fun c k q => (k3 c k q).trans (g3 c k q)⟩
          · cases h
    · cases h
theorem e_Ok.inside {fd : Nat} {ft : Nat → Nat → Nat} {lay : List eY} {code : Nat → Nat → eE} {I : Nat → xM} (hl : lay.length ≤ 357) (hN : e_InT ft lay code) {B : Int → Prop} (hB : e_BB B) {d M : Nat} {t : eS} {Q : List eV → eW → Prop} (h : e_Ok fd lay code I d M t Q) (hI : e_tB ft lay B t) : e_Ok fd lay code I d M t (fun r w' => Q r w' ∧ e_wB ft lay B w' ∧ ∀ c k, ¬ B c → w' c k = t.2.2.2 c k) := by
  obtain ⟨n, r, w', h1, h2⟩ := h
  obtain ⟨-, g2, g3⟩ := e_go_in hl hN hB n d M t r w' h1 hI
  exact ⟨n, r, w', h1, h2, g2, g3⟩
end
