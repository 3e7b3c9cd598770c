noncomputable section
/-! a logic over the exact interpreter: from t the method comes to its end, and there Q -/
section E33
variable {fd : Nat} {lay : List eY} {code : Nat → Nat → eE} {I : Nat → xM}
theorem e_go_mono : ∀ {n : Nat} {d M : Nat} {t : eS} {r : List eV × eW}, e_go fd lay code I n d M t = some r → e_go fd lay code I (n + 1) d M t = some r := by
  intro n
  induction n with
  | zero => intro d M t r h; cases h
  | succ n ih =>
    intro d M t r h
    unfold e_go at h
    unfold e_go
    split at h
    · rename_i f a b hc
      split at h
      · rename_i t' hf
        exact ih h
      · cases h
    · rename_i f k b hc
      exact h
    · rename_i f M' na hc
      cases d with
      | zero => cases h
      | succ d' =>
        simp only at h
        simp only
        cases hb : e_may fd lay d' M' na (I M') t.2.2.1 (t.2.2.1.take na).reverse (t.2.2.1.drop na) with
        | false => rw [hb] at h; cases h
        | true =>
          rw [hb] at h
          simp only [cond_true] at h ⊢
          split at h
          · rename_i rw9 hls
            rw [ih hls]
            exact ih h
          · cases h
    · cases h
theorem e_go_le {n k : Nat} (hk : n ≤ k) {d M : Nat} {t : eS} {r : List eV × eW} (h : e_go fd lay code I n d M t = some r) : e_go fd lay code I k d M t = some r := by
  obtain ⟨j, rfl⟩ := Nat.exists_eq_add_of_le hk
  induction j with
  | zero => exact h
  | succ j ih => exact e_go_mono (ih (Nat.le_add_right n j))
/-- from t on the method M (its calls no deeper than d) comes to its end, with Q of the answer and the contents -/
def e_Ok (fd : Nat) (lay : List eY) (code : Nat → Nat → eE) (I : Nat → xM) (d M : Nat) (t : eS) (Q : List eV → eW → Prop) : Prop := ∃ n r w, e_go fd lay code I n d M t = some (r, w) ∧ Q r w
theorem e_Ok.imp {d M : Nat} {t : eS} {Q Q' : List eV → eW → Prop} (h : e_Ok fd lay code I d M t Q) (hq : ∀ r w, Q r w → Q' r w) : e_Ok fd lay code I d M t Q' := by
  obtain ⟨n, r, w, h1, h2⟩ := h
  exact ⟨n, r, w, h1, hq r w h2⟩
theorem e_Ok.step {d M a b : Nat} {t t' : eS} {f : eS → Option eS} {Q : List eV → eW → Prop} (hc : code M t.1 = (0, f, a, b)) (hf : f t = some t') (h : e_Ok fd lay code I d M t' Q) : e_Ok fd lay code I d M t Q := by
  obtain ⟨n, r, w, h1, h2⟩ := h
  refine ⟨n + 1, r, w, ?_, h2⟩
  unfold e_go
  rw [hc]
  simp only
  rw [hf]
  exact h1
theorem e_Ok.ret {d M k b : Nat} {t : eS} {f : eS → Option eS} {r : List eV} {Q : List eV → eW → Prop} (hc : code M t.1 = (1, f, k, b)) (hr : e_retv k t.2.2.1 = some r) (h : Q r t.2.2.2) : e_Ok fd lay code I d M t Q := by
  refine ⟨1, r, t.2.2.2, ?_, h⟩
  unfold e_go
  rw [hc]
  simp only
  rw [hr]
theorem e_Ok.call {d M M' na : Nat} {t : eS} {f : eS → Option eS} {Q' Q : List eV → eW → Prop} (hc : code M t.1 = (2, f, M', na)) (hm : e_may fd lay d M' na (I M') t.2.2.1 (t.2.2.1.take na).reverse (t.2.2.1.drop na) = true) (h' : e_Ok fd lay code I d M' (0, e_ent 0 (t.2.2.1.take na).reverse, [], t.2.2.2) Q') (h : ∀ r w, Q' r w → e_Ok fd lay code I (d + 1) M (t.1 + 3, t.2.1, r ++ t.2.2.1.drop na, w) Q) : e_Ok fd lay code I (d + 1) M t Q := by
  obtain ⟨n', r', w', h1, h2⟩ := h'
  obtain ⟨n, r, w, h3, h4⟩ := h r' w' h2
  refine ⟨(n' + n) + 1, r, w, ?_, h4⟩
  unfold e_go
  rw [hc]
  simp only
  rw [hm]
  simp only [cond_true]
  rw [e_go_le (Nat.le_add_right n' n) h1]
  exact e_go_le (Nat.le_add_left n n') h3
/-- a loop: a measure falls -/
theorem e_Ok.loop {d M : Nat} {Q : List eV → eW → Prop} {α : Type} (J : α → Prop) (st : α → eS) (mu : α → Nat) (body : ∀ x, J x → (∀ y, J y → mu y < mu x → e_Ok fd lay code I d M (st y) Q) → e_Ok fd lay code I d M (st x) Q) : ∀ x, J x → e_Ok fd lay code I d M (st x) Q := by
  have key : ∀ n x, mu x < n → J x → e_Ok fd lay code I d M (st x) Q := by
    intro n
    induction n with
    | zero => intro x h; omega
    | succ n ih => intro x hx hj; exact body x hj (fun y hy hlt => ih y (by omega) hy)
  exact fun x hj => key (mu x + 1) x (Nat.lt_succ_self _) hj
end E33
/-! a run goes alike from a state that knows more -/
section E33s
variable {fd : Nat} {lay : List eY} {code : Nat → Nat → eE} {I : Nat → xM}
theorem e_ent_lo : ∀ (as : List eV) (i : Nat) (q : Nat × eV), q ∈ e_ent i as → i ≤ q.1
  | [], _, _, h => by cases h
  | x :: r, i, q, h => by
    unfold e_ent at h
    rcases List.mem_cons.mp h with rfl | h
    · exact Nat.le_refl _
    · have := e_ent_lo r _ q h
      cases hb : Nat.beq (e_ty x) 1 <;> rw [hb] at this <;> simp only [cond_true, cond_false] at this <;> omega
theorem e_ent_nd : ∀ (as : List eV) (i : Nat), ((e_ent i as).map Prod.fst).Nodup
  | [], _ => List.nodup_nil
  | x :: r, i => by
    unfold e_ent
    rw [List.map_cons, List.nodup_cons]
    refine ⟨fun hm => ?_, e_ent_nd r _⟩
    obtain ⟨q, hq, e⟩ := List.mem_map.mp hm
    have := e_ent_lo r _ q hq
    cases hb : Nat.beq (e_ty x) 1 <;> rw [hb] at this <;> simp only [cond_true, cond_false] at this <;> simp only at e <;> omega
theorem e_sub.ent (as : List eV) : e_sub (e_ent 0 as) (e_ent 0 as) := ⟨e_ent_nd as 0, fun _ h => h⟩
/-- places of the tables: plain ones do alike -/
def e_Alk (lay : List eY) (code : Nat → Nat → eE) : Prop := ∀ M pc f a b, code M pc = (0, f, a, b) → e_NI lay f
theorem e_sim (hN : e_Alk lay code) : ∀ (n d M : Nat) (t : eS) (r : List eV) (w1 : eW) (l' : eL) (w' : eW), e_go fd lay code I n d M t = some (r, w1) → e_sub t.2.1 l' → e_rf t.2.2.2 w' → ∃ w1', e_go fd lay code I n d M (t.1, l', t.2.2.1, w') = some (r, w1') ∧ e_rf w1 w1' ∧ (w' = t.2.2.2 → w1' = w1) := by
  intro n
  induction n with
  | zero => intro d M t r w1 l' w' h; cases h
  | succ n ih =>
    intro d M t r w1 l' w' h hs hw
    unfold e_go at h ⊢
    split at h
    · rename_i f a b hc
      simp only [hc]
      split at h
      · rename_i t' hf
        obtain ⟨l1, v1, g1, g2, g3, g4⟩ := (hN M t.1 f a b hc).1 t.1 t.2.1 l' t.2.2.1 t.2.2.2 w' t' hf hs hw
        rw [g1]
        simp only
        obtain ⟨u, u1, u2, u3⟩ := ih d M t' r w1 l1 v1 h g2 g3
        exact ⟨u, u1, u2, fun e => u3 (g4 e)⟩
      · cases h
    · rename_i f k b hc
      simp only [hc]
      split at h
      · rename_i r' hr
        cases h
        exact ⟨w', rfl, hw, fun e => e⟩
      · cases h
    · rename_i f M' na hc
      simp only [hc]
      cases d with
      | zero => cases h
      | succ d' =>
        simp only at h ⊢
        cases hb : e_may fd lay d' M' na (I M') t.2.2.1 (t.2.2.1.take na).reverse (t.2.2.1.drop na) with
        | false => rw [hb] at h; cases h
        | true =>
          rw [hb] at h
          simp only [cond_true] at h ⊢
          split at h
          · rename_i rw9 hls
            obtain ⟨r9, w9⟩ := rw9
            obtain ⟨v, v1, v2, v3⟩ := ih d' M' _ r9 w9 _ w' hls (e_sub.ent _) hw
            simp only at v1
            rw [v1]
            simp only
            obtain ⟨u, u1, u2, u3⟩ := ih (d' + 1) M _ r w1 l' v h hs v2
            exact ⟨u, u1, u2, fun e => u3 (v3 e)⟩
          · cases h
    · cases h
/-- fewer locals -/
theorem e_Ok.sub (hN : e_Alk lay code) {d M p : Nat} {l l' : eL} {st : List eV} {w : eW} {Q : List eV → eW → Prop} (hs : e_sub l l') (h : e_Ok fd lay code I d M (p, l, st, w) Q) : e_Ok fd lay code I d M (p, l', st, w) Q := by
  obtain ⟨n, r, w1, h1, h2⟩ := h
  obtain ⟨w1', g1, -, g3⟩ := e_sim hN n d M _ r w1 l' w h1 hs (e_rf.refl w)
  have e := g3 rfl
  subst e
  exact ⟨n, r, w1', g1, h2⟩
/-- more slots known -/
theorem e_Ok.more (hN : e_Alk lay code) {d M p : Nat} {l : eL} {st : List eV} {w w' : eW} {Q : List eV → eW → Prop} (hn : (l.map Prod.fst).Nodup) (hw : e_rf w w') (h : e_Ok fd lay code I d M (p, l, st, w) Q) : e_Ok fd lay code I d M (p, l, st, w') (fun r v => ∃ u, Q r u ∧ e_rf u v) := by
  obtain ⟨n, r, w1, h1, h2⟩ := h
  obtain ⟨w1', g1, g2, -⟩ := e_sim hN n d M _ r w1 l w' h1 ⟨hn, fun _ h => h⟩ hw
  exact ⟨n, r, w1', g1, w1, h2, g2⟩
/-- what no cell has, stays -/
theorem e_go_out (hN : e_Alk lay code) : ∀ (n d M : Nat) (t : eS) (r : List eV) (w1 : eW), e_go fd lay code I n d M t = some (r, w1) → ∀ c k, e_out lay c k → w1 c k = t.2.2.2 c k := by
  intro n
  induction n with
  | zero => intro d M t r w1 h; cases h
  | succ n ih =>
    intro d M t r w1 h c k ho
    unfold e_go at h
    split at h
    · rename_i f a b hc
      split at h
      · rename_i t' hf
        rw [ih d M t' r w1 h c k ho]
        exact (hN M t.1 f a b hc).2 t t' hf c k ho
      · cases h
    · rename_i f kk b hc
      split at h
      · rename_i r' hr
        cases h
        rfl
      · cases h
    · rename_i f M' na hc
      cases d with
      | zero => cases h
      | succ d' =>
        simp only at h
        cases hb : e_may fd lay d' M' na (I M') t.2.2.1 (t.2.2.1.take na).reverse (t.2.2.1.drop na) with
        | false => rw [hb] at h; cases h
        | true =>
          rw [hb] at h
          simp only [cond_true] at h
          split at h
          · rename_i rw9 hls
            obtain ⟨r9, w9⟩ := rw9
            rw [ih (d' + 1) M _ r w1 h c k ho]
            exact ih d' M' _ r9 w9 hls c k ho
          · cases h
    · cases h
theorem e_Ok.out (hN : e_Alk lay code) {d M : Nat} {t : eS} {Q : List eV → eW → Prop} (h : e_Ok fd lay code I d M t Q) : e_Ok fd lay code I d M t (fun r v => Q r v ∧ ∀ c k, e_out lay c k → v c k = t.2.2.2 c k) := by
  obtain ⟨n, r, w1, h1, h2⟩ := h
  exact ⟨n, r, w1, h1, h2, e_go_out hN n d M t r w1 h1⟩
end E33s
-- the machine does it
section E33b
variable {fd : Nat} {ft : Nat → Nat → Nat} {cl : List vw_C} {lay : List eY} {I : Nat → xM} {code : Nat → Nat → eE} {l : Launch}
theorem e_Ok.met (hT : e_Tab fd ft cl lay I code) {d M : Nat} {as : List eV} {w : eW} {Q : List eV → eW → Prop} (hd : fd ≤ d) (hl : e_cats as ≤ xm_l (I M)) (h : e_Ok fd lay code I d M (0, e_ent 0 as, [], w) Q) : ∃ r w', Q r w' ∧ e_Met ft cl lay I l d M as w r w' := by
  obtain ⟨n, r, w', h1, h2⟩ := h
  exact ⟨r, w', h2, e_met_of hT (e_frm hT n) hd hl h1⟩
end E33b
/-! numbers in bounds are themselves -/
theorem e32_id {z : Int} (h1 : -2147483648 ≤ z) (h2 : z ≤ 2147483647) : e32 z = z := x_bmod h1 h2
theorem e64_id {z : Int} (h1 : -9223372036854775808 ≤ z) (h2 : z ≤ 9223372036854775807) : e64 z = z := x_bmodL h1 h2
theorem e_if2_t {k tg nx p : Nat} {l : eL} {r : List eV} {w : eW} {x y : Int} (h : x_cnd k x y) : ei_if2 k tg nx (p, l, (0, y) :: (0, x) :: r, w) = some (tg, l, r, w) := by
  unfold ei_if2
  simp only [e_cnd_ok.mpr h, cond_true]
theorem e_if2_f {k tg nx p : Nat} {l : eL} {r : List eV} {w : eW} {x y : Int} (h : ¬ x_cnd k x y) : ei_if2 k tg nx (p, l, (0, y) :: (0, x) :: r, w) = some (nx, l, r, w) := by
  have hb : e_cnd k x y = false := by
    cases hb : e_cnd k x y with
    | false => rfl
    | true => exact absurd (e_cnd_ok.mp hb) h
  unfold ei_if2
  simp only [hb, cond_false]
theorem e_if1_t {k tg nx p : Nat} {l : eL} {r : List eV} {w : eW} {x : Int} (h : x_cnd k x 0) : ei_if1 k tg nx (p, l, (0, x) :: r, w) = some (tg, l, r, w) := by
  unfold ei_if1
  simp only [e_cnd_ok.mpr h, cond_true]
theorem e_if1_f {k tg nx p : Nat} {l : eL} {r : List eV} {w : eW} {x : Int} (h : ¬ x_cnd k x 0) : ei_if1 k tg nx (p, l, (0, x) :: r, w) = some (nx, l, r, w) := by
  have hb : e_cnd k x 0 = false := by
    cases hb : e_cnd k x 0 with
    | false => rfl
    | true => exact absurd (e_cnd_ok.mp hb) h
  unfold ei_if1
  simp only [hb, cond_false]
end
