noncomputable section
/-! a logic over the exact interpreter: from t the method comes to its end, and there Q -/
section E33
variable {fd : Nat} {lay : List eY} {code : Nat → Nat → eE} {I : Nat → xM}
theorem e_go_mono : ∀ {n : Nat} {d M : Nat} {t : eS} {r : List eV × eW}, e_go fd lay code I n d M t = some r → e_go fd lay code I (n + 1) d M t = some r := by
  intro n
  induction n with
  | zero => intro d M t r h; cases h
  | succ n ih =>
    intro d M t r h
    unfold e_go at h
    unfold e_go
    split at h
    · rename_i f a b hc
      split at h
      · rename_i t' hf
        exact ih h
      · cases h
    · rename_i f k b hc
      exact h
    · rename_i f M' na hc
      cases d with
      | zero => cases h
      | succ d' =>
        simp only at h
        simp only
        cases hb : e_may fd lay d' M' na (I M') t.2.2.1 (t.2.2.1.take na).reverse (t.2.2.1.drop na) with
        | false => rw [hb] at h; cases h
        | true =>
          rw [hb] at h
          simp only [cond_true] at h ⊢
          split at h
          · rename_i rw9 hls
            rw [ih hls]
            exact ih h
          · cases h
    · cases h
theorem e_go_le {n k : Nat} (hk : n ≤ k) {d M : Nat} {t : eS} {r : List eV × eW} (h : e_go fd lay code I n d M t = some r) : e_go fd lay code I k d M t = some r := by
  obtain ⟨j, rfl⟩ := Nat.exists_eq_add_of_le hk
  induction j with
  | zero => exact h
  | succ j ih => exact e_go_mono (ih (Nat.le_add_right n j))
/-- from t on the method M (its calls no deeper than d) comes to its end, with Q of the answer and the contents -/
def e_Ok (fd : Nat) (lay : List eY) (code : Nat → Nat → eE) (I : Nat → xM) (d M : Nat) (t : eS) (Q : List eV → eW → Prop) : Prop := ∃ n r w, e_go fd lay code I n d M t = some (r, w) ∧ Q r w
theorem e_Ok.imp {d M : Nat} {t : eS} {Q Q' : List eV → eW → Prop} (h : e_Ok fd lay code I d M t Q) (hq : ∀ r w, Q r w → Q' r w) : e_Ok fd lay code I d M t Q' := by
  obtain ⟨n, r, w, h1, h2⟩ := h
  exact ⟨n, r, w, h1, hq r w h2⟩
theorem e_Ok.step {d M a b : Nat} {t t' : eS} {f : eS → Option eS} {Q : List eV → eW → Prop} (hc : code M t.1 = (0, f, a, b)) (hf : f t = some t') (h : e_Ok fd lay code I d M t' Q) : e_Ok fd lay code I d M t Q := by
  obtain ⟨n, r, w, h1, h2⟩ := h
  refine ⟨n + 1, r, w, ?_, h2⟩
  unfold e_go
  rw [hc]
  simp only
  rw [hf]
  exact h1
theorem e_Ok.ret {d M k b : Nat} {t : eS} {f : eS → Option eS} {r : List eV} {Q : List eV → eW → Prop} (hc : code M t.1 = (1, f, k, b)) (hr : e_retv k t.2.2.1 = some r) (h : Q r t.2.2.2) : e_Ok fd lay code I d M t Q := by
  refine ⟨1, r, t.2.2.2, ?_, h⟩
  unfold e_go
  rw [hc]
  simp only
  rw [hr]
theorem e_Ok.call {d M M' na : Nat} {t : eS} {f : eS → Option eS} {Q' Q : List eV → eW → Prop} (hc : code M t.1 = (2, f, M', na)) (hm : e_may fd lay d M' na (I M') t.2.2.1 (t.2.2.1.take na).reverse (t.2.2.1.drop na) = true) (h' : e_Ok fd lay code I d M' (0, e_ent 0 (t.2.2.1.take na).reverse, [], t.2.2.2) Q') (h : ∀ r w, Q' r w → e_Ok fd lay code I (d + 1) M (t.1 + 3, t.2.1, r ++ t.2.2.1.drop na, w) Q) : e_Ok fd lay code I (d + 1) M t Q := by
  obtain ⟨n', r', w', h1, h2⟩ := h'
  obtain ⟨n, r, w, h3, h4⟩ := h r' w' h2
  refine ⟨(n' + n) + 1, r, w, ?_, h4⟩
  unfold e_go
  rw [hc]
  simp only
  rw [hm]
  simp only [cond_true]
  rw [e_go_le (Nat.le_add_right n' n) h1]
  exact e_go_le (Nat.le_add_left n n') h3
/-- a loop: a measure falls -/
theorem e_Ok.loop {d M : Nat} {Q : List eV → eW → Prop} {α : Type} (J : α → Prop) (st : α → eS) (mu : α → Nat) (body : ∀ x, J x → (∀ y, J y → mu y < mu x → e_Ok fd lay code I d M (st y) Q) → e_Ok fd lay code I d M (st x) Q) : ∀ x, J x → e_Ok fd lay code I d M (st x) Q := by
  have key : ∀ n x, mu x < n → J x → e_Ok fd lay code I d M (st x) Q := by
    intro n
    induction n with
    | zero => intro x h; omega
    | succ n ih => intro x hx hj; exact body x hj (fun y hy hlt => ih y (by omega) hy)
  exact fun x hj => key (mu x + 1) x (Nat.lt_succ_self _) hj
end E33
-- the machine does it
section E33b
variable {fd : Nat} {ft : Nat → Nat → Nat} {cl : List vw_C} {lay : List eY} {I : Nat → xM} {code : Nat → Nat → eE} {l : Launch}
theorem e_Ok.met (hT : e_Tab fd ft cl lay I code) {d M : Nat} {as : List eV} {w : eW} {Q : List eV → eW → Prop} (hd : fd ≤ d) (hl : e_cats as ≤ xm_l (I M)) (h : e_Ok fd lay code I d M (0, e_ent 0 as, [], w) Q) : ∃ r w', Q r w' ∧ e_Met ft cl lay I l d M as w r w' := by
  obtain ⟨n, r, w', h1, h2⟩ := h
  exact ⟨r, w', h2, e_met_of hT (e_frm hT n) hd hl h1⟩
end E33b
/-! numbers in bounds are themselves -/
theorem e32_id {z : Int} (h1 : -2147483648 ≤ z) (h2 : z ≤ 2147483647) : e32 z = z := x_bmod h1 h2
theorem e64_id {z : Int} (h1 : -9223372036854775808 ≤ z) (h2 : z ≤ 9223372036854775807) : e64 z = z := x_bmodL h1 h2
theorem e_ald_in {lay : List eY} {b : Bool} {nx p kd c n : Nat} {l : eL} {r : List eV} {w : eW} {i : Int} {j : Nat} (hy : lay[j]? = some (kd, c, n)) (hk : x_akd b kd = true) (h0 : 0 ≤ i) (h1 : i < n) : ei_ald lay b nx (p, l, (0, i) :: (1, (j : Int)) :: r, w) = some (nx, l, (0, w j i.toNat) :: r, w) := by
  unfold ei_ald
  simp only [Int.toNat_natCast, hy, hk, decide_eq_true h0, decide_eq_true h1, Bool.and_self, cond_true]
theorem e_ast_in {lay : List eY} {b : Bool} {nx p kd c n : Nat} {l : eL} {r : List eV} {w : eW} {i x z : Int} {j : Nat} (hy : lay[j]? = some (kd, c, n)) (hk : x_akd b kd = true) (hz : e_nar kd x = some z) (h0 : 0 ≤ i) (h1 : i < n) : ei_ast lay b nx (p, l, (0, x) :: (0, i) :: (1, (j : Int)) :: r, w) = some (nx, l, r, e_up w j i.toNat z) := by
  unfold ei_ast
  simp only [Int.toNat_natCast, hy, hz, hk, decide_eq_true h0, decide_eq_true h1, Bool.and_self, cond_true]
theorem e_aald_in {lay : List eY} {nx p kd c n : Nat} {l : eL} {r : List eV} {w : eW} {i : Int} {j : Nat} (hy : lay[j]? = some (kd, c, n)) (hk : (Nat.beq kd 5 || Nat.beq kd 6) = true) (h0 : 0 ≤ i) (h1 : i < n) : ei_aald lay nx (p, l, (0, i) :: (1, (j : Int)) :: r, w) = some (nx, l, e_rd 1 (w j i.toNat) :: r, w) := by
  unfold ei_aald
  simp only [Int.toNat_natCast, hy, hk, decide_eq_true h0, decide_eq_true h1, Bool.and_self, cond_true]
theorem e_if2_t {k tg nx p : Nat} {l : eL} {r : List eV} {w : eW} {x y : Int} (h : x_cnd k x y) : ei_if2 k tg nx (p, l, (0, y) :: (0, x) :: r, w) = some (tg, l, r, w) := by
  unfold ei_if2
  simp only [e_cnd_ok.mpr h, cond_true]
theorem e_if2_f {k tg nx p : Nat} {l : eL} {r : List eV} {w : eW} {x y : Int} (h : ¬ x_cnd k x y) : ei_if2 k tg nx (p, l, (0, y) :: (0, x) :: r, w) = some (nx, l, r, w) := by
  have hb : e_cnd k x y = false := by
    cases hb : e_cnd k x y with
    | false => rfl
    | true => exact absurd (e_cnd_ok.mp hb) h
  unfold ei_if2
  simp only [hb, cond_false]
theorem e_if1_t {k tg nx p : Nat} {l : eL} {r : List eV} {w : eW} {x : Int} (h : x_cnd k x 0) : ei_if1 k tg nx (p, l, (0, x) :: r, w) = some (tg, l, r, w) := by
  unfold ei_if1
  simp only [e_cnd_ok.mpr h, cond_true]
theorem e_if1_f {k tg nx p : Nat} {l : eL} {r : List eV} {w : eW} {x : Int} (h : ¬ x_cnd k x 0) : ei_if1 k tg nx (p, l, (0, x) :: r, w) = some (nx, l, r, w) := by
  have hb : e_cnd k x 0 = false := by
    cases hb : e_cnd k x 0 with
    | false => rfl
    | true => exact absurd (e_cnd_ok.mp hb) h
  unfold ei_if1
  simp only [hb, cond_false]
end
