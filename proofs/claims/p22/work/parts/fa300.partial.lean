noncomputable section
/-! partial: IF a run comes to its end, then Q (that it does is told elsewhere, by e_Ok): no bounds, no measures are asked -/
section SPL
variable {fd : Nat} {lay : List eY} {code : Nat → Nat → eE} {I : Nat → xM}
def e_Pn (fd : Nat) (lay : List eY) (code : Nat → Nat → eE) (I : Nat → xM) (n d M : Nat) (t : eS) (Q : List eV → eW → Prop) : Prop := (t.2.1.map Prod.fst).Nodup → ∀ r w, e_go fd lay code I n d M t = some (r, w) → Q r w
theorem e_Pn.zero {d M : Nat} {t : eS} {Q : List eV → eW → Prop} : e_Pn fd lay code I 0 d M t Q := fun _ r w h => by cases h
theorem e_Pn.le {n k d M : Nat} {t : eS} {Q : List eV → eW → Prop} (h : e_Pn fd lay code I n d M t Q) (hk : k ≤ n) : e_Pn fd lay code I k d M t Q := fun hn r w q => h hn r w (e_go_le hk q)
theorem e_Pn.imp {n d M : Nat} {t : eS} {Q Q' : List eV → eW → Prop} (h : e_Pn fd lay code I n d M t Q) (hq : ∀ r w, Q r w → Q' r w) : e_Pn fd lay code I n d M t Q' := fun hn r w q => hq r w (h hn r w q)
theorem e_Pn.and {n d M : Nat} {t : eS} {Q Q' : List eV → eW → Prop} (h : e_Pn fd lay code I n d M t Q) (h' : e_Pn fd lay code I n d M t Q') : e_Pn fd lay code I n d M t (fun r w => Q r w ∧ Q' r w) := fun hn r w q => ⟨h hn r w q, h' hn r w q⟩
/-- more frames do no harm -/
theorem e_go_dep : ∀ {n : Nat} {d D M : Nat} {t : eS} {r : List eV × eW}, d ≤ D → e_go fd lay code I n d M t = some r → e_go fd lay code I n D M t = some r := by
  intro n
  induction n with
  | zero => intro d D M t r hd h; cases h
  | succ n ih =>
    intro d D M t r hd h
    unfold e_go at h
    unfold e_go
    split at h
    · rename_i f a b hc
      split at h
      · rename_i t' hf
        exact ih hd h
      · cases h
    · rename_i f k b hc
      exact h
    · rename_i f M' na hc
      cases d with
      | zero => cases h
      | succ d' =>
        cases D with
        | zero => exact absurd hd (by omega)
        | succ D' =>
          simp only at h
          simp only
          cases hb : e_may fd lay d' M' na (I M') t.2.2.1 (t.2.2.1.take na).reverse (t.2.2.1.drop na) with
          | false => rw [hb] at h; cases h
          | true =>
            have hb' : e_may fd lay D' M' na (I M') t.2.2.1 (t.2.2.1.take na).reverse (t.2.2.1.drop na) = true := by
              unfold e_may at hb ⊢
              simp only [Bool.and_eq_true] at hb ⊢
              exact ⟨Nat.ble_eq_true_of_le (Nat.le_trans (Nat.le_of_ble_eq_true hb.1) (by omega)), hb.2⟩
            rw [hb] at h
            rw [hb']
            simp only [cond_true] at h ⊢
            split at h
            · rename_i rw9 hls
              rw [ih (show d' ≤ D' by omega) hls]
              exact ih hd h
            · cases h
    · cases h
/-- what is told of a run that comes to its end holds of every such run -/
theorem e_Ok.pn {D M : Nat} {t : eS} {Q : List eV → eW → Prop} (h : e_Ok fd lay code I D M t Q) {n d : Nat} (hd : d ≤ D) : e_Pn fd lay code I n d M t Q := fun _ r w q => by
  obtain ⟨k, r', w', h1, h2⟩ := h
  have e1 := e_go_le (Nat.le_add_right k n) h1
  have e2 := e_go_dep hd (e_go_le (Nat.le_add_left n k) q)
  rw [e1] at e2
  cases e2
  exact h2
theorem e_Ok.pnA {D0 M : Nat} {t : eS} {Q : List eV → eW → Prop} (h : ∀ D, D0 ≤ D → e_Ok fd lay code I D M t Q) (n d : Nat) : e_Pn fd lay code I n d M t Q := (h (D0 + d) (Nat.le_add_right _ _)).pn (Nat.le_add_left _ _)
theorem e_Ok.andP {d M : Nat} {t : eS} {Q Q' : List eV → eW → Prop} (hn : (t.2.1.map Prod.fst).Nodup) (h : e_Ok fd lay code I d M t Q) (h' : ∀ n, e_Pn fd lay code I n d M t Q') : e_Ok fd lay code I d M t (fun r w => Q r w ∧ Q' r w) := by
  obtain ⟨k, r, w, h1, h2⟩ := h
  exact ⟨k, r, w, h1, h2, h' k hn r w h1⟩
theorem e_nd_step (hN : e_Alk lay code) {M a b : Nat} {t t' : eS} {f : eS → Option eS} (hc : code M t.1 = (0, f, a, b)) (hf : f t = some t') (hn : (t.2.1.map Prod.fst).Nodup) : (t'.2.1.map Prod.fst).Nodup := by
  obtain ⟨l1, v1, g1, g2, -⟩ := (hN M t.1 f a b hc).1 t.1 t.2.1 t.2.1 t.2.2.1 t.2.2.2 t.2.2.2 t' hf ⟨hn, fun _ h => h⟩ (e_rf.refl _)
  have e : f (t.1, t.2.1, t.2.2.1, t.2.2.2) = some t' := hf
  rw [e] at g1
  have e2 : t'.2.1 = l1 := by rw [Option.some.injEq] at g1; rw [g1]
  rw [e2]
  exact g2.1
/-- an instruction; the run is one shorter behind it -/
theorem e_Pn.stepS (hN : e_Alk lay code) {n d M a b : Nat} {t : eS} {f : eS → Option eS} {Q : List eV → eW → Prop} (hc : code M t.1 = (0, f, a, b)) (h : ∀ t', f t = some t' → e_Pn fd lay code I n d M t' Q) : e_Pn fd lay code I (n + 1) d M t Q := fun hn r w q => by
  unfold e_go at q
  rw [hc] at q
  simp only at q
  split at q
  · rename_i t' hf
    exact h t' hf (e_nd_step hN hc hf hn) r w q
  · cases q
theorem e_Pn.step (hN : e_Alk lay code) {n d M a b : Nat} {t : eS} {f : eS → Option eS} {Q : List eV → eW → Prop} (hc : code M t.1 = (0, f, a, b)) (h : ∀ t', f t = some t' → e_Pn fd lay code I n d M t' Q) : e_Pn fd lay code I n d M t Q := by
  cases n with
  | zero => exact e_Pn.zero
  | succ n => exact e_Pn.stepS hN hc (fun t' hf => (h t' hf).le (Nat.le_succ n))
theorem e_Pn.ret {n d M k b : Nat} {t : eS} {f : eS → Option eS} {Q : List eV → eW → Prop} (hc : code M t.1 = (1, f, k, b)) (h : ∀ r, e_retv k t.2.2.1 = some r → Q r t.2.2.2) : e_Pn fd lay code I n d M t Q := fun _ r w q => by
  cases n with
  | zero => cases q
  | succ n =>
    unfold e_go at q
    rw [hc] at q
    simp only at q
    split at q
    · rename_i r' hr
      cases q
      exact h _ hr
    · cases q
theorem e_Pn.call {n d M M' na : Nat} {t : eS} {f : eS → Option eS} {Q' Q : List eV → eW → Prop} (hc : code M t.1 = (2, f, M', na)) (h' : ∀ n d, e_Pn fd lay code I n d M' (0, e_ent 0 (t.2.2.1.take na).reverse, [], t.2.2.2) Q') (h : ∀ r w, Q' r w → e_Pn fd lay code I n d M (t.1 + 3, t.2.1, r ++ t.2.2.1.drop na, w) Q) : e_Pn fd lay code I n d M t Q := fun hn r w q => by
  cases n with
  | zero => cases q
  | succ n =>
    unfold e_go at q
    rw [hc] at q
    simp only at q
    cases d with
    | zero => cases q
    | succ d' =>
      simp only at q
      cases hb : e_may fd lay d' M' na (I M') t.2.2.1 (t.2.2.1.take na).reverse (t.2.2.1.drop na) with
      | false => rw [hb] at q; cases q
      | true =>
        rw [hb] at q
        simp only [cond_true] at q
        split at q
        · rename_i rw9 hls
          obtain ⟨r9, w9⟩ := rw9
          exact h r9 w9 (h' n d' (e_ent_nd _ 0) r9 w9 hls) hn r w (e_go_mono q)
        · cases q
end SPL
section SPR
variable {fd : Nat} {lay : List eY} {code : Nat → Nat → eE} {I : Nat → xM} {ft : Nat → Nat → Nat} {N d M p nx tg a b k ci : Nat} {l : eL} {r : List eV} {w : eW} {Q : List eV → eW → Prop}
theorem e_Pn.run (hN : e_Alk lay code) {t t' : eS} (n : Nat) (h0 : e_steps code M n t = some t') (h : e_Pn fd lay code I N d M t' Q) : e_Pn fd lay code I N d M t Q := by
  induction n generalizing t with
  | zero => cases h0; exact h
  | succ n ih =>
    unfold e_steps at h0
    split at h0
    · rename_i f a b hc
      split at h0
      · rename_i t1 hf
        exact e_Pn.step hN hc (fun t2 h2 => by rw [hf] at h2; cases h2; exact ih h0)
      · cases h0
    · cases h0
/-- at a loop's head: the run is shorter behind it -/
theorem e_Pn.runS (hN : e_Alk lay code) {t t' : eS} (n : Nat) (h0 : e_steps code M (n + 1) t = some t') (h : e_Pn fd lay code I N d M t' Q) : e_Pn fd lay code I (N + 1) d M t Q := by
  unfold e_steps at h0
  split at h0
  · rename_i f a b hc
    split at h0
    · rename_i t1 hf
      exact e_Pn.stepS hN hc (fun t2 h2 => by rw [hf] at h2; cases h2; exact e_Pn.run hN n h0 h)
    · cases h0
  · cases h0
theorem e_Pn.if2 (hN : e_Alk lay code) {x y : Int} (hc : code M p = (0, ei_if2 k tg nx, a, b)) (ht : x_cnd k x y → e_Pn fd lay code I N d M (tg, l, r, w) Q) (hf : ¬ x_cnd k x y → e_Pn fd lay code I N d M (nx, l, r, w) Q) : e_Pn fd lay code I N d M (p, l, (0, y) :: (0, x) :: r, w) Q := by
  refine e_Pn.step hN hc (fun t' h => ?_)
  replace h : some ((bif e_cnd k x y then tg else nx), l, r, w) = some t' := h
  cases h
  cases hb : e_cnd k x y with
  | true => exact ht (e_cnd_ok.mp hb)
  | false => exact hf (fun q => by rw [e_cnd_ok.mpr q] at hb; cases hb)
theorem e_Pn.if1 (hN : e_Alk lay code) {x : Int} (hc : code M p = (0, ei_if1 k tg nx, a, b)) (ht : x_cnd k x 0 → e_Pn fd lay code I N d M (tg, l, r, w) Q) (hf : ¬ x_cnd k x 0 → e_Pn fd lay code I N d M (nx, l, r, w) Q) : e_Pn fd lay code I N d M (p, l, (0, x) :: r, w) Q := by
  refine e_Pn.step hN hc (fun t' h => ?_)
  replace h : some ((bif e_cnd k x 0 then tg else nx), l, r, w) = some t' := h
  cases h
  cases hb : e_cnd k x 0 with
  | true => exact ht (e_cnd_ok.mp hb)
  | false => exact hf (fun q => by rw [e_cnd_ok.mpr q] at hb; cases hb)
theorem e_okz_to {z : Int} (h : e_okz z = true) : -2147483648 ≤ z ∧ z ≤ 2147483647 := by
  unfold e_okz at h
  simp only [Bool.and_eq_true, decide_eq_true_eq] at h
  exact h
theorem e_Pn.getf (hN : e_Alk lay code) {c z : Int} (hc : code M p = (0, ei_getf ft lay ci k nx, a, b)) (hf : ft ci k = 0) (hz : w c k = z) (h : -2147483648 ≤ z ∧ z ≤ 2147483647 → e_Pn fd lay code I N d M (nx, l, (0, z) :: r, w) Q) : e_Pn fd lay code I N d M (p, l, (1, c) :: r, w) Q := by
  refine e_Pn.step hN hc (fun t' q => ?_)
  unfold ei_getf at q
  simp only at q
  split at q
  · rename_i c' n' hl
    cases hb : (Nat.beq c' ci && (Nat.ble (k + 1) n' && e_okz (w c k))) with
    | false => rw [hb] at q; cases q
    | true =>
      rw [hb, hf] at q
      simp only [Bool.and_eq_true] at hb
      cases q
      subst hz
      exact h (e_okz_to hb.2.2)
  · cases q
theorem e_Pn.getr (hN : e_Alk lay code) {c z : Int} (hc : code M p = (0, ei_getf ft lay ci k nx, a, b)) (hf : ft ci k = 1) (hz : w c k = z) (h0 : z ≠ -1) (h : e_Pn fd lay code I N d M (nx, l, (1, z) :: r, w) Q) : e_Pn fd lay code I N d M (p, l, (1, c) :: r, w) Q := by
  refine e_Pn.step hN hc (fun t' q => ?_)
  unfold ei_getf at q
  simp only at q
  split at q
  · rename_i c' n' hl
    cases hb : (Nat.beq c' ci && (Nat.ble (k + 1) n' && e_okz (w c k))) with
    | false => rw [hb] at q; cases q
    | true =>
      rw [hb, hf] at q
      subst hz
      have e : e_rd 1 (w c k) = (1, w c k) := by
        show (bif decide (w c k = -1) then (2, 0) else (1, w c k)) = _
        rw [decide_eq_false h0]
        rfl
      rw [e] at q
      cases q
      exact h
  · cases q
theorem e_Pn.putf (hN : e_Alk lay code) {c z : Int} {fk : Nat} (hc : code M p = (0, ei_putf ft lay ci k fk nx, a, b)) (hf : ft ci k = 0) (h : e_Pn fd lay code I N d M (nx, l, r, e_up w c k z) Q) : e_Pn fd lay code I N d M (p, l, (0, z) :: (1, c) :: r, w) Q := by
  refine e_Pn.step hN hc (fun t' q => ?_)
  unfold ei_putf at q
  rw [hf] at q
  simp only [e_wr] at q
  split at q
  · rename_i c' n' z' hl hz
    cases hz
    cases hb : (Nat.beq c' ci && (Nat.ble (k + 1) n' && e_pk fk ((0, z) : eV))) with
    | false => rw [hb] at q; cases q
    | true =>
      rw [hb] at q
      cases q
      exact h
  · cases q
theorem e_Pn.ald (hN : e_Alk lay code) {c i z : Int} {b' : Bool} (hc : code M p = (0, ei_ald lay b' nx, a, b)) (hz : w c i = z) (h : 0 ≤ i → -2147483648 ≤ z ∧ z ≤ 2147483647 → e_Pn fd lay code I N d M (nx, l, (0, z) :: r, w) Q) : e_Pn fd lay code I N d M (p, l, (0, i) :: (1, c) :: r, w) Q := by
  refine e_Pn.step hN hc (fun t' q => ?_)
  unfold ei_ald at q
  simp only at q
  split at q
  · rename_i kd c' n' hl
    cases hb : (x_akd b' kd && (decide (0 ≤ i) && (decide (i < n') && e_okz (w c i)))) with
    | false => rw [hb] at q; cases q
    | true =>
      rw [hb] at q
      simp only [Bool.and_eq_true, decide_eq_true_eq] at hb
      cases q
      subst hz
      exact h hb.2.1 (e_okz_to hb.2.2.2)
  · cases q
theorem e_Pn.aald (hN : e_Alk lay code) {c i z : Int} (hc : code M p = (0, ei_aald lay nx, a, b)) (hz : w c i = z) (h0 : z ≠ -1) (h : 0 ≤ i → e_Pn fd lay code I N d M (nx, l, (1, z) :: r, w) Q) : e_Pn fd lay code I N d M (p, l, (0, i) :: (1, c) :: r, w) Q := by
  refine e_Pn.step hN hc (fun t' q => ?_)
  unfold ei_aald at q
  simp only at q
  split at q
  · rename_i kd c' n' hl
    cases hb : ((Nat.beq kd 5 || Nat.beq kd 6) && (decide (0 ≤ i) && (decide (i < n') && e_okz (w c i)))) with
    | false => rw [hb] at q; cases q
    | true =>
      rw [hb] at q
      simp only [Bool.and_eq_true, decide_eq_true_eq] at hb
      subst hz
      have e : e_rd 1 (w c i) = (1, w c i) := by
        show (bif decide (w c i = -1) then (2, 0) else (1, w c i)) = _
        rw [decide_eq_false h0]
        rfl
      rw [e] at q
      cases q
      exact h hb.2.1
  · cases q
theorem e_Pn.ast (hN : e_Alk lay code) {c i x z : Int} {b' : Bool} {kd c' n : Nat} (hc : code M p = (0, ei_ast lay b' nx, a, b)) (hl : lay[c.toNat]? = some (kd, c', n)) (hz : e_nar kd x = some z) (h : 0 ≤ i → i < n → e_Pn fd lay code I N d M (nx, l, r, e_up w c i z) Q) : e_Pn fd lay code I N d M (p, l, (0, x) :: (0, i) :: (1, c) :: r, w) Q := by
  refine e_Pn.step hN hc (fun t' q => ?_)
  unfold ei_ast at q
  simp only at q
  rw [hl] at q
  simp only at q
  rw [hz] at q
  simp only at q
  cases hb : (x_akd b' kd && (decide (0 ≤ i) && decide (i < n))) with
  | false => rw [hb] at q; cases q
  | true =>
    rw [hb] at q
    simp only [Bool.and_eq_true, decide_eq_true_eq] at hb
    cases q
    exact h hb.2.1 hb.2.2
theorem e_Pn.bin (hN : e_Alk lay code) {F : Int → Int → Option Int} {x y z : Int} (hc : code M p = (0, ei_bin F nx, a, b)) (hz : F x y = some z) (h : e_Pn fd lay code I N d M (nx, l, (0, z) :: r, w) Q) : e_Pn fd lay code I N d M (p, l, (0, y) :: (0, x) :: r, w) Q := by
  refine e_Pn.step hN hc (fun t' q => ?_)
  unfold ei_bin at q
  simp only at q
  rw [hz] at q
  cases q
  exact h
theorem e_Pn.bin0 (hN : e_Alk lay code) {F : Int → Int → Option Int} {x y : Int} (hc : code M p = (0, ei_bin F nx, a, b)) (h : ∀ z, F x y = some z → e_Pn fd lay code I N d M (nx, l, (0, z) :: r, w) Q) : e_Pn fd lay code I N d M (p, l, (0, y) :: (0, x) :: r, w) Q := by
  refine e_Pn.step hN hc (fun t' q => ?_)
  unfold ei_bin at q
  simp only at q
  split at q
  · rename_i z hz
    cases q
    exact h z hz
  · cases q
theorem e_Pn.add (hN : e_Alk lay code) {x y z : Int} (hc : code M p = (0, ei_bin eF_add nx, a, b)) (hz : x + y = z) (h1 : -2147483648 ≤ z ∧ z ≤ 2147483647) (h : e_Pn fd lay code I N d M (nx, l, (0, z) :: r, w) Q) : e_Pn fd lay code I N d M (p, l, (0, y) :: (0, x) :: r, w) Q := e_Pn.bin hN hc (by subst hz; show some (e32 (x + y)) = _; rw [e32_id h1.1 h1.2]) h
theorem e_Pn.sub' (hN : e_Alk lay code) {x y z : Int} (hc : code M p = (0, ei_bin eF_sub nx, a, b)) (hz : x - y = z) (h1 : -2147483648 ≤ z ∧ z ≤ 2147483647) (h : e_Pn fd lay code I N d M (nx, l, (0, z) :: r, w) Q) : e_Pn fd lay code I N d M (p, l, (0, y) :: (0, x) :: r, w) Q := e_Pn.bin hN hc (by subst hz; show some (e32 (x - y)) = _; rw [e32_id h1.1 h1.2]) h
theorem e_Pn.mul (hN : e_Alk lay code) {x y z : Int} (hc : code M p = (0, ei_bin eF_mul nx, a, b)) (hz : x * y = z) (h1 : -2147483648 ≤ z ∧ z ≤ 2147483647) (h : e_Pn fd lay code I N d M (nx, l, (0, z) :: r, w) Q) : e_Pn fd lay code I N d M (p, l, (0, y) :: (0, x) :: r, w) Q := e_Pn.bin hN hc (by subst hz; show some (e32 (x * y)) = _; rw [e32_id h1.1 h1.2]) h
theorem e_Pn.un (hN : e_Alk lay code) {F : Int → eV} {x : Int} {v : eV} (hc : code M p = (0, ei_un F nx, a, b)) (hz : F x = v) (h : e_Pn fd lay code I N d M (nx, l, v :: r, w) Q) : e_Pn fd lay code I N d M (p, l, (0, x) :: r, w) Q := by
  refine e_Pn.step hN hc (fun t' q => ?_)
  subst hz
  cases q
  exact h
theorem e_Pn.inc (hN : e_Alk lay code) {i : Nat} {n' x z : Int} (hc : code M p = (0, ei_inc i n' nx, a, b)) (hx : e_find l i = some (0, x)) (hz : x + n' = z) (h1 : -2147483648 ≤ z ∧ z ≤ 2147483647) (h : e_Pn fd lay code I N d M (nx, (i, (0, z)) :: l.filter (e_flt 0 i), r, w) Q) : e_Pn fd lay code I N d M (p, l, r, w) Q := by
  refine e_Pn.step hN hc (fun t' q => ?_)
  unfold ei_inc at q
  simp only at q
  rw [hx] at q
  simp only at q
  subst hz
  rw [e32_id h1.1 h1.2] at q
  cases q
  exact h
theorem e_Pn.binL (hN : e_Alk lay code) {F : Int → Int → Option eV} {x y : Int} {v : eV} (hc : code M p = (0, ei_binL F nx, a, b)) (hz : F x y = some v) (h : e_Pn fd lay code I N d M (nx, l, v :: r, w) Q) : e_Pn fd lay code I N d M (p, l, (4, y) :: (4, x) :: r, w) Q := by
  refine e_Pn.step hN hc (fun t' q => ?_)
  unfold ei_binL at q
  simp only at q
  rw [hz] at q
  cases q
  exact h
theorem e_Pn.rets {kk : Nat} {f : eS → Option eS} {st : List eV} (hc : code M p = (1, f, kk, b)) (h : ∀ r', e_retv kk st = some r' → Q r' w) : e_Pn fd lay code I N d M (p, l, st, w) Q := e_Pn.ret hc h
theorem e_Pn.ret0 {f : eS → Option eS} (hc : code M p = (1, f, 0, b)) (h : Q [] w) : e_Pn fd lay code I N d M (p, l, [], w) Q := e_Pn.ret hc (fun r' q => by cases q; exact h)
theorem e_Pn.ret1 {f : eS → Option eS} {z : Int} (hc : code M p = (1, f, 1, b)) (h : Q [(0, z)] w) : e_Pn fd lay code I N d M (p, l, [(0, z)], w) Q := e_Pn.ret hc (fun r' q => by cases q; exact h)
theorem e_Pn.ret4 {f : eS → Option eS} {z : Int} (hc : code M p = (1, f, 4, b)) (h : Q [(0, z)] w) : e_Pn fd lay code I N d M (p, l, [(0, z)], w) Q := e_Pn.ret hc (fun r' q => by
  replace q : (bif e_pk 1 ((0, z) : eV) then some [((0, z) : eV)] else none) = some r' := q
  cases hb : e_pk 1 ((0, z) : eV) with
  | false => rw [hb] at q; cases q
  | true => rw [hb] at q; cases q; exact h)
theorem e_Pn.callA {M' na : Nat} {f : eS → Option eS} {st : List eV} {Q' : List eV → eW → Prop} (hc : code M p = (2, f, M', na)) (h' : ∀ n d, e_Pn fd lay code I n d M' (0, e_ent 0 (st.take na).reverse, [], w) Q') (h : ∀ r w', Q' r w' → e_Pn fd lay code I N d M (p + 3, l, r ++ st.drop na, w') Q) : e_Pn fd lay code I N d M (p, l, st, w) Q := e_Pn.call hc h' h
theorem e_Pn.sw (hN : e_Alk lay code) {x : Int} {tg : Nat} {arms : List (Int × Int × Nat)} (hc : code M p = (0, ei_sw arms, a, b)) (ht : e_arm x arms = some tg) (h : e_Pn fd lay code I N d M (tg, l, r, w) Q) : e_Pn fd lay code I N d M (p, l, (0, x) :: r, w) Q := by
  refine e_Pn.step hN hc (fun t' q => ?_)
  unfold ei_sw at q
  simp only at q
  rw [ht] at q
  cases q
  exact h
end SPR
/-- locals in another order -/
def e_pick (l : eL) : List Nat → eL
  | [] => []
  | i :: ks => match e_find l i with
    | some v => (i, v) :: e_pick l ks
    | none => e_pick l ks
def e_ord (ks : List Nat) (l : eL) : eL := e_pick l ks ++ l.filter (fun q => !(ks.any (fun i => Nat.beq q.1 i)))
theorem e_pick_mem {l : eL} : ∀ {ks : List Nat} {q : Nat × eV}, q ∈ e_pick l ks → q ∈ l ∧ q.1 ∈ ks
  | [], _, h => by cases h
  | i :: ks, q, h => by
    unfold e_pick at h
    split at h
    · rename_i v hv
      rcases List.mem_cons.mp h with rfl | h
      · exact ⟨e_find_mem hv, List.mem_cons_self⟩
      · exact ⟨(e_pick_mem h).1, List.mem_cons_of_mem _ (e_pick_mem h).2⟩
    · exact ⟨(e_pick_mem h).1, List.mem_cons_of_mem _ (e_pick_mem h).2⟩
theorem e_pick_has {l : eL} (hn : (l.map Prod.fst).Nodup) : ∀ {ks : List Nat} {q : Nat × eV}, q ∈ l → q.1 ∈ ks → q ∈ e_pick l ks
  | [], _, _, h => by cases h
  | i :: ks, q, hq, h => by
    unfold e_pick
    rcases List.mem_cons.mp h with e | h
    · have hf : e_find l i = some q.2 := e_mem_find hn (by rw [← e]; exact hq)
      rw [hf]
      exact List.mem_cons.mpr (Or.inl (by rw [← e]))
    · split
      · exact List.mem_cons_of_mem _ (e_pick_has hn hq h)
      · exact e_pick_has hn hq h
theorem e_pick_nd {l : eL} : ∀ {ks : List Nat}, ks.Nodup → ((e_pick l ks).map Prod.fst).Nodup
  | [], _ => List.nodup_nil
  | i :: ks, h => by
    rw [List.nodup_cons] at h
    unfold e_pick
    split
    · rw [List.map_cons, List.nodup_cons]
      refine ⟨fun hm => ?_, e_pick_nd h.2⟩
      obtain ⟨q, hq, e⟩ := List.mem_map.mp hm
      exact h.1 (by rw [show i = q.1 from e.symm]; exact (e_pick_mem hq).2)
    · exact e_pick_nd h.2
theorem e_any_iff {ks : List Nat} {n : Nat} : (ks.any (fun i => Nat.beq n i)) = true ↔ n ∈ ks := by
  rw [List.any_eq_true]
  constructor
  · rintro ⟨i, hi, e⟩
    rw [Nat.eq_of_beq_eq_true e]
    exact hi
  · intro h
    exact ⟨n, h, Nat.beq_refl n⟩
theorem e_ord_sub {l : eL} (hn : (l.map Prod.fst).Nodup) {ks : List Nat} (hk : ks.Nodup) : e_sub l (e_ord ks l) := by
  have hd : ∀ q ∈ l.filter (fun q => !(ks.any (fun i => Nat.beq q.1 i))), q ∈ l ∧ q.1 ∉ ks := fun q hq => by
    obtain ⟨h1, h2⟩ := List.mem_filter.mp hq
    refine ⟨h1, fun h3 => ?_⟩
    rw [e_any_iff.mpr h3] at h2
    cases h2
  refine ⟨?_, fun q hq => ?_⟩
  · unfold e_ord
    rw [List.map_append, List.nodup_append]
    refine ⟨e_pick_nd hk, hn.sublist (List.filter_sublist.map _), fun a ha b hb e => ?_⟩
    obtain ⟨q, hq, rfl⟩ := List.mem_map.mp ha
    obtain ⟨q', hq', rfl⟩ := List.mem_map.mp hb
    exact (hd q' hq').2 (by rw [← e]; exact (e_pick_mem hq).2)
  · unfold e_ord
    rw [List.mem_append]
    by_cases h : q.1 ∈ ks
    · exact Or.inl (e_pick_has hn hq h)
    · refine Or.inr (List.mem_filter.mpr ⟨hq, ?_⟩)
      cases hb : ks.any (fun i => Nat.beq q.1 i) with
      | true => exact absurd (e_any_iff.mp hb) h
      | false => rfl
theorem e_Pn.ord {fd : Nat} {lay : List eY} {code : Nat → Nat → eE} {I : Nat → xM} (hN : e_Alk lay code) {n d M p : Nat} {l l' : eL} {st : List eV} {w : eW} {Q : List eV → eW → Prop} (ks : List Nat) (hk : e_ndB ks = true) (he : e_ord ks l = l') (h : e_Pn fd lay code I n d M (p, l', st, w) Q) : e_Pn fd lay code I n d M (p, l, st, w) Q := fun hn r w1 q => by
  subst he
  have hs := e_ord_sub hn (e_ndB_ok hk)
  obtain ⟨u, u1, u2, u3⟩ := e_sim hN n d M (p, l, st, w) r w1 (e_ord ks l) w q hs (e_rf.refl _)
  rw [u3 rfl] at u1
  exact h hs.1 r w1 u1
end
