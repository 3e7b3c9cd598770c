noncomputable section
/-! a wire more makes no circle -/
theorem cnt_le {α : Type} (P Q : α → Bool) : ∀ l : List α, (∀ x ∈ l, P x = true → Q x = true) → (l.filter P).length ≤ (l.filter Q).length
  | [], _ => Nat.le_refl _
  | a :: r, h => by
    have ih := cnt_le P Q r (fun x hx => h x (List.mem_cons_of_mem _ hx))
    have ha := h a List.mem_cons_self
    cases hp : P a <;> cases hq : Q a <;> simp [List.filter_cons, hp, hq] <;> first | omega | simp [hp, hq] at ha
theorem cnt_lt {α : Type} (P Q : α → Bool) : ∀ l : List α, (∀ x ∈ l, P x = true → Q x = true) → (∃ x ∈ l, P x = false ∧ Q x = true) → (l.filter P).length < (l.filter Q).length
  | [], _, h => by obtain ⟨x, hx, -⟩ := h; cases hx
  | a :: r, h, hx => by
    have hr := fun x hx => h x (List.mem_cons_of_mem _ hx)
    have ha := h a List.mem_cons_self
    have hle := cnt_le P Q r hr
    cases hp : P a <;> cases hq : Q a
    · obtain ⟨x, k1, k2, k3⟩ := hx
      rcases List.mem_cons.mp k1 with rfl | k1
      · rw [hq] at k3; cases k3
      · have := cnt_lt P Q r hr ⟨x, k1, k2, k3⟩
        simp [List.filter_cons, hp, hq]; omega
    · simp [List.filter_cons, hp, hq]; omega
    · simp [hp, hq] at ha
    · obtain ⟨x, k1, k2, k3⟩ := hx
      rcases List.mem_cons.mp k1 with rfl | k1
      · rw [hp] at k2; cases k2
      · have := cnt_lt P Q r hr ⟨x, k1, k2, k3⟩
        simp [List.filter_cons, hp, hq]; omega
def rkOf (key : Int → Int) (p : Int) : Int := (((List.range 64).filter (fun q : Nat => decide (key (q : Int) < key p))).length : Int)
theorem mAc.ofKey {w : eW} (key : Int → Int) (hw : ∀ p, 0 ≤ p → p ≤ 63 → w 318 p ≤ 63) (h : ∀ p, 0 ≤ p → p ≤ 63 → 0 ≤ w 318 p → key (w 318 p) < key p) : mAc w := by
  refine ⟨rkOf key, fun p h0 h1 => ⟨⟨?_, ?_⟩, fun hq => ?_⟩⟩
  · unfold rkOf; omega
  · have : ((List.range 64).filter (fun q : Nat => decide (key (q : Int) < key p))).length < ((List.range 64).filter (fun _ : Nat => true)).length := by
      refine cnt_lt _ _ _ (fun _ _ _ => rfl) ⟨p.toNat, List.mem_range.mpr (by omega), ?_, rfl⟩
      rw [show ((p.toNat : Nat) : Int) = p by omega]
      exact decide_eq_false (by omega)
    have e : ((List.range 64).filter (fun _ : Nat => true)).length = 64 := by decide
    unfold rkOf
    omega
  · have hk := h p h0 h1 hq
    have hle := hw p h0 h1
    have : ((List.range 64).filter (fun q : Nat => decide (key (q : Int) < key (w 318 p)))).length < ((List.range 64).filter (fun q : Nat => decide (key (q : Int) < key p))).length := by
      refine cnt_lt _ _ _ (fun x _ hx => ?_) ⟨(w 318 p).toNat, List.mem_range.mpr (by omega), ?_, ?_⟩
      · have := of_decide_eq_true hx
        exact decide_eq_true (by omega)
      · rw [show (((w 318 p).toNat : Nat) : Int) = w 318 p by omega]; exact decide_eq_false (by omega)
      · rw [show (((w 318 p).toNat : Nat) : Int) = w 318 p by omega]; exact decide_eq_true hk
    unfold rkOf
    omega
def wHit (w : eW) (to : Int) : Nat → Int → Prop
  | 0, p => p = to
  | n + 1, p => 0 ≤ p ∧ wHit w to n (w 318 p)
theorem mAc.wire {w w' : eW} {a b : Int} (hA : mAc w) (hT : ∀ p, 0 ≤ p → p ≤ 63 → -1 ≤ w 318 p ∧ w 318 p ≤ 63) (ha : 0 ≤ a ∧ a ≤ 63) (hb : 0 ≤ b ∧ b ≤ 63) (hn : ¬ ∃ n, wHit w b n a) (hw : ∀ p, w' 318 p = if p = b then a else w 318 p) : mAc w' := by
  obtain ⟨rk, hrk⟩ := hA
  classical
  refine mAc.ofKey (fun p => if (∃ n, wHit w b n p) then rk p + 64 else rk p) (fun p h0 h1 => ?_) (fun p h0 h1 hq => ?_)
  · rw [hw]; by_cases e : p = b
    · rw [if_pos e]; exact ha.2
    · rw [if_neg e]; exact (hT p h0 h1).2
  · have hp := hrk p h0 h1
    rw [hw] at hq ⊢
    by_cases e : p = b
    · rw [if_pos e]
      have k1 : ∃ n, wHit w b n p := ⟨0, e⟩
      have k2 := hrk a ha.1 ha.2
      simp only [if_neg hn, if_pos k1]
      omega
    · rw [if_neg e] at hq ⊢
      have hlt := hp.2 hq
      by_cases k : ∃ n, wHit w b n p
      · have k2 : ∃ n, wHit w b n (w 318 p) := by
          obtain ⟨n, hn'⟩ := k
          cases n with
          | zero => exact absurd hn' e
          | succ n => exact ⟨n, hn'.2⟩
        simp only [if_pos k, if_pos k2]
        omega
      · have k2 : ¬ ∃ n, wHit w b n (w 318 p) := fun ⟨n, hn'⟩ => k ⟨n + 1, h0, hn'⟩
        simp only [if_neg k, if_neg k2]
        exact hlt
end
