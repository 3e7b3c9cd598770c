noncomputable section
/-! the law: the tapes are alike -/
def tpA (u : eW) : Prop := ∀ i, 0 ≤ i → i < u 1 0 → u 5 i = u 281 i
def lwP (u : eW) : Prop := lwR u ∧ tpA u
theorem L_st8 {B : Int → Prop} {u w1 v : eW} (ha : e_all u) (hf : e_Lf B u w1 v) {c k : Int} (hc : B c) (e : w1 c k = e_PB B u c k) : v c k = u c k := by
  rw [e_PB_in hc] at e
  exact (hf.val hc (by rw [e]; exact ha c k)).trans e
theorem L_vl8 {B : Int → Prop} {u w1 v : eW} (hf : e_Lf B u w1 v) {c k x : Int} (hc : B c) (hx : kn1 x) (e : w1 c k = x) : v c k = x := (hf.val hc (by rw [e]; exact hx)).trans e
theorem tpA.len {u w1 v w2 v2 : eW} {x : Int} (hf1 : e_Lf Bk u w1 v) (hf2 : e_Lf Bm v w2 v2) (hx : kn1 x) (e : w1 1 0 = x) : v2 1 0 = x := (hf2.2.2.1 1 0 (by unfold Bm; omega)).trans (L_vl8 hf1 (by unfold Bk; omega) hx e)
theorem tpA.same {u w1 v w2 v2 : eW} (h0 : lw0 u) (ht : tpA u) (hf1 : e_Lf Bk u w1 v) (t1 : kt5 (e_PB Bk u) w1) (hf2 : e_Lf Bm v w2 v2) (t2 : mt5 (e_PB Bm v) w2) (hl : 0 ≤ w1 1 0 ∧ w1 1 0 ≤ e_PB Bk u 1 0) : tpA v2 := by
  have b : e_PB Bk u 1 0 = u 1 0 := e_PB_in (by unfold Bk; omega)
  have c := (L_len h0).1
  have l := tpA.len hf1 hf2 (x := w1 1 0) (by unfold kn1; omega) rfl
  intro i i0 i1
  have a : v2 5 i = u 5 i := (hf2.2.2.1 5 i (by unfold Bm; omega)).trans (L_st8 h0.1 hf1 (by unfold Bk; omega) (t1 i))
  have m : v2 281 i = u 281 i := (L_st8 hf1.2.2.2.2.1 hf2 (by unfold Bm; omega) (t2 i)).trans (hf1.2.2.1 281 i (by unfold Bk; omega))
  rw [a, m]
  exact ht i i0 (by omega)
theorem tpA.feed {u w1 v w2 v2 : eW} {a b c e g : Int} {R1 R2 R3 R4 : Prop} (h0 : lw0 u) (ht : tpA u) (hf1 : e_Lf Bk u w1 v) (x1 : (3980 < u 1 0 ∧ R1 ∧ e_PB Bk u = w1) ∨ (u 1 0 ≤ 3980 ∧ R2 ∧ fdQ (e_PB Bk u 5) (w1 5) (u 1 0) a b c e g ∧ w1 1 0 = u 1 0 + 20)) (hf2 : e_Lf Bm v w2 v2) (x2 : (3980 < u 1 0 ∧ R3 ∧ e_PB Bm v = w2) ∨ (u 1 0 ≤ 3980 ∧ R4 ∧ fdQ (e_PB Bm v 281) (w2 281) (u 1 0) a b c e g ∧ w2 275 9 = u 1 0 + 20)) : tpA v2 := by
  have b0 : e_PB Bk u 1 0 = u 1 0 := e_PB_in (by unfold Bk; omega)
  have c0 := (L_len h0).1
  rcases x1 with ⟨c1, -, e1⟩ | ⟨c1, -, q1, l1⟩
  · rcases x2 with ⟨c2, -, e2⟩ | ⟨c2, -⟩
    · exact tpA.same h0 ht hf1 (fun i => by rw [← e1]) hf2 (fun i => by rw [← e2]) (by rw [← e1]; omega)
    · omega
  · rcases x2 with ⟨c2, -⟩ | ⟨c2, -, q2, l2⟩
    · omega
    · have l := tpA.len hf1 hf2 (x := u 1 0 + 20) (by unfold kn1; omega) l1
      have k1 := fdQ.kn q1 (fun i _ _ => by rw [e_PB_in (show Bk 5 by unfold Bk; omega)]; exact h0.1 5 i)
      have k2 := fdQ.kn q2 (fun i _ _ => by rw [e_PB_in (show Bm 281 by unfold Bm; omega)]; exact hf1.2.2.2.2.1 281 i)
      have eq := fdQ.eq q1 q2 (fun i i0 i1 => by
        rw [e_PB_in (show Bk 5 by unfold Bk; omega), e_PB_in (show Bm 281 by unfold Bm; omega), hf1.2.2.1 281 i (by unfold Bk; omega)]
        exact ht i i0 i1)
      intro i i0 i1
      rw [l] at i1
      have a1 : v2 5 i = w1 5 i := (hf2.2.2.1 5 i (by unfold Bm; omega)).trans (hf1.val (by unfold Bk; omega) (k1 i i0 i1))
      have a2 : v2 281 i = w2 281 i := hf2.val (by unfold Bm; omega) (k2 i i0 i1)
      rw [a1, a2]
      exact eq i i0 i1
theorem i0.lwP {w u : eW} (h : i0 w u) (ha : e_all u) : lwP u := ⟨h.lwR ha, fun i i0 i1 => by
  have z : u 1 0 = 0 := h.vl (j := 1) (k := 0) (by decide +kernel)
  omega⟩
end
