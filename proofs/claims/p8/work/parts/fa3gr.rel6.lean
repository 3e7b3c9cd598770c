noncomputable section
/-! joints that were told: the same on both sides -/
def rK6 (c k : Int) : Prop := (c = 0 ∧ k = 11) ∨ ((c = 86 ∨ c = 103 ∨ c = 120 ∨ c = 137) ∧ k = 8) ∨ (((97 ≤ c ∧ c ≤ 102) ∨ (114 ≤ c ∧ c ≤ 119) ∨ (131 ≤ c ∧ c ≤ 136) ∨ (148 ≤ c ∧ c ≤ 153)) ∧ (k = 0 ∨ k = 2 ∨ k = 3 ∨ k = 4))
def rM6 (c k : Int) : Prop := (c = 275 ∧ k = 10) ∨ c = 286 ∨ c = 287 ∨ c = 289 ∨ c = 292 ∨ c = 293
def rks6 (w w' : eW) : Prop := ∀ c k, rK6 c k → w' c k = w c k
def rms6 (w w' : eW) : Prop := ∀ c k, rM6 c k → w' c k = w c k
theorem rK6_cf {c k : Int} (h : rK6 c k) : kCf c k := by
  unfold rK6 at h
  unfold kCf
  omega
theorem rM6_cf {c k : Int} (h : rM6 c k) : mCfg c k := by
  unfold rM6 at h
  unfold mCfg
  omega
theorem kcs.r6 {w w' : eW} (h : kcs w w') : rks6 w w' := fun c k y => h c k (rK6_cf y)
theorem mcs.r6 {w w' : eW} (h : mcs w w') : rms6 w w' := fun c k y => h c k (rM6_cf y)
theorem rK6_n {a : Int} (a0 : 0 ≤ a) (a1 : a ≤ 3) : rK6 (17 * a + 86) 8 := by
  unfold rK6
  obtain rfl | rfl | rfl | rfl : a = 0 ∨ a = 1 ∨ a = 2 ∨ a = 3 := by omega
  all_goals omega
theorem rK6_j {a j k : Int} (a0 : 0 ≤ a) (a1 : a ≤ 3) (j0 : 0 ≤ j) (j1 : j ≤ 5) (hk : k = 0 ∨ k = 2 ∨ k = 3 ∨ k = 4) : rK6 (17 * a + j + 97) k := by
  unfold rK6
  obtain rfl | rfl | rfl | rfl : a = 0 ∨ a = 1 ∨ a = 2 ∨ a = 3 := by omega
  all_goals omega
def lw6 (u : eW) : Prop := (∀ a, 0 ≤ a → a ≤ 3 → a < u 0 11 → u (17 * a + 86) 8 = u 286 a ∧ ∀ j, 0 ≤ j → j ≤ 5 → j < u 286 a → u (17 * a + j + 97) 3 = u 292 (6 * a + j) ∧ u (17 * a + j + 97) 2 = u 289 (6 * a + j) ∧ u (17 * a + j + 97) 4 = u 293 (6 * a + j) ∧ u (17 * a + j + 97) 0 = 1 - u 287 (6 * a + j)) ∧ ∀ a, u 0 11 ≤ a → a ≤ 3 → u 286 a = 0
theorem lw6.keep {u v : eW} (h : lw6 u) (hK : rks6 u v) (hM : rms6 u v) : lw6 v := by
  have e1 : v 0 11 = u 0 11 := hK 0 11 (by unfold rK6; omega)
  have e2 : ∀ a, v 286 a = u 286 a := fun a => hM 286 a (by unfold rM6; omega)
  refine ⟨fun a a0 a1 a2 => ?_, fun a a0 a1 => ?_⟩
  · obtain ⟨q1, q2⟩ := h.1 a a0 a1 (by omega)
    refine ⟨by rw [hK _ _ (rK6_n a0 a1), e2]; exact q1, fun j j0 j1 j2 => ?_⟩
    rw [e2] at j2
    rw [hK _ 3 (rK6_j a0 a1 j0 j1 (by decide)), hK _ 2 (rK6_j a0 a1 j0 j1 (by decide)), hK _ 4 (rK6_j a0 a1 j0 j1 (by decide)), hK _ 0 (rK6_j a0 a1 j0 j1 (by decide)), hM 292 (6 * a + j) (by unfold rM6; omega), hM 289 (6 * a + j) (by unfold rM6; omega), hM 293 (6 * a + j) (by unfold rM6; omega), hM 287 (6 * a + j) (by unfold rM6; omega)]
    exact q2 j j0 j1 j2
  · rw [e2]
    exact h.2 a (by omega) a1
/-- what both calls leave on the machine -/
theorem L6_st {B : Int → Prop} {u w1 v : eW} (ha : e_all u) (hf : e_Lf B u w1 v) {c k : Int} (hc : B c) (e : w1 c k = e_PB B u c k) : v c k = u c k := by
  rw [e_PB_in hc] at e
  exact (hf.val hc (by rw [e]; exact ha c k)).trans e
theorem L6_vl {B : Int → Prop} {u w1 v : eW} (hf : e_Lf B u w1 v) {c k x : Int} (hc : B c) (hx : kn1 x) (e : w1 c k = x) : v c k = x := (hf.val hc (by rw [e]; exact hx)).trans e
theorem P_ks {u w1 v w2 v2 : eW} (h0 : lw0 u) (hf1 : e_Lf Bk u w1 v) (hf2 : e_Lf Bm v w2 v2) {c k : Int} (hc : 0 ≤ c ∧ c ≤ 274) (e : w1 c k = e_PB Bk u c k) : v2 c k = u c k := (hf2.2.2.1 c k (by unfold Bm; omega)).trans (L6_st h0.1 hf1 hc e)
theorem P_kv {u w1 v w2 v2 : eW} (hf1 : e_Lf Bk u w1 v) (hf2 : e_Lf Bm v w2 v2) {c k x : Int} (hc : 0 ≤ c ∧ c ≤ 274) (hx : kn1 x) (e : w1 c k = x) : v2 c k = x := (hf2.2.2.1 c k (by unfold Bm; omega)).trans (L6_vl hf1 hc hx e)
theorem P_ms {u w1 v w2 v2 : eW} (hf1 : e_Lf Bk u w1 v) (hf2 : e_Lf Bm v w2 v2) {c k : Int} (hc : 275 ≤ c ∧ c ≤ 356) (e : w2 c k = e_PB Bm v c k) : v2 c k = u c k := (L6_st hf1.2.2.2.2.1 hf2 hc e).trans (hf1.2.2.1 c k (by unfold Bk; omega))
theorem P_mv {v w2 v2 : eW} (hf2 : e_Lf Bm v w2 v2) {c k x : Int} (hc : 275 ≤ c ∧ c ≤ 356) (hx : kn1 x) (e : w2 c k = x) : v2 c k = x := L6_vl hf2 hc hx e
theorem P_kb {u : eW} {c k : Int} (hc : 0 ≤ c ∧ c ≤ 274) : e_PB Bk u c k = u c k := e_PB_in hc
theorem P_mb {u w1 v : eW} (hf1 : e_Lf Bk u w1 v) {c k : Int} (hc : 275 ≤ c ∧ c ≤ 356) : e_PB Bm v c k = u c k := (e_PB_in hc).trans (hf1.2.2.1 c k (by unfold Bk; omega))
theorem rK6_B {c k : Int} (h : rK6 c k) : 0 ≤ c ∧ c ≤ 274 := by
  unfold rK6 at h
  omega
theorem rM6_B {c k : Int} (h : rM6 c k) : 275 ≤ c ∧ c ≤ 356 := by
  unfold rM6 at h
  omega
theorem lw6_same {u w1 v w2 v2 : eW} (h0 : lw0 u) (h6 : lw6 u) (hf1 : e_Lf Bk u w1 v) (e1 : rks6 (e_PB Bk u) w1) (hf2 : e_Lf Bm v w2 v2) (e2 : rms6 (e_PB Bm v) w2) : lw6 v2 :=
  h6.keep (fun c k y => P_ks h0 hf1 hf2 (rK6_B y) (e1 c k y)) (fun c k y => P_ms hf1 hf2 (rM6_B y) (e2 c k y))
theorem lw6.bd {u : eW} (h0 : lw0 u) (h6 : lw6 u) : ∀ a, 0 ≤ a → a < e_PB Bk u 0 11 → jBd (e_PB Bk u) a := by
  intro a a0 a1 j j0 j1
  have hn := (L_len h0).2.2
  have b11 : e_PB Bk u 0 11 = u 0 11 := P_kb (by omega)
  have bn : e_PB Bk u (17 * a + 86) 8 = u (17 * a + 86) 8 := P_kb (by omega)
  obtain ⟨q1, q2⟩ := h6.1 a a0 (by omega) (by omega)
  have hM := h0.2.2.2.2.2.1
  have r0 := e_Has.get hM (c := 286) (k := a) (lo := 0) (hi := 6) rfl (by decide)
  have r1 := e_Has.get hM (c := 292) (k := 6 * a + j) (lo := 0) (hi := 8000) rfl (by decide)
  have r2 := e_Has.get hM (c := 289) (k := 6 * a + j) (lo := 0) (hi := 100000) rfl (by decide)
  have s0 : e_PB Bm u 286 a = u 286 a := e_PB_in (by unfold Bm; omega)
  have s1 : e_PB Bm u 292 (6 * a + j) = u 292 (6 * a + j) := e_PB_in (by unfold Bm; omega)
  have s2 : e_PB Bm u 289 (6 * a + j) = u 289 (6 * a + j) := e_PB_in (by unfold Bm; omega)
  obtain ⟨t1, t2, t3, t4⟩ := q2 j j0 (by omega) (by omega)
  have b3 : e_PB Bk u (17 * a + j + 97) 3 = u (17 * a + j + 97) 3 := P_kb (by omega)
  have b2 : e_PB Bk u (17 * a + j + 97) 2 = u (17 * a + j + 97) 2 := P_kb (by omega)
  rw [b3, b2]
  omega
/-- two calls that refuse alike -/
theorem ex_pair {C1 C2 E1 E2 X1 X2 : Prop} {o o' n n' z1 z2 : Int} (hc : C1 ↔ C2) (ho : o = o') (hn : C1 → n = n') (hr : C1 → n ≤ 6) (x1 : (E1 ∧ ((¬ C1 ∧ z1 = -1) ∨ (C1 ∧ ((o ≠ 0 ∧ z1 = -2) ∨ (o = 0 ∧ n = 6 ∧ z1 = -3))))) ∨ ((C1 ∧ o = 0 ∧ n ≤ 5) ∧ z1 = n ∧ X1)) (x2 : (E2 ∧ ((¬ C2 ∧ z2 = -1) ∨ (C2 ∧ ((o' ≠ 0 ∧ z2 = -2) ∨ (o' = 0 ∧ n' = 6 ∧ z2 = -3))))) ∨ ((C2 ∧ o' = 0 ∧ ¬ (n' = 6)) ∧ z2 = n' ∧ X2)) : z1 = z2 ∧ ((E1 ∧ E2) ∨ ((C1 ∧ o = 0 ∧ n ≤ 5) ∧ X1 ∧ X2)) := by
  rcases x1 with ⟨e1, x1⟩ | ⟨⟨c1, o1, n1⟩, y1, f1⟩
  · rcases x2 with ⟨e2, x2⟩ | ⟨⟨c2, o2, n2⟩, y2, f2⟩
    · refine ⟨?_, Or.inl ⟨e1, e2⟩⟩
      rcases x1 with ⟨c1, a1⟩ | ⟨c1, a1⟩
      · rcases x2 with ⟨c2, a2⟩ | ⟨c2, a2⟩
        · omega
        · exact absurd (hc.2 c2) c1
      · rcases x2 with ⟨c2, a2⟩ | ⟨c2, a2⟩
        · exact absurd (hc.1 c1) c2
        · have q := hn c1
          omega
    · exfalso
      rcases x1 with ⟨c1, a1⟩ | ⟨c1, a1⟩
      · exact c1 (hc.2 c2)
      · have q := hn c1
        omega
  · rcases x2 with ⟨e2, x2⟩ | ⟨⟨c2, o2, n2⟩, y2, f2⟩
    · exfalso
      rcases x2 with ⟨c2, a2⟩ | ⟨c2, a2⟩
      · exact c2 (hc.1 c1)
      · have q := hn c1
        omega
    · have q := hn c1
      exact ⟨by omega, Or.inr ⟨⟨c1, o1, n1⟩, f1, f2⟩⟩
theorem ex_pair0 {C1 C2 E1 E2 X1 X2 : Prop} {o o' A1 A2 z1 z2 : Int} (hc : C1 ↔ C2) (ho : o = o') (hA : C1 → A1 = A2) (x1 : (E1 ∧ ((¬ C1 ∧ z1 = -1) ∨ (C1 ∧ o ≠ 0 ∧ z1 = -2))) ∨ ((C1 ∧ o = 0) ∧ z1 = A1 ∧ X1)) (x2 : (E2 ∧ ((¬ C2 ∧ z2 = -1) ∨ (C2 ∧ o' ≠ 0 ∧ z2 = -2))) ∨ ((C2 ∧ o' = 0) ∧ z2 = A2 ∧ X2)) : z1 = z2 ∧ ((E1 ∧ E2) ∨ (C1 ∧ X1 ∧ X2)) := by
  rcases x1 with ⟨e1, x1⟩ | ⟨⟨c1, o1⟩, y1, f1⟩
  · rcases x2 with ⟨e2, x2⟩ | ⟨⟨c2, o2⟩, y2, f2⟩
    · refine ⟨?_, Or.inl ⟨e1, e2⟩⟩
      rcases x1 with ⟨c1, a1⟩ | ⟨c1, a1⟩
      · rcases x2 with ⟨c2, a2⟩ | ⟨c2, a2⟩
        · omega
        · exact absurd (hc.2 c2) c1
      · rcases x2 with ⟨c2, a2⟩ | ⟨c2, a2⟩
        · exact absurd (hc.1 c1) c2
        · omega
    · exfalso
      rcases x1 with ⟨c1, a1⟩ | ⟨c1, a1⟩
      · exact c1 (hc.2 c2)
      · omega
  · rcases x2 with ⟨e2, x2⟩ | ⟨⟨c2, o2⟩, y2, f2⟩
    · exfalso
      rcases x2 with ⟨c2, a2⟩ | ⟨c2, a2⟩
      · exact c2 (hc.1 c1)
      · omega
    · have q := hA c1
      exact ⟨by omega, Or.inr ⟨c1, f1, f2⟩⟩
theorem lw6_arm {u w1 v w2 v2 : eW} {p1 p2 p3 p4 : Int} (h0 : lw0 u) (h3 : lw3 u) (k3 : lw3 v2) (h6 : lw6 u) (hf1 : e_Lf Bk u w1 v) (x1 : (w1 = e_PB Bk u) ∨ (e_PB Bk u 0 11 ≤ 3 ∧ e_fr (kAa (e_PB Bk u 0 11) (e_PB Bk u (17 * e_PB Bk u 0 11 + 86) 7)) (e_PB Bk u) w1 ∧ w1 0 11 = e_PB Bk u 0 11 + 1 ∧ w1 (17 * e_PB Bk u 0 11 + 86) 8 = 0)) (hf2 : e_Lf Bm v w2 v2) (x2 : (e_PB Bm v = w2) ∨ (w2 = e_up (e_up (e_up (e_up (e_up (e_PB Bm v) 282 (e_PB Bm v 275 10) (p1)) 283 (e_PB Bm v 275 10) (p2)) 284 (e_PB Bm v 275 10) (p3)) 285 (e_PB Bm v 275 10) (p4)) 275 (10) (e_PB Bm v 275 10 + 1))) : lw6 v2 := by
  have hn := (L_len h0).2.2
  have b11 : e_PB Bk u 0 11 = u 0 11 := P_kb (by omega)
  have d10 : e_PB Bm v 275 10 = u 275 10 := P_mb hf1 (by omega)
  obtain ⟨y9, y3, y10⟩ := h3
  obtain ⟨t9, t3, t10⟩ := k3
  rcases x1 with e1 | ⟨n3, f, e11, e8⟩
  · have k11 : v2 0 11 = u 0 11 := P_ks h0 hf1 hf2 (by omega) (by rw [e1])
    rcases x2 with e2 | e2
    · exact lw6_same h0 h6 hf1 (fun c k _ => by rw [e1]) hf2 (fun c k _ => by rw [← e2])
    · exfalso
      have m10 : v2 275 10 = u 275 10 + 1 := P_mv hf2 (by omega) (by unfold kn1; omega) (by rw [e2, e_up_eq, d10])
      omega
  · have k11 : v2 0 11 = u 0 11 + 1 := P_kv hf1 hf2 (by omega) (by unfold kn1; omega) (by rw [e11, b11])
    rcases x2 with e2 | e2
    · exfalso
      have m10 : v2 275 10 = u 275 10 := P_ms hf1 hf2 (by omega) (by rw [← e2])
      omega
    · rw [b11] at f e8 n3
      have hcd : isCd (e_PB Bk u (17 * u 0 11 + 86) 7) := h0.2.2.2.2.1.hC (u 0 11) hn.1 n3
      unfold isCd at hcd
      generalize e_PB Bk u (17 * u 0 11 + 86) 7 = cd at hcd f
      have K1 : ∀ a, 0 ≤ a → a ≤ 3 → a ≠ u 0 11 → v2 (17 * a + 86) 8 = u (17 * a + 86) 8 := fun a a0 a1 na => P_ks h0 hf1 hf2 (by omega) (f _ _ (fun g => by
        unfold kAa kMk at g
        rcases hcd with rfl | rfl | rfl | rfl | rfl <;> omega))
      have K2 : v2 (17 * u 0 11 + 86) 8 = 0 := P_kv hf1 hf2 (by omega) (by unfold kn1; omega) e8
      have K3 : ∀ a j k, 0 ≤ a → a ≤ 3 → 0 ≤ j → j ≤ 5 → (k = 0 ∨ k = 2 ∨ k = 3 ∨ k = 4) → v2 (17 * a + j + 97) k = u (17 * a + j + 97) k := fun a j k a0 a1 j0 j1 hk => P_ks h0 hf1 hf2 (by omega) (f _ _ (fun g => by
        unfold kAa kMk at g
        rcases hcd with rfl | rfl | rfl | rfl | rfl <;> omega))
      have M1 : ∀ c k, (c = 286 ∨ c = 287 ∨ c = 289 ∨ c = 292 ∨ c = 293) → v2 c k = u c k := fun c k q => P_ms hf1 hf2 (by omega) (by rw [e2, e_up_ne _ _ (by omega), e_up_ne _ _ (by omega), e_up_ne _ _ (by omega), e_up_ne _ _ (by omega), e_up_ne _ _ (by omega)])
      refine ⟨fun a a0 a1 a2 => ?_, fun a a0 a1 => ?_⟩
      · have m := M1 286 a (by decide)
        by_cases ea : a = u 0 11
        · have z := h6.2 a (by omega) a1
          rw [← ea] at K2
          exact ⟨by omega, fun j j0 j1 j2 => by exfalso; omega⟩
        · obtain ⟨q1, q2⟩ := h6.1 a a0 a1 (by omega)
          refine ⟨by rw [K1 a a0 a1 ea, m]; exact q1, fun j j0 j1 j2 => ?_⟩
          have q := q2 j j0 j1 (by omega)
          rw [K3 a j 3 a0 a1 j0 j1 (by decide), K3 a j 2 a0 a1 j0 j1 (by decide), K3 a j 4 a0 a1 j0 j1 (by decide), K3 a j 0 a0 a1 j0 j1 (by decide), M1 292 (6 * a + j) (by decide), M1 289 (6 * a + j) (by decide), M1 293 (6 * a + j) (by decide), M1 287 (6 * a + j) (by decide)]
          exact q
      · rw [M1 286 a (by decide)]
        exact h6.2 a (by omega) a1
theorem js_eq {u s t : eW} {a : Int} (h6 : lw6 u) (a0 : 0 ≤ a) (a1 : a ≤ 3) (a2 : a < u 0 11) (hs : ∀ j k, 0 ≤ j → j ≤ 5 → s (17 * a + j + 97) k = u (17 * a + j + 97) k) (ht : ∀ c k, 286 ≤ c → c ≤ 293 → t c k = u c k) (hr : ∀ k, 0 ≤ u 287 k ∧ u 287 k ≤ 1) : ∀ m : Nat, (m : Int) ≤ u 286 a → (m : Int) ≤ 6 → jsK s a m = jsM t a m
  | 0, _, _ => rfl
  | m + 1, hm, h7 => by
    have ih := js_eq h6 a0 a1 a2 hs ht hr m (by omega) (by omega)
    obtain ⟨q1, q2, q3, q4⟩ := (h6.1 a a0 a1 a2).2 (m : Int) (by omega) (by omega) (by omega)
    have r := hr (6 * a + (m : Int))
    show jsK s a m + (s (17 * a + (m : Int) + 97) 3 + (if s (17 * a + (m : Int) + 97) 0 = 1 then s (17 * a + (m : Int) + 97) 2 else 0)) = jsM t a m + (t 292 (6 * a + (m : Int)) + (if t 287 (6 * a + (m : Int)) = 1 then 0 else t 289 (6 * a + (m : Int))))
    rw [hs (m : Int) 3 (by omega) (by omega), hs (m : Int) 0 (by omega) (by omega), hs (m : Int) 2 (by omega) (by omega), ht 292 _ (by decide) (by decide), ht 287 _ (by decide) (by decide), ht 289 _ (by decide) (by decide), ih, q1, q2, q4]
    by_cases e : u 287 (6 * a + (m : Int)) = 1
    · have e' : ¬ (1 - u 287 (6 * a + (m : Int)) = 1) := by omega
      rw [if_pos e, if_neg e']
    · have e' : 1 - u 287 (6 * a + (m : Int)) = 1 := by omega
      rw [if_neg e, if_pos e']
theorem lw6_joint {u w1 v w2 v2 : eW} {z1 z2 p1 p2 p3 p4 p5 : Int} (h0 : lw0 u) (h3 : lw3 u) (h6 : lw6 u) (hf1 : e_Lf Bk u w1 v) (x1 : (((e_PB Bk u) = w1 ∧ ((¬ ((0 ≤ p1 ∧ p1 < (e_PB Bk u) 0 11) ∧ (0 ≤ p2 ∧ p2 ≤ 1) ∧ ((p2 = 0 ∧ (-100000 ≤ p3 ∧ p3 ≤ 0) ∧ (0 ≤ p4 ∧ p4 ≤ 100000)) ∨ (p2 = 1 ∧ (-8000 ≤ p3 ∧ p3 ≤ 0) ∧ (0 ≤ p4 ∧ p4 ≤ 8000))) ∧ (0 ≤ p5 ∧ p5 ≤ 8000) ∧ ¬ (p2 = 1 ∧ p5 + p3 < 0) ∧ p5 + (if p2 = 1 then p4 else 0) + jsK (e_PB Bk u) p1 ((e_PB Bk u) (17 * p1 + 86) 8).toNat ≤ 8000) ∧ z1 = -1) ∨ (((0 ≤ p1 ∧ p1 < (e_PB Bk u) 0 11) ∧ (0 ≤ p2 ∧ p2 ≤ 1) ∧ ((p2 = 0 ∧ (-100000 ≤ p3 ∧ p3 ≤ 0) ∧ (0 ≤ p4 ∧ p4 ≤ 100000)) ∨ (p2 = 1 ∧ (-8000 ≤ p3 ∧ p3 ≤ 0) ∧ (0 ≤ p4 ∧ p4 ≤ 8000))) ∧ (0 ≤ p5 ∧ p5 ≤ 8000) ∧ ¬ (p2 = 1 ∧ p5 + p3 < 0) ∧ p5 + (if p2 = 1 then p4 else 0) + jsK (e_PB Bk u) p1 ((e_PB Bk u) (17 * p1 + 86) 8).toNat ≤ 8000) ∧ (((e_PB Bk u) 0 13 ≠ 0 ∧ z1 = -2) ∨ ((e_PB Bk u) 0 13 = 0 ∧ (e_PB Bk u) (17 * p1 + 86) 8 = 6 ∧ z1 = -3))))) ∨ ((((0 ≤ p1 ∧ p1 < (e_PB Bk u) 0 11) ∧ (0 ≤ p2 ∧ p2 ≤ 1) ∧ ((p2 = 0 ∧ (-100000 ≤ p3 ∧ p3 ≤ 0) ∧ (0 ≤ p4 ∧ p4 ≤ 100000)) ∨ (p2 = 1 ∧ (-8000 ≤ p3 ∧ p3 ≤ 0) ∧ (0 ≤ p4 ∧ p4 ≤ 8000))) ∧ (0 ≤ p5 ∧ p5 ≤ 8000) ∧ ¬ (p2 = 1 ∧ p5 + p3 < 0) ∧ p5 + (if p2 = 1 then p4 else 0) + jsK (e_PB Bk u) p1 ((e_PB Bk u) (17 * p1 + 86) 8).toNat ≤ 8000) ∧ (e_PB Bk u) 0 13 = 0 ∧ (e_PB Bk u) (17 * p1 + 86) 8 ≤ 5) ∧ z1 = (e_PB Bk u) (17 * p1 + 86) 8 ∧ e_fr (kAj p1) (e_PB Bk u) w1 ∧ (w1 (17 * p1 + (e_PB Bk u) (17 * p1 + 86) 8 + 97) 0 = p2 ∧ w1 (17 * p1 + (e_PB Bk u) (17 * p1 + 86) 8 + 97) 1 = p3 ∧ w1 (17 * p1 + (e_PB Bk u) (17 * p1 + 86) 8 + 97) 2 = p4 ∧ w1 (17 * p1 + (e_PB Bk u) (17 * p1 + 86) 8 + 97) 3 = p5 ∧ w1 (17 * p1 + (e_PB Bk u) (17 * p1 + 86) 8 + 97) 4 = 0 ∧ w1 (17 * p1 + (e_PB Bk u) (17 * p1 + 86) 8 + 97) 5 = 100 ∧ w1 (17 * p1 + (e_PB Bk u) (17 * p1 + 86) 8 + 97) 6 = 10) ∧ w1 (17 * p1 + 86) 8 = (e_PB Bk u) (17 * p1 + 86) 8 + 1 ∧ (∀ j k, 0 ≤ j → j ≤ 5 → j ≠ (e_PB Bk u) (17 * p1 + 86) 8 → w1 (17 * p1 + j + 97) k = (e_PB Bk u) (17 * p1 + j + 97) k)))) (hf2 : e_Lf Bm v w2 v2) (x2 : (((e_PB Bm v) = w2 ∧ ((¬ ((0 ≤ p1 ∧ p1 < (e_PB Bm v) 275 10) ∧ (0 ≤ p2 ∧ p2 ≤ 1) ∧ ((p2 = 0 ∧ (-100000 ≤ p3 ∧ p3 ≤ 0) ∧ (0 ≤ p4 ∧ p4 ≤ 100000)) ∨ (p2 = 1 ∧ (-8000 ≤ p3 ∧ p3 ≤ 0) ∧ (0 ≤ p4 ∧ p4 ≤ 8000))) ∧ (0 ≤ p5 ∧ p5 ≤ 8000) ∧ ¬ (p2 = 1 ∧ p5 + p3 < 0) ∧ p5 + (if p2 = 1 then p4 else 0) + jsM (e_PB Bm v) p1 ((e_PB Bm v) 286 p1).toNat ≤ 8000) ∧ z2 = -1) ∨ (((0 ≤ p1 ∧ p1 < (e_PB Bm v) 275 10) ∧ (0 ≤ p2 ∧ p2 ≤ 1) ∧ ((p2 = 0 ∧ (-100000 ≤ p3 ∧ p3 ≤ 0) ∧ (0 ≤ p4 ∧ p4 ≤ 100000)) ∨ (p2 = 1 ∧ (-8000 ≤ p3 ∧ p3 ≤ 0) ∧ (0 ≤ p4 ∧ p4 ≤ 8000))) ∧ (0 ≤ p5 ∧ p5 ≤ 8000) ∧ ¬ (p2 = 1 ∧ p5 + p3 < 0) ∧ p5 + (if p2 = 1 then p4 else 0) + jsM (e_PB Bm v) p1 ((e_PB Bm v) 286 p1).toNat ≤ 8000) ∧ (((e_PB Bm v) 275 3 ≠ 0 ∧ z2 = -2) ∨ ((e_PB Bm v) 275 3 = 0 ∧ (e_PB Bm v) 286 p1 = 6 ∧ z2 = -3))))) ∨ ((((0 ≤ p1 ∧ p1 < (e_PB Bm v) 275 10) ∧ (0 ≤ p2 ∧ p2 ≤ 1) ∧ ((p2 = 0 ∧ (-100000 ≤ p3 ∧ p3 ≤ 0) ∧ (0 ≤ p4 ∧ p4 ≤ 100000)) ∨ (p2 = 1 ∧ (-8000 ≤ p3 ∧ p3 ≤ 0) ∧ (0 ≤ p4 ∧ p4 ≤ 8000))) ∧ (0 ≤ p5 ∧ p5 ≤ 8000) ∧ ¬ (p2 = 1 ∧ p5 + p3 < 0) ∧ p5 + (if p2 = 1 then p4 else 0) + jsM (e_PB Bm v) p1 ((e_PB Bm v) 286 p1).toNat ≤ 8000) ∧ (e_PB Bm v) 275 3 = 0 ∧ ¬ ((e_PB Bm v) 286 p1 = 6)) ∧ z2 = (e_PB Bm v) 286 p1 ∧ w2 = e_up (e_up (e_up (e_up (e_up (e_up (e_up (e_up (e_PB Bm v) 287 (6 * p1 + (e_PB Bm v) 286 p1) (-p2 + 1)) 288 (6 * p1 + (e_PB Bm v) 286 p1) (p3)) 289 (6 * p1 + (e_PB Bm v) 286 p1) (p4)) 290 (6 * p1 + (e_PB Bm v) 286 p1) (100)) 291 (6 * p1 + (e_PB Bm v) 286 p1) (10)) 292 (6 * p1 + (e_PB Bm v) 286 p1) (p5)) 293 (6 * p1 + (e_PB Bm v) 286 p1) (0)) 286 (p1) ((e_PB Bm v) 286 p1 + 1)))) : lw6 v2 ∧ z1 = z2 := by
  have hn := (L_len h0).2.2
  have b11 : e_PB Bk u 0 11 = u 0 11 := P_kb (by omega)
  have b13 : e_PB Bk u 0 13 = u 0 13 := P_kb (by omega)
  have d3 : e_PB Bm v 275 3 = u 275 3 := P_mb hf1 (by omega)
  have d10 : e_PB Bm v 275 10 = u 275 10 := P_mb hf1 (by omega)
  have dn : e_PB Bm v 286 p1 = u 286 p1 := P_mb hf1 (by omega)
  have bn : 0 ≤ p1 → p1 < u 0 11 → e_PB Bk u (17 * p1 + 86) 8 = u 286 p1 := fun a0 a1 => (P_kb (by omega)).trans (h6.1 p1 a0 (by omega) a1).1
  obtain ⟨y9, y3, y10⟩ := h3
  have hM := h0.2.2.2.2.2.1
  have rn : 0 ≤ u 286 p1 ∧ u 286 p1 ≤ 6 := by
    have r := e_Has.get hM (c := 286) (k := p1) (lo := 0) (hi := 6) rfl (by decide)
    rw [show e_PB Bm u 286 p1 = u 286 p1 from e_PB_in (by unfold Bm; omega)] at r
    exact r
  have hr : ∀ k, 0 ≤ u 287 k ∧ u 287 k ≤ 1 := fun k => by
    have r := e_Has.get hM (c := 287) (k := k) (lo := 0) (hi := 1) rfl (by decide)
    rw [show e_PB Bm u 287 k = u 287 k from e_PB_in (by unfold Bm; omega)] at r
    exact r
  have hJ : 0 ≤ p1 → p1 < u 0 11 → jsK (e_PB Bk u) p1 (e_PB Bk u (17 * p1 + 86) 8).toNat = jsM (e_PB Bm v) p1 (e_PB Bm v 286 p1).toNat := fun a0 a1 => by
    rw [bn a0 a1, dn]
    exact js_eq h6 a0 (by omega) a1 (fun j k j0 j1 => P_kb (by omega)) (fun c k c0 c1 => P_mb hf1 (by omega)) hr _ (by omega) (by omega)
  have hc : ((0 ≤ p1 ∧ p1 < (e_PB Bk u) 0 11) ∧ (0 ≤ p2 ∧ p2 ≤ 1) ∧ ((p2 = 0 ∧ (-100000 ≤ p3 ∧ p3 ≤ 0) ∧ (0 ≤ p4 ∧ p4 ≤ 100000)) ∨ (p2 = 1 ∧ (-8000 ≤ p3 ∧ p3 ≤ 0) ∧ (0 ≤ p4 ∧ p4 ≤ 8000))) ∧ (0 ≤ p5 ∧ p5 ≤ 8000) ∧ ¬ (p2 = 1 ∧ p5 + p3 < 0) ∧ p5 + (if p2 = 1 then p4 else 0) + jsK (e_PB Bk u) p1 ((e_PB Bk u) (17 * p1 + 86) 8).toNat ≤ 8000) ↔ ((0 ≤ p1 ∧ p1 < (e_PB Bm v) 275 10) ∧ (0 ≤ p2 ∧ p2 ≤ 1) ∧ ((p2 = 0 ∧ (-100000 ≤ p3 ∧ p3 ≤ 0) ∧ (0 ≤ p4 ∧ p4 ≤ 100000)) ∨ (p2 = 1 ∧ (-8000 ≤ p3 ∧ p3 ≤ 0) ∧ (0 ≤ p4 ∧ p4 ≤ 8000))) ∧ (0 ≤ p5 ∧ p5 ≤ 8000) ∧ ¬ (p2 = 1 ∧ p5 + p3 < 0) ∧ p5 + (if p2 = 1 then p4 else 0) + jsM (e_PB Bm v) p1 ((e_PB Bm v) 286 p1).toNat ≤ 8000) := by
    constructor
    · rintro ⟨q1, q2, q3, q4, q5, q6⟩
      exact ⟨by omega, q2, q3, q4, q5, by rw [← hJ q1.1 (by omega)]; exact q6⟩
    · rintro ⟨q1, q2, q3, q4, q5, q6⟩
      exact ⟨by omega, q2, q3, q4, q5, by rw [hJ q1.1 (by omega)]; exact q6⟩
  obtain ⟨ez, hx⟩ := ex_pair hc (o := e_PB Bk u 0 13) (o' := e_PB Bm v 275 3) (n := e_PB Bk u (17 * p1 + 86) 8) (n' := e_PB Bm v 286 p1) (by omega) (fun q => by have e := bn q.1.1 (by have e := q.1.2; omega); omega) (fun q => by have e := bn q.1.1 (by have e := q.1.2; omega); omega) x1 x2
  refine ⟨?_, ez⟩
  rcases hx with ⟨e1, e2⟩ | ⟨⟨c1, o1, n1⟩, ⟨f, ⟨F0, F1, F2, F3, F4, -, -⟩, X8, Xo⟩, e2⟩
  · exact lw6_same h0 h6 hf1 (fun c k _ => by rw [← e1]) hf2 (fun c k _ => by rw [← e2])
  · obtain ⟨⟨a0, a1⟩, ck, ckd, cl, cn, -⟩ := c1
    have a2 : p1 < u 0 11 := by omega
    obtain ⟨q1, q2⟩ := h6.1 p1 a0 (by omega) a2
    rw [bn a0 a2] at F0 F2 F3 F4 X8 Xo n1
    rw [dn] at e2
    have K0 : v2 0 11 = u 0 11 := P_ks h0 hf1 hf2 (by omega) (f _ _ (fun g => by unfold kAj at g; omega))
    have K1 : ∀ b, 0 ≤ b → b ≤ 3 → b ≠ p1 → v2 (17 * b + 86) 8 = u (17 * b + 86) 8 := fun b b0 b1 nb => P_ks h0 hf1 hf2 (by omega) (f _ _ (fun g => by unfold kAj at g; omega))
    have K2 : v2 (17 * p1 + 86) 8 = u 286 p1 + 1 := P_kv hf1 hf2 (by omega) (by unfold kn1; omega) X8
    have K3 : ∀ b j k, 0 ≤ b → b ≤ 3 → 0 ≤ j → j ≤ 5 → ¬ (b = p1 ∧ j = u 286 p1) → v2 (17 * b + j + 97) k = u (17 * b + j + 97) k := fun b j k b0 b1 j0 j1 nb => P_ks h0 hf1 hf2 (by omega) (by
      by_cases eb : b = p1
      · rw [eb]
        exact Xo j k j0 j1 (by omega)
      · exact f _ _ (fun g => by unfold kAj at g; omega))
    have N0 : v2 (17 * p1 + u 286 p1 + 97) 0 = p2 := P_kv hf1 hf2 (by omega) (by unfold kn1; omega) F0
    have N2 : v2 (17 * p1 + u 286 p1 + 97) 2 = p4 := P_kv hf1 hf2 (by omega) (by unfold kn1; omega) F2
    have N3 : v2 (17 * p1 + u 286 p1 + 97) 3 = p5 := P_kv hf1 hf2 (by omega) (by unfold kn1; omega) F3
    have N4 : v2 (17 * p1 + u 286 p1 + 97) 4 = 0 := P_kv hf1 hf2 (by omega) (by unfold kn1; omega) F4
    have M1 : v2 286 p1 = u 286 p1 + 1 := P_mv hf2 (by omega) (by unfold kn1; omega) (by rw [e2, e_up_eq])
    have M2 : ∀ b, b ≠ p1 → v2 286 b = u 286 b := fun b nb => P_ms hf1 hf2 (by omega) (by rw [e2, e_up_ne _ _ (by omega), e_up_ne _ _ (by omega), e_up_ne _ _ (by omega), e_up_ne _ _ (by omega), e_up_ne _ _ (by omega), e_up_ne _ _ (by omega), e_up_ne _ _ (by omega), e_up_ne _ _ (by omega)])
    have M3 : ∀ c k, (c = 287 ∨ c = 289 ∨ c = 292 ∨ c = 293) → k ≠ 6 * p1 + u 286 p1 → v2 c k = u c k := fun c k q nk => P_ms hf1 hf2 (by omega) (by rw [e2, e_up_ne _ _ (by omega), e_up_ne _ _ (by omega), e_up_ne _ _ (by omega), e_up_ne _ _ (by omega), e_up_ne _ _ (by omega), e_up_ne _ _ (by omega), e_up_ne _ _ (by omega), e_up_ne _ _ (by omega)])
    have M4 : v2 293 (6 * p1 + u 286 p1) = 0 := P_mv hf2 (by omega) (by unfold kn1; omega) (by rw [e2, e_up_ne _ _ (by omega), e_up_eq])
    have M5 : v2 292 (6 * p1 + u 286 p1) = p5 := P_mv hf2 (by omega) (by unfold kn1; omega) (by rw [e2, e_up_ne _ _ (by omega), e_up_ne _ _ (by omega), e_up_eq])
    have M6 : v2 289 (6 * p1 + u 286 p1) = p4 := P_mv hf2 (by omega) (by unfold kn1; omega) (by rw [e2, e_up_ne _ _ (by omega), e_up_ne _ _ (by omega), e_up_ne _ _ (by omega), e_up_ne _ _ (by omega), e_up_ne _ _ (by omega), e_up_eq])
    have M7 : v2 287 (6 * p1 + u 286 p1) = -p2 + 1 := P_mv hf2 (by omega) (by unfold kn1; omega) (by rw [e2, e_up_ne _ _ (by omega), e_up_ne _ _ (by omega), e_up_ne _ _ (by omega), e_up_ne _ _ (by omega), e_up_ne _ _ (by omega), e_up_ne _ _ (by omega), e_up_ne _ _ (by omega), e_up_eq])
    refine ⟨fun b b0 b1 b2 => ?_, fun b b0 b1 => ?_⟩
    · by_cases eb : b = p1
      · rw [eb]
        refine ⟨by rw [K2, M1], fun j j0 j1 j2 => ?_⟩
        by_cases ej : j = u 286 p1
        · rw [ej, N3, N2, N4, N0, M5, M6, M4, M7]
          exact ⟨rfl, rfl, rfl, by omega⟩
        · have q := q2 j j0 j1 (by omega)
          rw [K3 p1 j 3 a0 (by omega) j0 j1 (by omega), K3 p1 j 2 a0 (by omega) j0 j1 (by omega), K3 p1 j 4 a0 (by omega) j0 j1 (by omega), K3 p1 j 0 a0 (by omega) j0 j1 (by omega), M3 292 (6 * p1 + j) (by decide) (by omega), M3 289 (6 * p1 + j) (by decide) (by omega), M3 293 (6 * p1 + j) (by decide) (by omega), M3 287 (6 * p1 + j) (by decide) (by omega)]
          exact q
      · obtain ⟨r1, r2⟩ := h6.1 b b0 b1 (by omega)
        refine ⟨by rw [K1 b b0 b1 eb, M2 b eb]; exact r1, fun j j0 j1 j2 => ?_⟩
        rw [M2 b eb] at j2
        have q := r2 j j0 j1 j2
        rw [K3 b j 3 b0 b1 j0 j1 (by omega), K3 b j 2 b0 b1 j0 j1 (by omega), K3 b j 4 b0 b1 j0 j1 (by omega), K3 b j 0 b0 b1 j0 j1 (by omega), M3 292 (6 * b + j) (by decide) (by omega), M3 289 (6 * b + j) (by decide) (by omega), M3 293 (6 * b + j) (by decide) (by omega), M3 287 (6 * b + j) (by decide) (by omega)]
        exact q
    · have nb : b ≠ p1 := by omega
      rw [M2 b nb]
      exact h6.2 b (by omega) b1
theorem lw6_radius {u w1 v w2 v2 : eW} {z1 z2 p1 p2 p3 : Int} (h0 : lw0 u) (h3 : lw3 u) (h6 : lw6 u) (hf1 : e_Lf Bk u w1 v) (x1 : (((e_PB Bk u) = w1 ∧ ((¬ ((0 ≤ p1 ∧ p1 < (e_PB Bk u) 0 11) ∧ (0 ≤ p2 ∧ p2 < (e_PB Bk u) (17 * p1 + 86) 8) ∧ (0 ≤ p3 ∧ p3 ≤ 800)) ∧ z1 = -1) ∨ (((0 ≤ p1 ∧ p1 < (e_PB Bk u) 0 11) ∧ (0 ≤ p2 ∧ p2 < (e_PB Bk u) (17 * p1 + 86) 8) ∧ (0 ≤ p3 ∧ p3 ≤ 800)) ∧ (e_PB Bk u) 0 13 ≠ 0 ∧ z1 = -2))) ∨ ((((0 ≤ p1 ∧ p1 < (e_PB Bk u) 0 11) ∧ (0 ≤ p2 ∧ p2 < (e_PB Bk u) (17 * p1 + 86) 8) ∧ (0 ≤ p3 ∧ p3 ≤ 800)) ∧ (e_PB Bk u) 0 13 = 0) ∧ z1 = (e_PB Bk u) (17 * p1 + p2 + 97) 4 ∧ w1 = e_up (e_PB Bk u) (17 * p1 + p2 + 97) (4) (p3)))) (hf2 : e_Lf Bm v w2 v2) (x2 : (((e_PB Bm v) = w2 ∧ ((¬ ((0 ≤ p1 ∧ p1 < (e_PB Bm v) 275 10) ∧ (0 ≤ p2 ∧ p2 < (e_PB Bm v) 286 p1) ∧ (0 ≤ p3 ∧ p3 ≤ 800)) ∧ z2 = -1) ∨ (((0 ≤ p1 ∧ p1 < (e_PB Bm v) 275 10) ∧ (0 ≤ p2 ∧ p2 < (e_PB Bm v) 286 p1) ∧ (0 ≤ p3 ∧ p3 ≤ 800)) ∧ (e_PB Bm v) 275 3 ≠ 0 ∧ z2 = -2))) ∨ ((((0 ≤ p1 ∧ p1 < (e_PB Bm v) 275 10) ∧ (0 ≤ p2 ∧ p2 < (e_PB Bm v) 286 p1) ∧ (0 ≤ p3 ∧ p3 ≤ 800)) ∧ (e_PB Bm v) 275 3 = 0) ∧ z2 = (e_PB Bm v) 293 (6 * p1 + p2) ∧ w2 = e_up (e_PB Bm v) 293 (6 * p1 + p2) (p3)))) : lw6 v2 ∧ z1 = z2 := by
  have hn := (L_len h0).2.2
  have b11 : e_PB Bk u 0 11 = u 0 11 := P_kb (by omega)
  have b13 : e_PB Bk u 0 13 = u 0 13 := P_kb (by omega)
  have d3 : e_PB Bm v 275 3 = u 275 3 := P_mb hf1 (by omega)
  have d10 : e_PB Bm v 275 10 = u 275 10 := P_mb hf1 (by omega)
  have dn : e_PB Bm v 286 p1 = u 286 p1 := P_mb hf1 (by omega)
  have bn : 0 ≤ p1 → p1 < u 0 11 → e_PB Bk u (17 * p1 + 86) 8 = u 286 p1 := fun a0 a1 => (P_kb (by omega)).trans (h6.1 p1 a0 (by omega) a1).1
  obtain ⟨y9, y3, y10⟩ := h3
  have hM := h0.2.2.2.2.2.1
  have rn : 0 ≤ u 286 p1 ∧ u 286 p1 ≤ 6 := by
    have r := e_Has.get hM (c := 286) (k := p1) (lo := 0) (hi := 6) rfl (by decide)
    rw [show e_PB Bm u 286 p1 = u 286 p1 from e_PB_in (by unfold Bm; omega)] at r
    exact r
  have hc : ((0 ≤ p1 ∧ p1 < (e_PB Bk u) 0 11) ∧ (0 ≤ p2 ∧ p2 < (e_PB Bk u) (17 * p1 + 86) 8) ∧ (0 ≤ p3 ∧ p3 ≤ 800)) ↔ ((0 ≤ p1 ∧ p1 < (e_PB Bm v) 275 10) ∧ (0 ≤ p2 ∧ p2 < (e_PB Bm v) 286 p1) ∧ (0 ≤ p3 ∧ p3 ≤ 800)) := by
    constructor
    · rintro ⟨q1, q2, q3⟩
      have e := bn q1.1 (by have e := q1.2; omega)
      exact ⟨by omega, by omega, q3⟩
    · rintro ⟨q1, q2, q3⟩
      have e := bn q1.1 (by have e := q1.2; omega)
      exact ⟨by omega, by omega, q3⟩
  obtain ⟨ez, hx⟩ := ex_pair0 hc (o := e_PB Bk u 0 13) (o' := e_PB Bm v 275 3) (A1 := e_PB Bk u (17 * p1 + p2 + 97) 4) (A2 := e_PB Bm v 293 (6 * p1 + p2)) (by omega) (fun ⟨q1, q2, q3⟩ => by
    have e := bn q1.1 (by have e := q1.2; omega)
    have r := (h6.1 p1 q1.1 (by omega) (by omega)).2 p2 q2.1 (by omega) (by omega)
    have s1 : e_PB Bk u (17 * p1 + p2 + 97) 4 = u (17 * p1 + p2 + 97) 4 := P_kb (by omega)
    have s2 : e_PB Bm v 293 (6 * p1 + p2) = u 293 (6 * p1 + p2) := P_mb hf1 (by omega)
    rw [s1, s2]
    exact r.2.2.1) x1 x2
  refine ⟨?_, ez⟩
  rcases hx with ⟨e1, e2⟩ | ⟨c1, e1, e2⟩
  · exact lw6_same h0 h6 hf1 (fun c k _ => by rw [← e1]) hf2 (fun c k _ => by rw [← e2])
  · obtain ⟨q1, q2, q3⟩ := c1
    have e := bn q1.1 (by have e := q1.2; omega)
    have K : ∀ c k, (0 ≤ c ∧ c ≤ 274) → ¬ (c = 17 * p1 + p2 + 97 ∧ k = 4) → v2 c k = u c k := fun c k hc nk => P_ks h0 hf1 hf2 hc (by rw [e1, e_up_ne _ _ (by omega)])
    have Kn : v2 (17 * p1 + p2 + 97) 4 = p3 := P_kv hf1 hf2 (by omega) (by unfold kn1; omega) (by rw [e1, e_up_eq])
    have M : ∀ c k, (275 ≤ c ∧ c ≤ 356) → ¬ (c = 293 ∧ k = 6 * p1 + p2) → v2 c k = u c k := fun c k hc nk => P_ms hf1 hf2 hc (by rw [e2, e_up_ne _ _ (by omega)])
    have Mn : v2 293 (6 * p1 + p2) = p3 := P_mv hf2 (by omega) (by unfold kn1; omega) (by rw [e2, e_up_eq])
    have K0 := K 0 11 (by omega) (by omega)
    refine ⟨fun b b0 b1 b2 => ?_, fun b b0 b1 => ?_⟩
    · obtain ⟨r1, r2⟩ := h6.1 b b0 b1 (by omega)
      have m := M 286 b (by omega) (by omega)
      refine ⟨by rw [K (17 * b + 86) 8 (by omega) (by omega), m]; exact r1, fun j j0 j1 j2 => ?_⟩
      have q := r2 j j0 j1 (by omega)
      rw [K (17 * b + j + 97) 3 (by omega) (by omega), K (17 * b + j + 97) 2 (by omega) (by omega), K (17 * b + j + 97) 0 (by omega) (by omega), M 292 (6 * b + j) (by omega) (by omega), M 289 (6 * b + j) (by omega) (by omega), M 287 (6 * b + j) (by omega) (by omega)]
      refine ⟨q.1, q.2.1, ?_, q.2.2.2⟩
      by_cases eb : b = p1 ∧ j = p2
      · rw [eb.1, eb.2, Kn, Mn]
      · rw [K (17 * b + j + 97) 4 (by omega) (by omega), M 293 (6 * b + j) (by omega) (by omega)]
        exact q.2.2.1
    · rw [M 286 b (by omega) (by omega)]
      exact h6.2 b (by omega) b1
theorem lw6_pace {u w1 v w2 v2 : eW} {z1 z2 p1 p2 p3 p4 : Int} (h0 : lw0 u) (h3 : lw3 u) (h6 : lw6 u) (hf1 : e_Lf Bk u w1 v) (x1 : (((e_PB Bk u) = w1 ∧ ((¬ ((0 ≤ p1 ∧ p1 < (e_PB Bk u) 0 11) ∧ (0 ≤ p2 ∧ p2 < (e_PB Bk u) (17 * p1 + 86) 8) ∧ (1 ≤ p3 ∧ p3 ≤ 2000) ∧ (1 ≤ p4 ∧ p4 ≤ 2000)) ∧ z1 = -1) ∨ (((0 ≤ p1 ∧ p1 < (e_PB Bk u) 0 11) ∧ (0 ≤ p2 ∧ p2 < (e_PB Bk u) (17 * p1 + 86) 8) ∧ (1 ≤ p3 ∧ p3 ≤ 2000) ∧ (1 ≤ p4 ∧ p4 ≤ 2000)) ∧ (e_PB Bk u) 0 13 ≠ 0 ∧ z1 = -2))) ∨ ((((0 ≤ p1 ∧ p1 < (e_PB Bk u) 0 11) ∧ (0 ≤ p2 ∧ p2 < (e_PB Bk u) (17 * p1 + 86) 8) ∧ (1 ≤ p3 ∧ p3 ≤ 2000) ∧ (1 ≤ p4 ∧ p4 ≤ 2000)) ∧ (e_PB Bk u) 0 13 = 0) ∧ z1 = 0 ∧ w1 = e_up (e_up (e_PB Bk u) (17 * p1 + p2 + 97) (5) (p3)) (17 * p1 + p2 + 97) (6) (p4)))) (hf2 : e_Lf Bm v w2 v2) (x2 : (((e_PB Bm v) = w2 ∧ ((¬ ((0 ≤ p1 ∧ p1 < (e_PB Bm v) 275 10) ∧ (0 ≤ p2 ∧ p2 < (e_PB Bm v) 286 p1) ∧ (1 ≤ p3 ∧ p3 ≤ 2000) ∧ (1 ≤ p4 ∧ p4 ≤ 2000)) ∧ z2 = -1) ∨ (((0 ≤ p1 ∧ p1 < (e_PB Bm v) 275 10) ∧ (0 ≤ p2 ∧ p2 < (e_PB Bm v) 286 p1) ∧ (1 ≤ p3 ∧ p3 ≤ 2000) ∧ (1 ≤ p4 ∧ p4 ≤ 2000)) ∧ (e_PB Bm v) 275 3 ≠ 0 ∧ z2 = -2))) ∨ ((((0 ≤ p1 ∧ p1 < (e_PB Bm v) 275 10) ∧ (0 ≤ p2 ∧ p2 < (e_PB Bm v) 286 p1) ∧ (1 ≤ p3 ∧ p3 ≤ 2000) ∧ (1 ≤ p4 ∧ p4 ≤ 2000)) ∧ (e_PB Bm v) 275 3 = 0) ∧ z2 = 0 ∧ w2 = e_up (e_up (e_PB Bm v) 290 (6 * p1 + p2) (p3)) 291 (6 * p1 + p2) (p4)))) : z1 = z2 := by
  have hn := (L_len h0).2.2
  have b11 : e_PB Bk u 0 11 = u 0 11 := P_kb (by omega)
  have b13 : e_PB Bk u 0 13 = u 0 13 := P_kb (by omega)
  have d3 : e_PB Bm v 275 3 = u 275 3 := P_mb hf1 (by omega)
  have d10 : e_PB Bm v 275 10 = u 275 10 := P_mb hf1 (by omega)
  have dn : e_PB Bm v 286 p1 = u 286 p1 := P_mb hf1 (by omega)
  have bn : 0 ≤ p1 → p1 < u 0 11 → e_PB Bk u (17 * p1 + 86) 8 = u 286 p1 := fun a0 a1 => (P_kb (by omega)).trans (h6.1 p1 a0 (by omega) a1).1
  obtain ⟨y9, y3, y10⟩ := h3
  have hM := h0.2.2.2.2.2.1
  have rn : 0 ≤ u 286 p1 ∧ u 286 p1 ≤ 6 := by
    have r := e_Has.get hM (c := 286) (k := p1) (lo := 0) (hi := 6) rfl (by decide)
    rw [show e_PB Bm u 286 p1 = u 286 p1 from e_PB_in (by unfold Bm; omega)] at r
    exact r
  have hc : ((0 ≤ p1 ∧ p1 < (e_PB Bk u) 0 11) ∧ (0 ≤ p2 ∧ p2 < (e_PB Bk u) (17 * p1 + 86) 8) ∧ (1 ≤ p3 ∧ p3 ≤ 2000) ∧ (1 ≤ p4 ∧ p4 ≤ 2000)) ↔ ((0 ≤ p1 ∧ p1 < (e_PB Bm v) 275 10) ∧ (0 ≤ p2 ∧ p2 < (e_PB Bm v) 286 p1) ∧ (1 ≤ p3 ∧ p3 ≤ 2000) ∧ (1 ≤ p4 ∧ p4 ≤ 2000)) := by
    constructor
    · rintro ⟨q1, q2, q3⟩
      have e := bn q1.1 (by have e := q1.2; omega)
      exact ⟨by omega, by omega, q3⟩
    · rintro ⟨q1, q2, q3⟩
      have e := bn q1.1 (by have e := q1.2; omega)
      exact ⟨by omega, by omega, q3⟩
  exact (ex_pair0 hc (o := e_PB Bk u 0 13) (o' := e_PB Bm v 275 3) (A1 := 0) (A2 := 0) (by omega) (fun _ => rfl) x1 x2).1
theorem lw6_zero {u w1 v w2 v2 : eW} (hf1 : e_Lf Bk u w1 v) (e1 : w1 0 11 = 0) (hf2 : e_Lf Bm v w2 v2) (e2 : ∀ a, 0 ≤ a → a < 4 → w2 286 a = 0) : lw6 v2 := by
  have k : v2 0 11 = 0 := P_kv hf1 hf2 (by omega) (by unfold kn1; omega) e1
  exact ⟨fun a a0 a1 a2 => by exfalso; omega, fun a a0 a1 => P_mv hf2 (by omega) (by unfold kn1; omega) (e2 a (by omega) (by omega))⟩
theorem i0.lw6 {w u : eW} (h : i0 w u) : lw6 u := by
  have k : u 0 11 = 0 := h.vl (j := 0) (k := 11) (by decide +kernel)
  have m0 : u 286 0 = 0 := h.vl (j := 286) (k := 0) (by decide +kernel)
  have m1 : u 286 1 = 0 := h.vl (j := 286) (k := 1) (by decide +kernel)
  have m2 : u 286 2 = 0 := h.vl (j := 286) (k := 2) (by decide +kernel)
  have m3 : u 286 3 = 0 := h.vl (j := 286) (k := 3) (by decide +kernel)
  refine ⟨fun a a0 a1 a2 => by exfalso; omega, fun a a0 a1 => ?_⟩
  obtain rfl | rfl | rfl | rfl : a = 0 ∨ a = 1 ∨ a = 2 ∨ a = 3 := by omega
  · exact m0
  · exact m1
  · exact m2
  · exact m3
def lwS (u : eW) : Prop := lwR u ∧ lw6 u
theorem i0.lwS {w u : eW} (h : i0 w u) (ha : e_all u) : lwS u := ⟨h.lwR ha, h.lw6⟩
theorem m_277d {d : Nat} (hd : 23 ≤ d) {w : eW} (h : mRel w) : e_Ok 20 elay ecode eI d 277 (0, [(0, (1, 275))], [], w) (fun _ w' => ∀ a, 0 ≤ a → a < 4 → w' 286 a = 0) :=
  (c_277_h hd h.1 h.2.1).imp (fun r w' q => by
    obtain ⟨z, hr, q1, q2, q3, q4⟩ := q
    exact fun a a0 a1 => (q4.2.1 a a0 a1).1)
theorem ks6_190 {d : Nat} (hd : 460 ≤ d) {w : eW} (q : kRel w) (hAl : kAl w) {a : Int} (g_a : (-2147483648 ≤ a ∧ a ≤ 2147483647)) {b : Int} (g_b : (-2147483648 ≤ b ∧ b ≤ 2147483647)) {c : Int} (g_c : (-2147483648 ≤ c ∧ c ≤ 2147483647)) {e : Int} (g_e : (-2147483648 ≤ e ∧ e ≤ 2147483647)) {g : Int} (g_g : (-2147483648 ≤ g ∧ g ≤ 2147483647)) : e_Ok 20 elay kcode eI d 190 (0, [(0, (1, 0)), (1, (0, a)), (2, (0, b)), (3, (0, c)), (4, (0, e)), (5, (0, g))], [], w) (fun r w' => ∃ z : Int, r = [(0, z)] ∧ kRelF w' ∧ (((3980 < w 1 0 ∧ z = -3 ∧ km3 w w') ∨ (w 1 0 ≤ 3980 ∧ z = w 1 0 + 20 ∧ w' 0 13 = w 0 13 ∧ w' 1 0 = w 1 0 + 20 ∧ w' 0 11 = w 0 11))) ∧ rks6 w w') :=
  (e_Ok.both (k_190 hd q hAl g_a g_b g_c g_e g_g) (kq_190 hd q hAl g_a g_b g_c g_e g_g)).imp (fun r w' h => by
    obtain ⟨⟨z, h1, hF, e⟩, f⟩ := h
    exact ⟨z, h1, hF, e, f.r6⟩)
theorem ks6_191 {d : Nat} (hd : 460 ≤ d) {w : eW} (q : kRel w) (hAl : kAl w) {a : Int} (g_a : (-2147483648 ≤ a ∧ a ≤ 2147483647)) : e_Ok 20 elay kcode eI d 191 (0, [(0, (1, 0)), (1, (0, a))], [], w) (fun r w' => ∃ z : Int, r = [(0, z)] ∧ kRelF w' ∧ ((((a < 0 ∨ w 1 0 < a) ∧ z = -1 ∧ km3 w w') ∨ ((0 ≤ a ∧ a ≤ w 1 0) ∧ z = w 1 0 - a ∧ w' 0 13 = w 0 13 ∧ w' 1 0 = w 1 0 - a ∧ w' 0 11 = w 0 11))) ∧ rks6 w w') :=
  (e_Ok.both (k_191 hd q hAl g_a) (kq_191 hd q hAl g_a)).imp (fun r w' h => by
    obtain ⟨⟨z, h1, hF, e⟩, f⟩ := h
    exact ⟨z, h1, hF, e, f.r6⟩)
theorem ks6_195 {d : Nat} (hd : 460 ≤ d) {w : eW} (q : kRel w) (hAl : kAl w) {a : Int} (g_a : (-2147483648 ≤ a ∧ a ≤ 2147483647)) {b : Int} (g_b : (-2147483648 ≤ b ∧ b ≤ 2147483647)) {c : Int} (g_c : (-2147483648 ≤ c ∧ c ≤ 2147483647)) {e : Int} (g_e : (-2147483648 ≤ e ∧ e ≤ 2147483647)) : e_Ok 20 elay kcode eI d 195 (0, [(0, (1, 0)), (1, (0, a)), (2, (0, b)), (3, (0, c)), (4, (0, e))], [], w) (fun r w' => ∃ z : Int, r = [(0, z)] ∧ kRelF w' ∧ (km3 w w') ∧ rks6 w w') :=
  (e_Ok.both (k_195 hd q hAl g_a g_b g_c g_e) (kq_195 hd q hAl g_a g_b g_c g_e)).imp (fun r w' h => by
    obtain ⟨⟨z, h1, hF, e⟩, f⟩ := h
    exact ⟨z, h1, hF, e, fun c k y => by
      rcases f with rfl | ⟨ga, gb, f⟩
      · rfl
      · exact f c k (fun g => by unfold rK6 at y; unfold kBj at g; omega)⟩)
theorem ks6_197 {d : Nat} (hd : 460 ≤ d) {w : eW} (q : kRel w) (hAl : kAl w) {a : Int} (g_a : (-2147483648 ≤ a ∧ a ≤ 2147483647)) {b : Int} (g_b : (-2147483648 ≤ b ∧ b ≤ 2147483647)) {c : Int} (g_c : (-2147483648 ≤ c ∧ c ≤ 2147483647)) : e_Ok 20 elay kcode eI d 197 (0, [(0, (1, 0)), (1, (0, a)), (2, (0, b)), (3, (0, c))], [], w) (fun r w' => ∃ z : Int, r = [(0, z)] ∧ kRelF w' ∧ (km3 w w') ∧ rks6 w w') :=
  (e_Ok.both (k_197 hd q hAl g_a g_b g_c) (kq_197 hd q hAl g_a g_b g_c)).imp (fun r w' h => by
    obtain ⟨⟨z, h1, hF, e⟩, f⟩ := h
    exact ⟨z, h1, hF, e, fun c k y => f c k (fun g => by unfold rK6 at y; unfold kAs at g; omega)⟩)
theorem ks6_198 {d : Nat} (hd : 460 ≤ d) {w : eW} (q : kRel w) (hAl : kAl w) {a : Int} (g_a : (-2147483648 ≤ a ∧ a ≤ 2147483647)) {b : Int} (g_b : (-2147483648 ≤ b ∧ b ≤ 2147483647)) {c : Int} (g_c : (-2147483648 ≤ c ∧ c ≤ 2147483647)) {e : Int} (g_e : (-2147483648 ≤ e ∧ e ≤ 2147483647)) : e_Ok 20 elay kcode eI d 198 (0, [(0, (1, 0)), (1, (0, a)), (2, (0, b)), (3, (0, c)), (4, (0, e))], [], w) (fun r w' => ∃ z : Int, r = [(0, z)] ∧ kRelF w' ∧ (km3 w w') ∧ rks6 w w') :=
  (e_Ok.both (k_198 hd q hAl g_a g_b g_c g_e) (kq_198 hd q hAl g_a g_b g_c g_e)).imp (fun r w' h => by
    obtain ⟨⟨z, h1, hF, e⟩, f⟩ := h
    exact ⟨z, h1, hF, e, fun c k y => f c k (fun g => by unfold rK6 at y; unfold kAs at g; omega)⟩)
theorem ks6_199 {d : Nat} (hd : 460 ≤ d) {w : eW} (q : kRel w) (hAl : kAl w) {a : Int} (g_a : (-2147483648 ≤ a ∧ a ≤ 2147483647)) {b : Int} (g_b : (-2147483648 ≤ b ∧ b ≤ 2147483647)) {c : Int} (g_c : (-2147483648 ≤ c ∧ c ≤ 2147483647)) : e_Ok 20 elay kcode eI d 199 (0, [(0, (1, 0)), (1, (0, a)), (2, (0, b)), (3, (0, c))], [], w) (fun r w' => ∃ z : Int, r = [(0, z)] ∧ kRelF w' ∧ (km3 w w') ∧ rks6 w w') :=
  (e_Ok.both (k_199 hd q hAl g_a g_b g_c) (kq_199 hd q hAl g_a g_b g_c)).imp (fun r w' h => by
    obtain ⟨⟨z, h1, hF, e⟩, f⟩ := h
    exact ⟨z, h1, hF, e, fun c k y => by
      rcases f with rfl | ⟨ga, f⟩
      · rfl
      · exact f c k (fun g => by unfold rK6 at y; unfold kSd at g; omega)⟩)
theorem ks6_200 {d : Nat} (hd : 460 ≤ d) {w : eW} (q : kRel w) (hAl : kAl w) {a : Int} (g_a : (-2147483648 ≤ a ∧ a ≤ 2147483647)) {b : Int} (g_b : (-2147483648 ≤ b ∧ b ≤ 2147483647)) {c : Int} (g_c : (-2147483648 ≤ c ∧ c ≤ 2147483647)) {e : Int} (g_e : (-2147483648 ≤ e ∧ e ≤ 2147483647)) {g : Int} (g_g : (-2147483648 ≤ g ∧ g ≤ 2147483647)) : e_Ok 20 elay kcode eI d 200 (0, [(0, (1, 0)), (1, (0, a)), (2, (0, b)), (3, (0, c)), (4, (0, e)), (5, (0, g))], [], w) (fun r w' => ∃ z : Int, r = [(0, z)] ∧ kRelF w' ∧ (km3 w w') ∧ rks6 w w') :=
  (e_Ok.both (k_200 hd q hAl g_a g_b g_c g_e g_g) (kq_200 hd q hAl g_a g_b g_c g_e g_g)).imp (fun r w' h => by
    obtain ⟨⟨z, h1, hF, e⟩, f⟩ := h
    exact ⟨z, h1, hF, e, fun c k y => f c k (fun g => by unfold rK6 at y; unfold kAb at g; omega)⟩)
theorem ks6_201 {d : Nat} (hd : 460 ≤ d) {w : eW} (q : kRel w) (hAl : kAl w) {a : Int} (g_a : (-2147483648 ≤ a ∧ a ≤ 2147483647)) {b : Int} (g_b : (-2147483648 ≤ b ∧ b ≤ 2147483647)) : e_Ok 20 elay kcode eI d 201 (0, [(0, (1, 0)), (1, (0, a)), (2, (0, b))], [], w) (fun r w' => ∃ z : Int, r = [(0, z)] ∧ kRelF w' ∧ (km3 w w') ∧ rks6 w w') :=
  (e_Ok.both (k_201 hd q hAl g_a g_b) (kq_201 hd q hAl g_a g_b)).imp (fun r w' h => by
    obtain ⟨⟨z, h1, hF, e⟩, f⟩ := h
    exact ⟨z, h1, hF, e, fun c k y => f c k (fun g => by unfold rK6 at y; unfold kBd at g; omega)⟩)
theorem ks6_202 {d : Nat} (hd : 460 ≤ d) {w : eW} (q : kRel w) (hAl : kAl w) {a : Int} (g_a : (-2147483648 ≤ a ∧ a ≤ 2147483647)) {b : Int} (g_b : (-2147483648 ≤ b ∧ b ≤ 2147483647)) {c : Int} (g_c : (-2147483648 ≤ c ∧ c ≤ 2147483647)) {e : Int} (g_e : (-2147483648 ≤ e ∧ e ≤ 2147483647)) : e_Ok 20 elay kcode eI d 202 (0, [(0, (1, 0)), (1, (0, a)), (2, (0, b)), (3, (0, c)), (4, (0, e))], [], w) (fun r w' => ∃ z : Int, r = [(0, z)] ∧ kRelF w' ∧ (km3 w w') ∧ rks6 w w') :=
  (e_Ok.both (k_202 hd q hAl g_a g_b g_c g_e) (kq_202 hd q hAl g_a g_b g_c g_e)).imp (fun r w' h => by
    obtain ⟨⟨z, h1, hF, e⟩, f⟩ := h
    exact ⟨z, h1, hF, e, fun c k y => f c k (fun g => by unfold rK6 at y; unfold kBs at g; omega)⟩)
theorem ks6_203 {d : Nat} (hd : 460 ≤ d) {w : eW} (q : kRel w) (hAl : kAl w) {a : Int} (g_a : (-2147483648 ≤ a ∧ a ≤ 2147483647)) {b : Int} (g_b : (-2147483648 ≤ b ∧ b ≤ 2147483647)) {c : Int} (g_c : (-2147483648 ≤ c ∧ c ≤ 2147483647)) : e_Ok 20 elay kcode eI d 203 (0, [(0, (1, 0)), (1, (0, a)), (2, (0, b)), (3, (0, c))], [], w) (fun r w' => ∃ z : Int, r = [(0, z)] ∧ kRelF w' ∧ (km3 w w') ∧ rks6 w w') :=
  (e_Ok.both (k_203 hd q hAl g_a g_b g_c) (kq_203 hd q hAl g_a g_b g_c)).imp (fun r w' h => by
    obtain ⟨⟨z, h1, hF, e⟩, f⟩ := h
    exact ⟨z, h1, hF, e, fun c k y => f c k (fun g => by unfold rK6 at y; unfold kAp at g; omega)⟩)
theorem ks6_204 {d : Nat} (hd : 460 ≤ d) {w : eW} (q : kRel w) (hAl : kAl w) {a : Int} (g_a : (-2147483648 ≤ a ∧ a ≤ 2147483647)) {b : Int} (g_b : (-2147483648 ≤ b ∧ b ≤ 2147483647)) {c : Int} (g_c : (-2147483648 ≤ c ∧ c ≤ 2147483647)) : e_Ok 20 elay kcode eI d 204 (0, [(0, (1, 0)), (1, (0, a)), (2, (0, b)), (3, (0, c))], [], w) (fun r w' => ∃ z : Int, r = [(0, z)] ∧ kRelF w' ∧ (km3 w w') ∧ rks6 w w') :=
  (e_Ok.both (k_204 hd q hAl g_a g_b g_c) (kq_204 hd q hAl g_a g_b g_c)).imp (fun r w' h => by
    obtain ⟨⟨z, h1, hF, e⟩, f⟩ := h
    exact ⟨z, h1, hF, e, fun c k y => f c k (fun g => by unfold rK6 at y; unfold kAp at g; omega)⟩)
theorem ks6_205 {d : Nat} (hd : 460 ≤ d) {w : eW} (q : kRel w) (hAl : kAl w) {a : Int} (g_a : (-2147483648 ≤ a ∧ a ≤ 2147483647)) {b : Int} (g_b : (-2147483648 ≤ b ∧ b ≤ 2147483647)) {c : Int} (g_c : (-2147483648 ≤ c ∧ c ≤ 2147483647)) {e : Int} (g_e : (-2147483648 ≤ e ∧ e ≤ 2147483647)) {g : Int} (g_g : (-2147483648 ≤ g ∧ g ≤ 2147483647)) : e_Ok 20 elay kcode eI d 205 (0, [(0, (1, 0)), (1, (0, a)), (2, (0, b)), (3, (0, c)), (4, (0, e)), (5, (0, g))], [], w) (fun r w' => ∃ z : Int, r = [(0, z)] ∧ kRelF w' ∧ (km3 w w') ∧ rks6 w w') :=
  (e_Ok.both (k_205 hd q hAl g_a g_b g_c g_e g_g) (kq_205 hd q hAl g_a g_b g_c g_e g_g)).imp (fun r w' h => by
    obtain ⟨⟨z, h1, hF, e⟩, f⟩ := h
    exact ⟨z, h1, hF, e, fun c k y => f c k (fun g => by unfold rK6 at y; unfold kAs at g; omega)⟩)
theorem ks6_206 {d : Nat} (hd : 460 ≤ d) {w : eW} (q : kRel w) (hAl : kAl w) {a : Int} (g_a : (-2147483648 ≤ a ∧ a ≤ 2147483647)) {b : Int} (g_b : (-2147483648 ≤ b ∧ b ≤ 2147483647)) : e_Ok 20 elay kcode eI d 206 (0, [(0, (1, 0)), (1, (0, a)), (2, (0, b))], [], w) (fun r w' => ∃ z : Int, r = [(0, z)] ∧ kRelF w' ∧ (km3 w w') ∧ rks6 w w') :=
  (e_Ok.both (k_206 hd q hAl g_a g_b) (kq_206 hd q hAl g_a g_b)).imp (fun r w' h => by
    obtain ⟨⟨z, h1, hF, e⟩, f⟩ := h
    exact ⟨z, h1, hF, e, fun c k y => f c k (fun g => by unfold rK6 at y; unfold kBm0 at g; omega)⟩)
theorem ks6_207 {d : Nat} (hd : 460 ≤ d) {w : eW} (q : kRel w) (hAl : kAl w) {a : Int} (g_a : (-2147483648 ≤ a ∧ a ≤ 2147483647)) : e_Ok 20 elay kcode eI d 207 (0, [(0, (1, 0)), (1, (0, a))], [], w) (fun r w' => ∃ z : Int, r = [(0, z)] ∧ kRelF w' ∧ (km3 w w') ∧ rks6 w w') :=
  (e_Ok.both (k_207 hd q hAl g_a) (kq_207 hd q hAl g_a)).imp (fun r w' h => by
    obtain ⟨⟨z, h1, hF, e⟩, f⟩ := h
    exact ⟨z, h1, hF, e, fun c k y => f c k (fun g => by unfold rK6 at y; unfold kBi at g; omega)⟩)
theorem ks6_208 {d : Nat} (hd : 460 ≤ d) {w : eW} (q : kRel w) (hAl : kAl w) {a : Int} (g_a : (-2147483648 ≤ a ∧ a ≤ 2147483647)) {b : Int} (g_b : (0 ≤ b ∧ b ≤ 1)) : e_Ok 20 elay kcode eI d 208 (0, [(0, (1, 0)), (1, (0, a)), (2, (0, b))], [], w) (fun r w' => ∃ z : Int, r = [(0, z)] ∧ kRelF w' ∧ (km3 w w') ∧ rks6 w w') :=
  (e_Ok.both (k_208 hd q hAl g_a g_b) (kq_208 hd q hAl g_a g_b)).imp (fun r w' h => by
    obtain ⟨⟨z, h1, hF, e⟩, f⟩ := h
    exact ⟨z, h1, hF, e, fun c k y => f c k (fun g => by unfold rK6 at y; unfold kBp at g; omega)⟩)
theorem ks6_209 {d : Nat} (hd : 460 ≤ d) {w : eW} (q : kRel w) (hAl : kAl w) {a : Int} (g_a : (-2147483648 ≤ a ∧ a ≤ 2147483647)) {b : Int} (g_b : (-2147483648 ≤ b ∧ b ≤ 2147483647)) {c : Int} (g_c : (0 ≤ c ∧ c ≤ 1)) : e_Ok 20 elay kcode eI d 209 (0, [(0, (1, 0)), (1, (0, a)), (2, (0, b)), (3, (0, c))], [], w) (fun r w' => ∃ z : Int, r = [(0, z)] ∧ kRelF w' ∧ (km3 w w') ∧ rks6 w w') :=
  (e_Ok.both (k_209 hd q hAl g_a g_b g_c) (kq_209 hd q hAl g_a g_b g_c)).imp (fun r w' h => by
    obtain ⟨⟨z, h1, hF, e⟩, f⟩ := h
    exact ⟨z, h1, hF, e, fun c k y => f c k (fun g => by unfold rK6 at y; unfold kCn at g; omega)⟩)
theorem ks6_210 {d : Nat} (hd : 460 ≤ d) {w : eW} (q : kRel w) (hAl : kAl w) {a : Int} (g_a : (-2147483648 ≤ a ∧ a ≤ 2147483647)) : e_Ok 20 elay kcode eI d 210 (0, [(0, (1, 0)), (1, (0, a))], [], w) (fun r w' => ∃ z : Int, r = [(0, z)] ∧ kRelF w' ∧ (((km3 w w' ∧ (w 0 13 = 1 ∨ a < 0 ∨ w 0 11 ≤ a)) ∨ ((w 0 13 = 0 ∧ 0 ≤ a ∧ a < w 0 11) ∧ w' 0 13 = w 0 13 ∧ w' 1 0 = 0 ∧ w' 0 11 = w 0 11))) ∧ rks6 w w') :=
  (e_Ok.both (k_210 hd q hAl g_a) (kq_210 hd q hAl g_a)).imp (fun r w' h => by
    obtain ⟨⟨z, h1, hF, e⟩, f⟩ := h
    exact ⟨z, h1, hF, e, f.r6⟩)
theorem ks6_211 {d : Nat} (hd : 460 ≤ d) {w : eW} (q : kRel w) (hAl : kAl w) {a : Int} (g_a : (-2147483648 ≤ a ∧ a ≤ 2147483647)) : e_Ok 20 elay kcode eI d 211 (0, [(0, (1, 0)), (1, (0, a))], [], w) (fun r w' => ∃ z : Int, r = [(0, z)] ∧ kRelF w' ∧ (km3 w w') ∧ rks6 w w') :=
  (e_Ok.both (k_211 hd q hAl g_a) (kq_211 hd q hAl g_a)).imp (fun r w' h => by
    obtain ⟨⟨z, h1, hF, e⟩, f⟩ := h
    exact ⟨z, h1, hF, e, f.r6⟩)
theorem ks6_212 {d : Nat} (hd : 460 ≤ d) {w : eW} (q : kRel w) (hAl : kAl w) : e_Ok 20 elay kcode eI d 212 (0, [(0, (1, 0))], [], w) (fun r w' => ∃ z : Int, r = [(0, z)] ∧ kRelF w' ∧ (((w 0 13 = 1 ∧ km3 w w') ∨ (w 0 13 = 0 ∧ w' 0 13 = 1 ∧ w' 1 0 = w 1 0 ∧ w' 0 11 = w 0 11))) ∧ rks6 w w') :=
  (e_Ok.both (k_212 hd q hAl ) (kq_212 hd q hAl )).imp (fun r w' h => by
    obtain ⟨⟨z, h1, hF, e⟩, f⟩ := h
    exact ⟨z, h1, hF, e, f.r6⟩)
theorem ks6_213 {d : Nat} (hd : 460 ≤ d) {w : eW} (q : kRel w) (hAl : kAl w) {a : Int} (g_a : (-2147483648 ≤ a ∧ a ≤ 2147483647)) {b : Int} (g_b : (-2147483648 ≤ b ∧ b ≤ 2147483647)) : e_Ok 20 elay kcode eI d 213 (0, [(0, (1, 0)), (1, (0, a)), (2, (0, b))], [], w) (fun r w' => ∃ z : Int, r = [(0, z)] ∧ kRelF w' ∧ (km3 w w') ∧ rks6 w w') :=
  (e_Ok.both (k_213 hd q hAl g_a g_b) (kq_213 hd q hAl g_a g_b)).imp (fun r w' h => by
    obtain ⟨⟨z, h1, hF, e⟩, f⟩ := h
    exact ⟨z, h1, hF, e, f.r6⟩)
theorem ks6_214 {d : Nat} (hd : 460 ≤ d) {w : eW} (q : kRel w) (hAl : kAl w) {n : Int} (g_n : (-2147483648 ≤ n ∧ n ≤ 2147483647)) : e_Ok 20 elay kcode eI d 214 (0, [(0, (1, 0)), (1, (0, n))], [], w) (fun r w' => ∃ z : Int, r = [(0, z)] ∧ kRelF w' ∧ (km3 w w') ∧ rks6 w w') :=
  (e_Ok.both (k_214 hd q hAl g_n) (kq_214 hd q hAl g_n)).imp (fun r w' h => by
    obtain ⟨⟨z, h1, hF, e⟩, f⟩ := h
    exact ⟨z, h1, hF, e, f.r6⟩)
theorem ks6_215 {d : Nat} (hd : 460 ≤ d) {w : eW} (q : kRel w) (hAl : kAl w) {a : Int} (g_a : (-2147483648 ≤ a ∧ a ≤ 2147483647)) {b : Int} (g_b : (-2147483648 ≤ b ∧ b ≤ 2147483647)) : e_Ok 20 elay kcode eI d 215 (0, [(0, (1, 0)), (1, (0, a)), (2, (0, b))], [], w) (fun r w' => ∃ z : Int, r = [(0, z)] ∧ kRelF w' ∧ (km3 w w') ∧ rks6 w w') :=
  (e_Ok.both (k_215 hd q hAl g_a g_b) (kq_215 hd q hAl g_a g_b)).imp (fun r w' h => by
    obtain ⟨⟨z, h1, hF, e⟩, f⟩ := h
    exact ⟨z, h1, hF, e, f.r6⟩)
theorem ks6_216 {d : Nat} (hd : 460 ≤ d) {w : eW} (q : kRel w) (hAl : kAl w) {a : Int} (g_a : (-2147483648 ≤ a ∧ a ≤ 2147483647)) {b : Int} (g_b : (-2147483648 ≤ b ∧ b ≤ 2147483647)) {c : Int} (g_c : (0 ≤ c ∧ c ≤ 1)) : e_Ok 20 elay kcode eI d 216 (0, [(0, (1, 0)), (1, (0, a)), (2, (0, b)), (3, (0, c))], [], w) (fun r w' => ∃ z : Int, r = [(0, z)] ∧ kRelF w' ∧ (km3 w w') ∧ rks6 w w') :=
  (e_Ok.both (k_216 hd q hAl g_a g_b g_c) (kq_216 hd q hAl g_a g_b g_c)).imp (fun r w' h => by
    obtain ⟨⟨z, h1, hF, e⟩, f⟩ := h
    exact ⟨z, h1, hF, e, f.r6⟩)
theorem ks6_217 {d : Nat} (hd : 460 ≤ d) {w : eW} (q : kRel w) (hAl : kAl w) {a : Int} (g_a : (-2147483648 ≤ a ∧ a ≤ 2147483647)) {b : Int} (g_b : (0 ≤ b ∧ b ≤ 1)) {c : Int} (g_c : (0 ≤ c ∧ c ≤ 1)) : e_Ok 20 elay kcode eI d 217 (0, [(0, (1, 0)), (1, (0, a)), (2, (0, b)), (3, (0, c))], [], w) (fun r w' => ∃ z : Int, r = [(0, z)] ∧ kRelF w' ∧ (km3 w w') ∧ rks6 w w') :=
  (e_Ok.both (k_217 hd q hAl g_a g_b g_c) (kq_217 hd q hAl g_a g_b g_c)).imp (fun r w' h => by
    obtain ⟨⟨z, h1, hF, e⟩, f⟩ := h
    exact ⟨z, h1, hF, e, f.r6⟩)
theorem ks6_218 {d : Nat} (hd : 460 ≤ d) {w : eW} (q : kRel w) (hAl : kAl w) {a : Int} (g_a : (-2147483648 ≤ a ∧ a ≤ 2147483647)) : e_Ok 20 elay kcode eI d 218 (0, [(0, (1, 0)), (1, (0, a))], [], w) (fun r w' => ∃ z : Int, r = [(0, z)] ∧ kRelF w' ∧ (km3 w w') ∧ rks6 w w') :=
  (e_Ok.both (k_218 hd q hAl g_a) (kq_218 hd q hAl g_a)).imp (fun r w' h => by
    obtain ⟨⟨z, h1, hF, e⟩, f⟩ := h
    exact ⟨z, h1, hF, e, f.r6⟩)
theorem ks6_219 {d : Nat} (hd : 460 ≤ d) {w : eW} (q : kRel w) (hAl : kAl w) {a : Int} (g_a : (-2147483648 ≤ a ∧ a ≤ 2147483647)) : e_Ok 20 elay kcode eI d 219 (0, [(0, (1, 0)), (1, (0, a))], [], w) (fun r w' => ∃ z : Int, r = [(0, z)] ∧ kRelF w' ∧ (km3 w w') ∧ rks6 w w') :=
  (e_Ok.both (k_219 hd q hAl g_a) (kq_219 hd q hAl g_a)).imp (fun r w' h => by
    obtain ⟨⟨z, h1, hF, e⟩, f⟩ := h
    exact ⟨z, h1, hF, e, f.r6⟩)
theorem ks6_220 {d : Nat} (hd : 460 ≤ d) {w : eW} (q : kRel w) (hAl : kAl w) {a : Int} (g_a : (-2147483648 ≤ a ∧ a ≤ 2147483647)) : e_Ok 20 elay kcode eI d 220 (0, [(0, (1, 0)), (1, (0, a))], [], w) (fun r w' => ∃ z : Int, r = [(0, z)] ∧ kRelF w' ∧ (km3 w w') ∧ rks6 w w') :=
  (e_Ok.both (k_220 hd q hAl g_a) (kq_220 hd q hAl g_a)).imp (fun r w' h => by
    obtain ⟨⟨z, h1, hF, e⟩, f⟩ := h
    exact ⟨z, h1, hF, e, f.r6⟩)
theorem ks6_221 {d : Nat} (hd : 460 ≤ d) {w : eW} (q : kRel w) (hAl : kAl w) {a : Int} (g_a : (-2147483648 ≤ a ∧ a ≤ 2147483647)) {b : Int} (g_b : (-2147483648 ≤ b ∧ b ≤ 2147483647)) {c : Int} (g_c : (-2147483648 ≤ c ∧ c ≤ 2147483647)) : e_Ok 20 elay kcode eI d 221 (0, [(0, (1, 0)), (1, (0, a)), (2, (0, b)), (3, (0, c))], [], w) (fun r w' => ∃ z : Int, r = [(0, z)] ∧ kRelF w' ∧ (km3 w w') ∧ rks6 w w') :=
  (e_Ok.both (k_221 hd q hAl g_a g_b g_c) (kq_221 hd q hAl g_a g_b g_c)).imp (fun r w' h => by
    obtain ⟨⟨z, h1, hF, e⟩, f⟩ := h
    exact ⟨z, h1, hF, e, f.r6⟩)
theorem ks6_222 {d : Nat} (hd : 460 ≤ d) {w : eW} (q : kRel w) (hAl : kAl w) {a : Int} (g_a : (-2147483648 ≤ a ∧ a ≤ 2147483647)) {b : Int} (g_b : (-2147483648 ≤ b ∧ b ≤ 2147483647)) : e_Ok 20 elay kcode eI d 222 (0, [(0, (1, 0)), (1, (0, a)), (2, (0, b))], [], w) (fun r w' => ∃ z : Int, r = [(0, z)] ∧ kRelF w' ∧ (km3 w w') ∧ rks6 w w') :=
  (e_Ok.both (k_222 hd q hAl g_a g_b) (kq_222 hd q hAl g_a g_b)).imp (fun r w' h => by
    obtain ⟨⟨z, h1, hF, e⟩, f⟩ := h
    exact ⟨z, h1, hF, e, f.r6⟩)
theorem ks6_223 {d : Nat} (hd : 460 ≤ d) {w : eW} (q : kRel w) (hAl : kAl w) {a : Int} (g_a : (-2147483648 ≤ a ∧ a ≤ 2147483647)) {n : Int} (g_n : (-2147483648 ≤ n ∧ n ≤ 2147483647)) {e : Int} (g_e : (-2147483648 ≤ e ∧ e ≤ 2147483647)) : e_Ok 20 elay kcode eI d 223 (0, [(0, (1, 0)), (1, (0, a)), (2, (0, n)), (3, (0, e))], [], w) (fun r w' => ∃ z : Int, r = [(0, z)] ∧ kRelF w' ∧ (km3 w w') ∧ rks6 w w') :=
  (e_Ok.both (k_223 hd q hAl g_a g_n g_e) (kq_223 hd q hAl g_a g_n g_e)).imp (fun r w' h => by
    obtain ⟨⟨z, h1, hF, e⟩, f⟩ := h
    exact ⟨z, h1, hF, e, f.r6⟩)
theorem ks6_224 {d : Nat} (hd : 460 ≤ d) {w : eW} (q : kRel w) (hAl : kAl w) {a : Int} (g_a : (-2147483648 ≤ a ∧ a ≤ 2147483647)) : e_Ok 20 elay kcode eI d 224 (0, [(0, (1, 0)), (1, (0, a))], [], w) (fun r w' => ∃ z : Int, r = [(0, z)] ∧ kRelF w' ∧ (km3 w w') ∧ rks6 w w') :=
  (e_Ok.both (k_224 hd q hAl g_a) (kq_224 hd q hAl g_a)).imp (fun r w' h => by
    obtain ⟨⟨z, h1, hF, e⟩, f⟩ := h
    exact ⟨z, h1, hF, e, f.r6⟩)
theorem ks6_225 {d : Nat} (hd : 460 ≤ d) {w : eW} (q : kRel w) (hAl : kAl w) {n : Int} (g_n : (-2147483648 ≤ n ∧ n ≤ 2147483647)) : e_Ok 20 elay kcode eI d 225 (0, [(0, (1, 0)), (1, (0, n))], [], w) (fun r w' => ∃ z : Int, r = [(0, z)] ∧ kRelF w' ∧ (km3 w w') ∧ rks6 w w') :=
  (e_Ok.both (k_225 hd q hAl g_n) (kq_225 hd q hAl g_n)).imp (fun r w' h => by
    obtain ⟨⟨z, h1, hF, e⟩, f⟩ := h
    exact ⟨z, h1, hF, e, f.r6⟩)
theorem ks6_226 {d : Nat} (hd : 460 ≤ d) {w : eW} (q : kRel w) (hAl : kAl w) : e_Ok 20 elay kcode eI d 226 (0, [(0, (1, 0))], [], w) (fun r w' => ∃ z : Int, r = [(0, z)] ∧ kRelF w' ∧ (km3 w w') ∧ rks6 w w') :=
  (e_Ok.both (k_226 hd q hAl ) (kq_226 hd q hAl )).imp (fun r w' h => by
    obtain ⟨⟨z, h1, hF, e⟩, f⟩ := h
    exact ⟨z, h1, hF, e, f.r6⟩)
theorem ks6_227 {d : Nat} (hd : 460 ≤ d) {w : eW} (q : kRel w) (hAl : kAl w) {a : Int} (g_a : (-2147483648 ≤ a ∧ a ≤ 2147483647)) {b : Int} (g_b : (-2147483648 ≤ b ∧ b ≤ 2147483647)) : e_Ok 20 elay kcode eI d 227 (0, [(0, (1, 0)), (1, (0, a)), (2, (0, b))], [], w) (fun r w' => ∃ z : Int, r = [(0, z)] ∧ kRelF w' ∧ (km3 w w') ∧ rks6 w w') :=
  (e_Ok.both (k_227 hd q hAl g_a g_b) (kq_227 hd q hAl g_a g_b)).imp (fun r w' h => by
    obtain ⟨⟨z, h1, hF, e⟩, f⟩ := h
    exact ⟨z, h1, hF, e, f.r6⟩)
theorem ks6_228 {d : Nat} (hd : 460 ≤ d) {w : eW} (q : kRel w) (hAl : kAl w) {a : Int} (g_a : (-2147483648 ≤ a ∧ a ≤ 2147483647)) {b : Int} (g_b : (-2147483648 ≤ b ∧ b ≤ 2147483647)) : e_Ok 20 elay kcode eI d 228 (0, [(0, (1, 0)), (1, (0, a)), (2, (0, b))], [], w) (fun r w' => ∃ z : Int, r = [(0, z)] ∧ kRelF w' ∧ (km3 w w') ∧ rks6 w w') :=
  (e_Ok.both (k_228 hd q hAl g_a g_b) (kq_228 hd q hAl g_a g_b)).imp (fun r w' h => by
    obtain ⟨⟨z, h1, hF, e⟩, f⟩ := h
    exact ⟨z, h1, hF, e, f.r6⟩)
theorem ks6_229 {d : Nat} (hd : 460 ≤ d) {w : eW} (q : kRel w) (hAl : kAl w) {a : Int} (g_a : (-2147483648 ≤ a ∧ a ≤ 2147483647)) {b : Int} (g_b : (-2147483648 ≤ b ∧ b ≤ 2147483647)) {c : Int} (g_c : (-2147483648 ≤ c ∧ c ≤ 2147483647)) : e_Ok 20 elay kcode eI d 229 (0, [(0, (1, 0)), (1, (0, a)), (2, (0, b)), (3, (0, c))], [], w) (fun r w' => ∃ z : Int, r = [(0, z)] ∧ kRelF w' ∧ (km3 w w') ∧ rks6 w w') :=
  (e_Ok.both (k_229 hd q hAl g_a g_b g_c) (kq_229 hd q hAl g_a g_b g_c)).imp (fun r w' h => by
    obtain ⟨⟨z, h1, hF, e⟩, f⟩ := h
    exact ⟨z, h1, hF, e, f.r6⟩)
theorem ks6_230 {d : Nat} (hd : 460 ≤ d) {w : eW} (q : kRel w) (hAl : kAl w) {a : Int} (g_a : (-2147483648 ≤ a ∧ a ≤ 2147483647)) {b : Int} (g_b : (-2147483648 ≤ b ∧ b ≤ 2147483647)) : e_Ok 20 elay kcode eI d 230 (0, [(0, (1, 0)), (1, (0, a)), (2, (0, b))], [], w) (fun r w' => ∃ z : Int, r = [(0, z)] ∧ kRelF w' ∧ (km3 w w') ∧ rks6 w w') :=
  (e_Ok.both (k_230 hd q hAl g_a g_b) (kq_230 hd q hAl g_a g_b)).imp (fun r w' h => by
    obtain ⟨⟨z, h1, hF, e⟩, f⟩ := h
    exact ⟨z, h1, hF, e, f.r6⟩)
theorem ks6_231 {d : Nat} (hd : 460 ≤ d) {w : eW} (q : kRel w) (hAl : kAl w) {a : Int} (g_a : (-2147483648 ≤ a ∧ a ≤ 2147483647)) {b : Int} (g_b : (-2147483648 ≤ b ∧ b ≤ 2147483647)) : e_Ok 20 elay kcode eI d 231 (0, [(0, (1, 0)), (1, (0, a)), (2, (0, b))], [], w) (fun r w' => ∃ z : Int, r = [(0, z)] ∧ kRelF w' ∧ (km3 w w') ∧ rks6 w w') :=
  (e_Ok.both (k_231 hd q hAl g_a g_b) (kq_231 hd q hAl g_a g_b)).imp (fun r w' h => by
    obtain ⟨⟨z, h1, hF, e⟩, f⟩ := h
    exact ⟨z, h1, hF, e, f.r6⟩)
theorem ks6_232 {d : Nat} (hd : 460 ≤ d) {w : eW} (q : kRel w) (hAl : kAl w) {a : Int} (g_a : (-2147483648 ≤ a ∧ a ≤ 2147483647)) {b : Int} (g_b : (-2147483648 ≤ b ∧ b ≤ 2147483647)) : e_Ok 20 elay kcode eI d 232 (0, [(0, (1, 0)), (1, (0, a)), (2, (0, b))], [], w) (fun r w' => ∃ z : Int, r = [(0, z)] ∧ kRelF w' ∧ (km3 w w') ∧ rks6 w w') :=
  (e_Ok.both (k_232 hd q hAl g_a g_b) (kq_232 hd q hAl g_a g_b)).imp (fun r w' h => by
    obtain ⟨⟨z, h1, hF, e⟩, f⟩ := h
    exact ⟨z, h1, hF, e, f.r6⟩)
theorem ks6_233 {d : Nat} (hd : 460 ≤ d) {w : eW} (q : kRel w) (hAl : kAl w) {a : Int} (g_a : (-2147483648 ≤ a ∧ a ≤ 2147483647)) {b : Int} (g_b : (-2147483648 ≤ b ∧ b ≤ 2147483647)) : e_Ok 20 elay kcode eI d 233 (0, [(0, (1, 0)), (1, (0, a)), (2, (0, b))], [], w) (fun r w' => ∃ z : Int, r = [(0, z)] ∧ kRelF w' ∧ (km3 w w') ∧ rks6 w w') :=
  (e_Ok.both (k_233 hd q hAl g_a g_b) (kq_233 hd q hAl g_a g_b)).imp (fun r w' h => by
    obtain ⟨⟨z, h1, hF, e⟩, f⟩ := h
    exact ⟨z, h1, hF, e, f.r6⟩)
theorem ks6_234 {d : Nat} (hd : 460 ≤ d) {w : eW} (q : kRel w) (hAl : kAl w) {a : Int} (g_a : (-2147483648 ≤ a ∧ a ≤ 2147483647)) : e_Ok 20 elay kcode eI d 234 (0, [(0, (1, 0)), (1, (0, a))], [], w) (fun r w' => ∃ z : Int, r = [(0, z)] ∧ kRelF w' ∧ (km3 w w') ∧ rks6 w w') :=
  (e_Ok.both (k_234 hd q hAl g_a) (kq_234 hd q hAl g_a)).imp (fun r w' h => by
    obtain ⟨⟨z, h1, hF, e⟩, f⟩ := h
    exact ⟨z, h1, hF, e, f.r6⟩)
theorem ks6_235 {d : Nat} (hd : 460 ≤ d) {w : eW} (q : kRel w) (hAl : kAl w) {a : Int} (g_a : (-2147483648 ≤ a ∧ a ≤ 2147483647)) {b : Int} (g_b : (-2147483648 ≤ b ∧ b ≤ 2147483647)) : e_Ok 20 elay kcode eI d 235 (0, [(0, (1, 0)), (1, (0, a)), (2, (0, b))], [], w) (fun r w' => ∃ z : Int, r = [(0, z)] ∧ kRelF w' ∧ (km3 w w') ∧ rks6 w w') :=
  (e_Ok.both (k_235 hd q hAl g_a g_b) (kq_235 hd q hAl g_a g_b)).imp (fun r w' h => by
    obtain ⟨⟨z, h1, hF, e⟩, f⟩ := h
    exact ⟨z, h1, hF, e, f.r6⟩)
theorem ks6_236 {d : Nat} (hd : 460 ≤ d) {w : eW} (q : kRel w) (hAl : kAl w) {a : Int} (g_a : (-2147483648 ≤ a ∧ a ≤ 2147483647)) : e_Ok 20 elay kcode eI d 236 (0, [(0, (1, 0)), (1, (0, a))], [], w) (fun r w' => ∃ z : Int, r = [(0, z)] ∧ kRelF w' ∧ (km3 w w') ∧ rks6 w w') :=
  (e_Ok.both (k_236 hd q hAl g_a) (kq_236 hd q hAl g_a)).imp (fun r w' h => by
    obtain ⟨⟨z, h1, hF, e⟩, f⟩ := h
    exact ⟨z, h1, hF, e, f.r6⟩)
theorem ks6_237 {d : Nat} (hd : 460 ≤ d) {w : eW} (q : kRel w) (hAl : kAl w) : e_Ok 20 elay kcode eI d 237 (0, [(0, (1, 0))], [], w) (fun r w' => ∃ z : Int, r = [(0, z)] ∧ kRelF w' ∧ (km3 w w') ∧ rks6 w w') :=
  (e_Ok.both (k_237 hd q hAl ) (kq_237 hd q hAl )).imp (fun r w' h => by
    obtain ⟨⟨z, h1, hF, e⟩, f⟩ := h
    exact ⟨z, h1, hF, e, f.r6⟩)
theorem ks6_238 {d : Nat} (hd : 460 ≤ d) {w : eW} (q : kRel w) (hAl : kAl w) {a : Int} (g_a : (-2147483648 ≤ a ∧ a ≤ 2147483647)) {b : Int} (g_b : (-2147483648 ≤ b ∧ b ≤ 2147483647)) : e_Ok 20 elay kcode eI d 238 (0, [(0, (1, 0)), (1, (0, a)), (2, (0, b))], [], w) (fun r w' => ∃ z : Int, r = [(0, z)] ∧ kRelF w' ∧ (km3 w w') ∧ rks6 w w') :=
  (e_Ok.both (k_238 hd q hAl g_a g_b) (kq_238 hd q hAl g_a g_b)).imp (fun r w' h => by
    obtain ⟨⟨z, h1, hF, e⟩, f⟩ := h
    exact ⟨z, h1, hF, e, f.r6⟩)
theorem ks6_239 {d : Nat} (hd : 460 ≤ d) {w : eW} (q : kRel w) (hAl : kAl w) {a : Int} (g_a : (-2147483648 ≤ a ∧ a ≤ 2147483647)) {b : Int} (g_b : (-2147483648 ≤ b ∧ b ≤ 2147483647)) : e_Ok 20 elay kcode eI d 239 (0, [(0, (1, 0)), (1, (0, a)), (2, (0, b))], [], w) (fun r w' => ∃ z : Int, r = [(0, z)] ∧ kRelF w' ∧ (km3 w w') ∧ rks6 w w') :=
  (e_Ok.both (k_239 hd q hAl g_a g_b) (kq_239 hd q hAl g_a g_b)).imp (fun r w' h => by
    obtain ⟨⟨z, h1, hF, e⟩, f⟩ := h
    exact ⟨z, h1, hF, e, f.r6⟩)
theorem ks6_240 {d : Nat} (hd : 460 ≤ d) {w : eW} (q : kRel w) (hAl : kAl w) {a : Int} (g_a : (-2147483648 ≤ a ∧ a ≤ 2147483647)) : e_Ok 20 elay kcode eI d 240 (0, [(0, (1, 0)), (1, (0, a))], [], w) (fun r w' => ∃ z : Int, r = [(0, z)] ∧ kRelF w' ∧ (km3 w w') ∧ rks6 w w') :=
  (e_Ok.both (k_240 hd q hAl g_a) (kq_240 hd q hAl g_a)).imp (fun r w' h => by
    obtain ⟨⟨z, h1, hF, e⟩, f⟩ := h
    exact ⟨z, h1, hF, e, f.r6⟩)
theorem ks6_241 {d : Nat} (hd : 460 ≤ d) {w : eW} (q : kRel w) (hAl : kAl w) {a : Int} (g_a : (-2147483648 ≤ a ∧ a ≤ 2147483647)) : e_Ok 20 elay kcode eI d 241 (0, [(0, (1, 0)), (1, (0, a))], [], w) (fun r w' => ∃ z : Int, r = [(0, z)] ∧ kRelF w' ∧ (km3 w w') ∧ rks6 w w') :=
  (e_Ok.both (k_241 hd q hAl g_a) (kq_241 hd q hAl g_a)).imp (fun r w' h => by
    obtain ⟨⟨z, h1, hF, e⟩, f⟩ := h
    exact ⟨z, h1, hF, e, f.r6⟩)
theorem ms6_274 {d : Nat} (hd : 21 ≤ d) {w : eW} (h : mRel w) {a b c e f : Int} : e_Ok 20 elay ecode eI d 274 (0, [(0, (1, 275)), (1, (0, a)), (2, (0, b)), (3, (0, c)), (4, (0, e)), (5, (0, f))], [], w) (fun r w' => ∃ z : Int, r = [(0, z)] ∧ mRel w' ∧ (w' 275 3 = w 275 3 ∧ w' 275 10 = w 275 10 ∧ ((w 275 9 ≤ 3980 ∧ z = w 275 9 + 20 ∧ w' 275 9 = w 275 9 + 20) ∨ (3980 < w 275 9 ∧ z = -3 ∧ w' 275 9 = w 275 9))) ∧ rms6 w w') :=
  (e_Ok.both (m_274 hd h ) (mz_274 hd h )).imp (fun r w' q => by
    obtain ⟨⟨z, h1, hF, e⟩, f⟩ := q
    exact ⟨z, h1, hF, e, f.r6⟩)
theorem ms6_276 {d : Nat} (hd : 21 ≤ d) {w : eW} (h : mRel w) {a : Int} : e_Ok 20 elay ecode eI d 276 (0, [(0, (1, 275)), (1, (0, a))], [], w) (fun r w' => ∃ z : Int, r = [(0, z)] ∧ mRel w' ∧ (w' 275 3 = w 275 3 ∧ w' 275 10 = w 275 10 ∧ ((0 ≤ a ∧ a ≤ w 275 9 ∧ z = w 275 9 - a ∧ w' 275 9 = w 275 9 - a) ∨ ((a < 0 ∨ w 275 9 < a) ∧ z = -1 ∧ w' 275 9 = w 275 9))) ∧ rms6 w w') :=
  (e_Ok.both (m_276 hd h ) (mz_276 hd h )).imp (fun r w' q => by
    obtain ⟨⟨z, h1, hF, e⟩, f⟩ := q
    exact ⟨z, h1, hF, e, f.r6⟩)
theorem ms6_281 {d : Nat} (hd : 24 ≤ d) {w : eW} (h : mRel w) {p1 p2 p3 p4 : Int} (g1 : -2147483648 ≤ p1 ∧ p1 ≤ 2147483647) (g2 : -2147483648 ≤ p2 ∧ p2 ≤ 2147483647) (g3 : -2147483648 ≤ p3 ∧ p3 ≤ 2147483647) (g4 : -2147483648 ≤ p4 ∧ p4 ≤ 2147483647) : e_Ok 20 elay ecode eI d 281 (0, [(0, (1, 275)), (1, (0, p1)), (2, (0, p2)), (3, (0, p3)), (4, (0, p4))], [], w) (fun r w' => ∃ z : Int, r = [(0, z)] ∧ mRel w' ∧ (sm3 w w') ∧ rms6 w w') :=
  (e_Ok.both (m_281 hd h g1 g2 g3 g4) (mz_281 hd h g1 g2 g3 g4)).imp (fun r w' q => by
    obtain ⟨⟨z, h1, hF, e⟩, f⟩ := q
    exact ⟨z, h1, hF, e, fun c k y => f c k (fun g => by unfold rM6 at y; unfold mF at g; omega)⟩)
theorem ms6_283 {d : Nat} (hd : 26 ≤ d) {w : eW} (h : mRel w) {p1 p2 p3 : Int} (g1 : -2147483648 ≤ p1 ∧ p1 ≤ 2147483647) (g2 : -2147483648 ≤ p2 ∧ p2 ≤ 2147483647) (g3 : -2147483648 ≤ p3 ∧ p3 ≤ 2147483647) : e_Ok 20 elay ecode eI d 283 (0, [(0, (1, 275)), (1, (0, p1)), (2, (0, p2)), (3, (0, p3))], [], w) (fun r w' => ∃ z : Int, r = [(0, z)] ∧ mRel w' ∧ (sm3 w w') ∧ rms6 w w') :=
  (e_Ok.both (m_283 hd h g1 g2 g3) (mz_283 hd h g1 g2 g3)).imp (fun r w' q => by
    obtain ⟨⟨z, h1, hF, e⟩, f⟩ := q
    exact ⟨z, h1, hF, e, fun c k y => f c k (fun g => by unfold rM6 at y; unfold mF at g; omega)⟩)
theorem ms6_284 {d : Nat} (hd : 26 ≤ d) {w : eW} (h : mRel w) {p1 p2 p3 p4 : Int} (g1 : -2147483648 ≤ p1 ∧ p1 ≤ 2147483647) (g2 : -2147483648 ≤ p2 ∧ p2 ≤ 2147483647) (g3 : -2147483648 ≤ p3 ∧ p3 ≤ 2147483647) (g4 : -2147483648 ≤ p4 ∧ p4 ≤ 2147483647) : e_Ok 20 elay ecode eI d 284 (0, [(0, (1, 275)), (1, (0, p1)), (2, (0, p2)), (3, (0, p3)), (4, (0, p4))], [], w) (fun r w' => ∃ z : Int, r = [(0, z)] ∧ mRel w' ∧ (sm3 w w') ∧ rms6 w w') :=
  (e_Ok.both (m_284 hd h g1 g2 g3 g4) (mz_284 hd h g1 g2 g3 g4)).imp (fun r w' q => by
    obtain ⟨⟨z, h1, hF, e⟩, f⟩ := q
    exact ⟨z, h1, hF, e, fun c k y => f c k (fun g => by unfold rM6 at y; unfold mF at g; omega)⟩)
theorem ms6_285 {d : Nat} (hd : 24 ≤ d) {w : eW} (h : mRel w) {p1 p2 p3 : Int} (g1 : -2147483648 ≤ p1 ∧ p1 ≤ 2147483647) (g2 : -2147483648 ≤ p2 ∧ p2 ≤ 2147483647) (g3 : -2147483648 ≤ p3 ∧ p3 ≤ 2147483647) : e_Ok 20 elay ecode eI d 285 (0, [(0, (1, 275)), (1, (0, p1)), (2, (0, p2)), (3, (0, p3))], [], w) (fun r w' => ∃ z : Int, r = [(0, z)] ∧ mRel w' ∧ (sm3 w w') ∧ rms6 w w') :=
  (e_Ok.both (m_285 hd h g1 g2 g3) (mz_285 hd h g1 g2 g3)).imp (fun r w' q => by
    obtain ⟨⟨z, h1, hF, e⟩, f⟩ := q
    exact ⟨z, h1, hF, e, fun c k y => f c k (fun g => by unfold rM6 at y; unfold mF at g; omega)⟩)
theorem ms6_286 {d : Nat} (hd : 24 ≤ d) {w : eW} (h : mRel w) {p1 p2 p3 p4 p5 : Int} (g1 : -2147483648 ≤ p1 ∧ p1 ≤ 2147483647) (g2 : -2147483648 ≤ p2 ∧ p2 ≤ 2147483647) (g3 : -2147483648 ≤ p3 ∧ p3 ≤ 2147483647) (g4 : -2147483648 ≤ p4 ∧ p4 ≤ 2147483647) (g5 : -2147483648 ≤ p5 ∧ p5 ≤ 2147483647) : e_Ok 20 elay ecode eI d 286 (0, [(0, (1, 275)), (1, (0, p1)), (2, (0, p2)), (3, (0, p3)), (4, (0, p4)), (5, (0, p5))], [], w) (fun r w' => ∃ z : Int, r = [(0, z)] ∧ mRel w' ∧ (sm3 w w') ∧ rms6 w w') :=
  (e_Ok.both (m_286 hd h g1 g2 g3 g4 g5) (mz_286 hd h g1 g2 g3 g4 g5)).imp (fun r w' q => by
    obtain ⟨⟨z, h1, hF, e⟩, f⟩ := q
    exact ⟨z, h1, hF, e, fun c k y => f c k (fun g => by unfold rM6 at y; unfold mF at g; omega)⟩)
theorem ms6_287 {d : Nat} (hd : 24 ≤ d) {w : eW} (h : mRel w) {p1 p2 : Int} (g1 : -2147483648 ≤ p1 ∧ p1 ≤ 2147483647) (g2 : -2147483648 ≤ p2 ∧ p2 ≤ 2147483647) : e_Ok 20 elay ecode eI d 287 (0, [(0, (1, 275)), (1, (0, p1)), (2, (0, p2))], [], w) (fun r w' => ∃ z : Int, r = [(0, z)] ∧ mRel w' ∧ (sm3 w w') ∧ rms6 w w') :=
  (e_Ok.both (m_287 hd h g1 g2) (mz_287 hd h g1 g2)).imp (fun r w' q => by
    obtain ⟨⟨z, h1, hF, e⟩, f⟩ := q
    exact ⟨z, h1, hF, e, fun c k y => f c k (fun g => by unfold rM6 at y; unfold mF at g; omega)⟩)
theorem ms6_288 {d : Nat} (hd : 24 ≤ d) {w : eW} (h : mRel w) {p1 p2 p3 p4 : Int} (g1 : -2147483648 ≤ p1 ∧ p1 ≤ 2147483647) (g2 : -2147483648 ≤ p2 ∧ p2 ≤ 2147483647) (g3 : -2147483648 ≤ p3 ∧ p3 ≤ 2147483647) (g4 : -2147483648 ≤ p4 ∧ p4 ≤ 2147483647) : e_Ok 20 elay ecode eI d 288 (0, [(0, (1, 275)), (1, (0, p1)), (2, (0, p2)), (3, (0, p3)), (4, (0, p4))], [], w) (fun r w' => ∃ z : Int, r = [(0, z)] ∧ mRel w' ∧ (sm3 w w') ∧ rms6 w w') :=
  (e_Ok.both (m_288 hd h g1 g2 g3 g4) (mz_288 hd h g1 g2 g3 g4)).imp (fun r w' q => by
    obtain ⟨⟨z, h1, hF, e⟩, f⟩ := q
    exact ⟨z, h1, hF, e, fun c k y => f c k (fun g => by unfold rM6 at y; unfold mF at g; omega)⟩)
theorem ms6_289 {d : Nat} (hd : 24 ≤ d) {w : eW} (h : mRel w) {p1 p2 p3 : Int} (g1 : -2147483648 ≤ p1 ∧ p1 ≤ 2147483647) (g2 : -2147483648 ≤ p2 ∧ p2 ≤ 2147483647) (g3 : -2147483648 ≤ p3 ∧ p3 ≤ 2147483647) : e_Ok 20 elay ecode eI d 289 (0, [(0, (1, 275)), (1, (0, p1)), (2, (0, p2)), (3, (0, p3))], [], w) (fun r w' => ∃ z : Int, r = [(0, z)] ∧ mRel w' ∧ (sm3 w w') ∧ rms6 w w') :=
  (e_Ok.both (m_289 hd h g1 g2 g3) (mz_289 hd h g1 g2 g3)).imp (fun r w' q => by
    obtain ⟨⟨z, h1, hF, e⟩, f⟩ := q
    exact ⟨z, h1, hF, e, fun c k y => f c k (fun g => by unfold rM6 at y; unfold mPr at g; omega)⟩)
theorem ms6_290 {d : Nat} (hd : 24 ≤ d) {w : eW} (h : mRel w) {p1 p2 p3 : Int} (g1 : -2147483648 ≤ p1 ∧ p1 ≤ 2147483647) (g2 : -2147483648 ≤ p2 ∧ p2 ≤ 2147483647) (g3 : -2147483648 ≤ p3 ∧ p3 ≤ 2147483647) : e_Ok 20 elay ecode eI d 290 (0, [(0, (1, 275)), (1, (0, p1)), (2, (0, p2)), (3, (0, p3))], [], w) (fun r w' => ∃ z : Int, r = [(0, z)] ∧ mRel w' ∧ (sm3 w w') ∧ rms6 w w') :=
  (e_Ok.both (m_290 hd h g1 g2 g3) (mz_290 hd h g1 g2 g3)).imp (fun r w' q => by
    obtain ⟨⟨z, h1, hF, e⟩, f⟩ := q
    exact ⟨z, h1, hF, e, fun c k y => f c k (fun g => by unfold rM6 at y; unfold mPr at g; omega)⟩)
theorem ms6_291 {d : Nat} (hd : 24 ≤ d) {w : eW} (h : mRel w) {p1 p2 p3 p4 p5 : Int} (g1 : -2147483648 ≤ p1 ∧ p1 ≤ 2147483647) (g2 : -2147483648 ≤ p2 ∧ p2 ≤ 2147483647) (g3 : -2147483648 ≤ p3 ∧ p3 ≤ 2147483647) (g4 : -2147483648 ≤ p4 ∧ p4 ≤ 2147483647) (g5 : -2147483648 ≤ p5 ∧ p5 ≤ 2147483647) : e_Ok 20 elay ecode eI d 291 (0, [(0, (1, 275)), (1, (0, p1)), (2, (0, p2)), (3, (0, p3)), (4, (0, p4)), (5, (0, p5))], [], w) (fun r w' => ∃ z : Int, r = [(0, z)] ∧ mRel w' ∧ (sm3 w w') ∧ rms6 w w') :=
  (e_Ok.both (m_291 hd h g1 g2 g3 g4 g5) (mz_291 hd h g1 g2 g3 g4 g5)).imp (fun r w' q => by
    obtain ⟨⟨z, h1, hF, e⟩, f⟩ := q
    exact ⟨z, h1, hF, e, fun c k y => f c k (fun g => by unfold rM6 at y; unfold mF at g; omega)⟩)
theorem ms6_292 {d : Nat} (hd : 24 ≤ d) {w : eW} (h : mRel w) {p1 p2 : Int} (g1 : -2147483648 ≤ p1 ∧ p1 ≤ 2147483647) (g2 : -2147483648 ≤ p2 ∧ p2 ≤ 2147483647) : e_Ok 20 elay ecode eI d 292 (0, [(0, (1, 275)), (1, (0, p1)), (2, (0, p2))], [], w) (fun r w' => ∃ z : Int, r = [(0, z)] ∧ mRel w' ∧ (sm3 w w') ∧ rms6 w w') :=
  (e_Ok.both (m_292 hd h g1 g2) (mz_292 hd h g1 g2)).imp (fun r w' q => by
    obtain ⟨⟨z, h1, hF, e⟩, f⟩ := q
    exact ⟨z, h1, hF, e, fun c k y => f c k (fun g => by unfold rM6 at y; unfold mF at g; omega)⟩)
theorem ms6_293 {d : Nat} (hd : 24 ≤ d) {w : eW} (h : mRel w) {p1 : Int} (g1 : -2147483648 ≤ p1 ∧ p1 ≤ 2147483647) : e_Ok 20 elay ecode eI d 293 (0, [(0, (1, 275)), (1, (0, p1))], [], w) (fun r w' => ∃ z : Int, r = [(0, z)] ∧ mRel w' ∧ (sm3 w w') ∧ rms6 w w') :=
  (e_Ok.both (m_293 hd h g1) (mz_293 hd h g1)).imp (fun r w' q => by
    obtain ⟨⟨z, h1, hF, e⟩, f⟩ := q
    exact ⟨z, h1, hF, e, fun c k y => f c k (fun g => by unfold rM6 at y; unfold mF at g; omega)⟩)
theorem ms6_294 {d : Nat} (hd : 24 ≤ d) {w : eW} (h : mRel w) {p1 p2 : Int} (g1 : -2147483648 ≤ p1 ∧ p1 ≤ 2147483647) (g2 : 0 ≤ p2 ∧ p2 ≤ 1) : e_Ok 20 elay ecode eI d 294 (0, [(0, (1, 275)), (1, (0, p1)), (2, (0, p2))], [], w) (fun r w' => ∃ z : Int, r = [(0, z)] ∧ mRel w' ∧ (sm3 w w') ∧ rms6 w w') :=
  (e_Ok.both (m_294 hd h g1 g2) (mz_294 hd h g1 g2)).imp (fun r w' q => by
    obtain ⟨⟨z, h1, hF, e⟩, f⟩ := q
    exact ⟨z, h1, hF, e, fun c k y => f c k (fun g => by unfold rM6 at y; unfold mF at g; omega)⟩)
theorem ms6_295 {d : Nat} (hd : 22 ≤ d) {w : eW} (h : mRel w) {p1 p2 p3 : Int} (g1 : -2147483648 ≤ p1 ∧ p1 ≤ 2147483647) (g2 : -2147483648 ≤ p2 ∧ p2 ≤ 2147483647) (g3 : 0 ≤ p3 ∧ p3 ≤ 1) : e_Ok 20 elay ecode eI d 295 (0, [(0, (1, 275)), (1, (0, p1)), (2, (0, p2)), (3, (0, p3))], [], w) (fun r w' => ∃ z : Int, r = [(0, z)] ∧ mRel w' ∧ (sm3 w w') ∧ rms6 w w') :=
  (e_Ok.both (m_295 hd h g1 g2 g3) (mz_295 hd h g1 g2 g3)).imp (fun r w' q => by
    obtain ⟨⟨z, h1, hF, e⟩, f⟩ := q
    exact ⟨z, h1, hF, e, fun c k y => f c k (fun g => by unfold rM6 at y; unfold mF at g; omega)⟩)
theorem ms6_296 {d : Nat} (hd : 25 ≤ d) {w : eW} (h : mRel w) : e_Ok 20 elay ecode eI d 296 (0, [(0, (1, 275))], [], w) (fun r w' => ∃ z : Int, r = [(0, z)] ∧ mRel w' ∧ (w' 275 3 = 1 ∧ w' 275 9 = w 275 9 ∧ w' 275 10 = w 275 10) ∧ rms6 w w') :=
  (e_Ok.both (m_296 hd h ) (mz_296 hd h )).imp (fun r w' q => by
    obtain ⟨⟨z, h1, hF, e⟩, f⟩ := q
    exact ⟨z, h1, hF, e, f.r6⟩)
theorem ms6_318 {d : Nat} (hd : 27 ≤ d) {w : eW} (h : mRel w) {p1 p2 : Int} (g1 : -2147483648 ≤ p1 ∧ p1 ≤ 2147483647) (g2 : -2147483648 ≤ p2 ∧ p2 ≤ 2147483647) : e_Ok 20 elay ecode eI d 318 (0, [(0, (1, 275)), (1, (0, p1)), (2, (0, p2))], [], w) (fun r w' => ∃ z : Int, r = [(0, z)] ∧ mRel w' ∧ (sm3 w w') ∧ rms6 w w') :=
  (e_Ok.both (m_318 hd h g1 g2) (mz_318 hd h g1 g2)).imp (fun r w' q => by
    obtain ⟨⟨z, h1, hF, e⟩, f⟩ := q
    exact ⟨z, h1, hF, e, f.r6⟩)
theorem ms6_357 {d : Nat} (hd : 424 ≤ d) {w : eW} (h : mRel w) {p1 : Int} (g1 : -2147483648 ≤ p1 ∧ p1 ≤ 2147483647) : e_Ok 20 elay ecode eI d 357 (0, [(0, (1, 275)), (1, (0, p1))], [], w) (fun r w' => ∃ z : Int, r = [(0, z)] ∧ mRel w' ∧ (w' 275 3 = w 275 3 ∧ w' 275 10 = w 275 10 ∧ ((w = w' ∧ ¬ (w 275 3 = 0 ∧ 0 ≤ p1 ∧ p1 < w 275 10)) ∨ (w 275 3 = 0 ∧ (0 ≤ p1 ∧ p1 < w 275 10) ∧ w' 275 9 = 0))) ∧ rms6 w w') :=
  (e_Ok.both (m_357 hd h g1) (mz_357 hd h g1)).imp (fun r w' q => by
    obtain ⟨⟨z, h1, hF, e⟩, f⟩ := q
    exact ⟨z, h1, hF, e, f.r6⟩)
theorem ms6_358 {d : Nat} (hd : 23 ≤ d) {w : eW} (h : mRel w) {p1 : Int} (g1 : -2147483648 ≤ p1 ∧ p1 ≤ 2147483647) : e_Ok 20 elay ecode eI d 358 (0, [(0, (1, 275)), (1, (0, p1))], [], w) (fun r w' => ∃ z : Int, r = [(0, z)] ∧ mRel w' ∧ (sm3 w w') ∧ rms6 w w') :=
  (e_Ok.both (m_358 hd h g1) (mz_358 hd h g1)).imp (fun r w' q => by
    obtain ⟨⟨z, h1, hF, e⟩, f⟩ := q
    exact ⟨z, h1, hF, e, f.r6⟩)
theorem ms6_418 {d : Nat} (hd : 33 ≤ d) {w : eW} (h : mRel w) {p1 p2 p3 : Int} (g1 : -2147483648 ≤ p1 ∧ p1 ≤ 2147483647) (g2 : -2147483648 ≤ p2 ∧ p2 ≤ 2147483647) (g3 : -2147483648 ≤ p3 ∧ p3 ≤ 2147483647) : e_Ok 20 elay ecode eI d 418 (0, [(0, (1, 275)), (1, (0, p1)), (2, (0, p2)), (3, (0, p3))], [], w) (fun r w' => ∃ z : Int, r = [(0, z)] ∧ mRelF w' ∧ (sm3 w w') ∧ rms6 w w') :=
  (e_Ok.both (m_418 hd h g1 g2 g3) (mz_418 hd h g1 g2 g3)).imp (fun r w' q => by
    obtain ⟨⟨z, h1, hF, e⟩, f⟩ := q
    exact ⟨z, h1, hF, e, f.r6⟩)
theorem ms6_419 {d : Nat} (hd : 27 ≤ d) {w : eW} (h : mRel w) {p1 : Int} (g1 : -2147483648 ≤ p1 ∧ p1 ≤ 2147483647) : e_Ok 20 elay ecode eI d 419 (0, [(0, (1, 275)), (1, (0, p1))], [], w) (fun r w' => ∃ z : Int, r = [(0, z)] ∧ mRelF w' ∧ (sm3 w w') ∧ rms6 w w') :=
  (e_Ok.both (m_419 hd h g1) (mz_419 hd h g1)).imp (fun r w' q => by
    obtain ⟨⟨z, h1, hF, e⟩, f⟩ := q
    exact ⟨z, h1, hF, e, f.r6⟩)
theorem ms6_425 {d : Nat} (hd : 27 ≤ d) {w : eW} (h : mRel w) {p1 p2 : Int} (g1 : -2147483648 ≤ p1 ∧ p1 ≤ 2147483647) (g2 : -2147483648 ≤ p2 ∧ p2 ≤ 2147483647) : e_Ok 20 elay ecode eI d 425 (0, [(0, (1, 275)), (1, (0, p1)), (2, (0, p2))], [], w) (fun r w' => ∃ z : Int, r = [(0, z)] ∧ mRelF w' ∧ (sm3 w w') ∧ rms6 w w') :=
  (e_Ok.both (m_425 hd h g1 g2) (mz_425 hd h g1 g2)).imp (fun r w' q => by
    obtain ⟨⟨z, h1, hF, e⟩, f⟩ := q
    exact ⟨z, h1, hF, e, f.r6⟩)
theorem ms6_426 {d : Nat} (hd : 45 ≤ d) {w : eW} (h : mRel w) {p1 : Int} (g1 : -2147483648 ≤ p1 ∧ p1 ≤ 2147483647) : e_Ok 20 elay ecode eI d 426 (0, [(0, (1, 275)), (1, (0, p1))], [], w) (fun r w' => ∃ z : Int, r = [(0, z)] ∧ mRelF w' ∧ (sm3 w w') ∧ rms6 w w') :=
  (e_Ok.both (m_426 hd h g1) (mz_426 hd h g1)).imp (fun r w' q => by
    obtain ⟨⟨z, h1, hF, e⟩, f⟩ := q
    exact ⟨z, h1, hF, e, f.r6⟩)
theorem ms6_427 {d : Nat} (hd : 25 ≤ d) {w : eW} (h : mRel w) {p1 p2 : Int} (g1 : -2147483648 ≤ p1 ∧ p1 ≤ 2147483647) (g2 : -2147483648 ≤ p2 ∧ p2 ≤ 2147483647) : e_Ok 20 elay ecode eI d 427 (0, [(0, (1, 275)), (1, (0, p1)), (2, (0, p2))], [], w) (fun r w' => ∃ z : Int, r = [(0, z)] ∧ mRelF w' ∧ (sm3 w w') ∧ rms6 w w') :=
  (e_Ok.both (m_427 hd h g1 g2) (mz_427 hd h g1 g2)).imp (fun r w' q => by
    obtain ⟨⟨z, h1, hF, e⟩, f⟩ := q
    exact ⟨z, h1, hF, e, f.r6⟩)
theorem ms6_428 {d : Nat} (hd : 27 ≤ d) {w : eW} (h : mRel w) {p1 p2 p3 : Int} (g1 : -2147483648 ≤ p1 ∧ p1 ≤ 2147483647) (g2 : -2147483648 ≤ p2 ∧ p2 ≤ 2147483647) (g3 : -2147483648 ≤ p3 ∧ p3 ≤ 2147483647) (hz3 : 0 ≤ p3 ∧ p3 ≤ 1) : e_Ok 20 elay ecode eI d 428 (0, [(0, (1, 275)), (1, (0, p1)), (2, (0, p2)), (3, (0, p3))], [], w) (fun r w' => ∃ z : Int, r = [(0, z)] ∧ mRelF w' ∧ (sm3 w w') ∧ rms6 w w') :=
  (e_Ok.both (m_428 hd h g1 g2 g3 hz3) (mz_428 hd h g1 g2 g3 hz3)).imp (fun r w' q => by
    obtain ⟨⟨z, h1, hF, e⟩, f⟩ := q
    exact ⟨z, h1, hF, e, f.r6⟩)
theorem ms6_429 {d : Nat} (hd : 25 ≤ d) {w : eW} (h : mRel w) {p1 p2 p3 : Int} (g1 : -2147483648 ≤ p1 ∧ p1 ≤ 2147483647) (g2 : -2147483648 ≤ p2 ∧ p2 ≤ 2147483647) (g3 : -2147483648 ≤ p3 ∧ p3 ≤ 2147483647) (hz2 : 0 ≤ p2 ∧ p2 ≤ 1) (hz3 : 0 ≤ p3 ∧ p3 ≤ 1) : e_Ok 20 elay ecode eI d 429 (0, [(0, (1, 275)), (1, (0, p1)), (2, (0, p2)), (3, (0, p3))], [], w) (fun r w' => ∃ z : Int, r = [(0, z)] ∧ mRelF w' ∧ (sm3 w w') ∧ rms6 w w') :=
  (e_Ok.both (m_429 hd h g1 g2 g3 hz2 hz3) (mz_429 hd h g1 g2 g3 hz2 hz3)).imp (fun r w' q => by
    obtain ⟨⟨z, h1, hF, e⟩, f⟩ := q
    exact ⟨z, h1, hF, e, f.r6⟩)
theorem ms6_430 {d : Nat} (hd : 27 ≤ d) {w : eW} (h : mRel w) {p1 : Int} (g1 : -2147483648 ≤ p1 ∧ p1 ≤ 2147483647) : e_Ok 20 elay ecode eI d 430 (0, [(0, (1, 275)), (1, (0, p1))], [], w) (fun r w' => ∃ z : Int, r = [(0, z)] ∧ mRelF w' ∧ (sm3 w w') ∧ rms6 w w') :=
  (e_Ok.both (m_430 hd h g1) (mz_430 hd h g1)).imp (fun r w' q => by
    obtain ⟨⟨z, h1, hF, e⟩, f⟩ := q
    exact ⟨z, h1, hF, e, f.r6⟩)
theorem ms6_431 {d : Nat} (hd : 27 ≤ d) {w : eW} (h : mRel w) {p1 : Int} (g1 : -2147483648 ≤ p1 ∧ p1 ≤ 2147483647) : e_Ok 20 elay ecode eI d 431 (0, [(0, (1, 275)), (1, (0, p1))], [], w) (fun r w' => ∃ z : Int, r = [(0, z)] ∧ mRelF w' ∧ (sm3 w w') ∧ rms6 w w') :=
  (e_Ok.both (m_431 hd h g1) (mz_431 hd h g1)).imp (fun r w' q => by
    obtain ⟨⟨z, h1, hF, e⟩, f⟩ := q
    exact ⟨z, h1, hF, e, f.r6⟩)
theorem ms6_432 {d : Nat} (hd : 25 ≤ d) {w : eW} (h : mRel w) {p1 : Int} (g1 : -2147483648 ≤ p1 ∧ p1 ≤ 2147483647) : e_Ok 20 elay ecode eI d 432 (0, [(0, (1, 275)), (1, (0, p1))], [], w) (fun r w' => ∃ z : Int, r = [(0, z)] ∧ mRelF w' ∧ (sm3 w w') ∧ rms6 w w') :=
  (e_Ok.both (m_432 hd h g1) (mz_432 hd h g1)).imp (fun r w' q => by
    obtain ⟨⟨z, h1, hF, e⟩, f⟩ := q
    exact ⟨z, h1, hF, e, f.r6⟩)
theorem ms6_433 {d : Nat} (hd : 27 ≤ d) {w : eW} (h : mRel w) {p1 p2 p3 : Int} (g1 : -2147483648 ≤ p1 ∧ p1 ≤ 2147483647) (g2 : -2147483648 ≤ p2 ∧ p2 ≤ 2147483647) (g3 : -2147483648 ≤ p3 ∧ p3 ≤ 2147483647) : e_Ok 20 elay ecode eI d 433 (0, [(0, (1, 275)), (1, (0, p1)), (2, (0, p2)), (3, (0, p3))], [], w) (fun r w' => ∃ z : Int, r = [(0, z)] ∧ mRelF w' ∧ (sm3 w w') ∧ rms6 w w') :=
  (e_Ok.both (m_433 hd h g1 g2 g3) (mz_433 hd h g1 g2 g3)).imp (fun r w' q => by
    obtain ⟨⟨z, h1, hF, e⟩, f⟩ := q
    exact ⟨z, h1, hF, e, f.r6⟩)
theorem ms6_434 {d : Nat} (hd : 25 ≤ d) {w : eW} (h : mRel w) {p1 p2 : Int} (g1 : -2147483648 ≤ p1 ∧ p1 ≤ 2147483647) (g2 : -2147483648 ≤ p2 ∧ p2 ≤ 2147483647) : e_Ok 20 elay ecode eI d 434 (0, [(0, (1, 275)), (1, (0, p1)), (2, (0, p2))], [], w) (fun r w' => ∃ z : Int, r = [(0, z)] ∧ mRelF w' ∧ (sm3 w w') ∧ rms6 w w') :=
  (e_Ok.both (m_434 hd h g1 g2) (mz_434 hd h g1 g2)).imp (fun r w' q => by
    obtain ⟨⟨z, h1, hF, e⟩, f⟩ := q
    exact ⟨z, h1, hF, e, f.r6⟩)
theorem ms6_436 {d : Nat} (hd : 49 ≤ d) {w : eW} (h : mRel w) {p1 : Int} (g1 : -2147483648 ≤ p1 ∧ p1 ≤ 2147483647) : e_Ok 20 elay ecode eI d 436 (0, [(0, (1, 275)), (1, (0, p1))], [], w) (fun r w' => ∃ z : Int, r = [(0, z)] ∧ mRelF w' ∧ (sm3 w w') ∧ rms6 w w') :=
  (e_Ok.both (m_436 hd h g1) (mz_436 hd h g1)).imp (fun r w' q => by
    obtain ⟨⟨z, h1, hF, e⟩, f⟩ := q
    exact ⟨z, h1, hF, e, f.r6⟩)
theorem ms6_437 {d : Nat} (hd : 23 ≤ d) {w : eW} (h : mRel w) : e_Ok 20 elay ecode eI d 437 (0, [(0, (1, 275))], [], w) (fun r w' => ∃ z : Int, r = [(0, z)] ∧ mRel w' ∧ (sm3 w w') ∧ rms6 w w') :=
  (e_Ok.both (m_437 hd h ) (mz_437 hd h )).imp (fun r w' q => by
    obtain ⟨⟨z, h1, hF, e⟩, f⟩ := q
    exact ⟨z, h1, hF, e, f.r6⟩)
theorem ms6_438 {d : Nat} (hd : 23 ≤ d) {w : eW} (h : mRel w) {p1 p2 : Int} (g1 : -2147483648 ≤ p1 ∧ p1 ≤ 2147483647) (g2 : -2147483648 ≤ p2 ∧ p2 ≤ 2147483647) : e_Ok 20 elay ecode eI d 438 (0, [(0, (1, 275)), (1, (0, p1)), (2, (0, p2))], [], w) (fun r w' => ∃ z : Int, r = [(0, z)] ∧ mRel w' ∧ (sm3 w w') ∧ rms6 w w') :=
  (e_Ok.both (m_438 hd h g1 g2) (mz_438 hd h g1 g2)).imp (fun r w' q => by
    obtain ⟨⟨z, h1, hF, e⟩, f⟩ := q
    exact ⟨z, h1, hF, e, f.r6⟩)
theorem ms6_439 {d : Nat} (hd : 23 ≤ d) {w : eW} (h : mRel w) {p1 p2 : Int} (g1 : -2147483648 ≤ p1 ∧ p1 ≤ 2147483647) (g2 : -2147483648 ≤ p2 ∧ p2 ≤ 2147483647) : e_Ok 20 elay ecode eI d 439 (0, [(0, (1, 275)), (1, (0, p1)), (2, (0, p2))], [], w) (fun r w' => ∃ z : Int, r = [(0, z)] ∧ mRel w' ∧ (sm3 w w') ∧ rms6 w w') :=
  (e_Ok.both (m_439 hd h g1 g2) (mz_439 hd h g1 g2)).imp (fun r w' q => by
    obtain ⟨⟨z, h1, hF, e⟩, f⟩ := q
    exact ⟨z, h1, hF, e, f.r6⟩)
theorem ms6_440 {d : Nat} (hd : 24 ≤ d) {w : eW} (h : mRel w) {p1 p2 p3 : Int} (g1 : -2147483648 ≤ p1 ∧ p1 ≤ 2147483647) (g2 : -2147483648 ≤ p2 ∧ p2 ≤ 2147483647) (g3 : -2147483648 ≤ p3 ∧ p3 ≤ 2147483647) : e_Ok 20 elay ecode eI d 440 (0, [(0, (1, 275)), (1, (0, p1)), (2, (0, p2)), (3, (0, p3))], [], w) (fun r w' => ∃ z : Int, r = [(0, z)] ∧ mRel w' ∧ (sm3 w w') ∧ rms6 w w') :=
  (e_Ok.both (m_440 hd h g1 g2 g3) (mz_440 hd h g1 g2 g3)).imp (fun r w' q => by
    obtain ⟨⟨z, h1, hF, e⟩, f⟩ := q
    exact ⟨z, h1, hF, e, f.r6⟩)
theorem ms6_441 {d : Nat} (hd : 23 ≤ d) {w : eW} (h : mRel w) {p1 p2 : Int} (g1 : -2147483648 ≤ p1 ∧ p1 ≤ 2147483647) (g2 : -2147483648 ≤ p2 ∧ p2 ≤ 2147483647) : e_Ok 20 elay ecode eI d 441 (0, [(0, (1, 275)), (1, (0, p1)), (2, (0, p2))], [], w) (fun r w' => ∃ z : Int, r = [(0, z)] ∧ mRel w' ∧ (sm3 w w') ∧ rms6 w w') :=
  (e_Ok.both (m_441 hd h g1 g2) (mz_441 hd h g1 g2)).imp (fun r w' q => by
    obtain ⟨⟨z, h1, hF, e⟩, f⟩ := q
    exact ⟨z, h1, hF, e, f.r6⟩)
theorem ms6_442 {d : Nat} (hd : 23 ≤ d) {w : eW} (h : mRel w) {p1 p2 : Int} (g1 : -2147483648 ≤ p1 ∧ p1 ≤ 2147483647) (g2 : -2147483648 ≤ p2 ∧ p2 ≤ 2147483647) : e_Ok 20 elay ecode eI d 442 (0, [(0, (1, 275)), (1, (0, p1)), (2, (0, p2))], [], w) (fun r w' => ∃ z : Int, r = [(0, z)] ∧ mRel w' ∧ (sm3 w w') ∧ rms6 w w') :=
  (e_Ok.both (m_442 hd h g1 g2) (mz_442 hd h g1 g2)).imp (fun r w' q => by
    obtain ⟨⟨z, h1, hF, e⟩, f⟩ := q
    exact ⟨z, h1, hF, e, f.r6⟩)
theorem ms6_443 {d : Nat} (hd : 23 ≤ d) {w : eW} (h : mRel w) {p1 p2 : Int} (g1 : -2147483648 ≤ p1 ∧ p1 ≤ 2147483647) (g2 : -2147483648 ≤ p2 ∧ p2 ≤ 2147483647) : e_Ok 20 elay ecode eI d 443 (0, [(0, (1, 275)), (1, (0, p1)), (2, (0, p2))], [], w) (fun r w' => ∃ z : Int, r = [(0, z)] ∧ mRel w' ∧ (sm3 w w') ∧ rms6 w w') :=
  (e_Ok.both (m_443 hd h g1 g2) (mz_443 hd h g1 g2)).imp (fun r w' q => by
    obtain ⟨⟨z, h1, hF, e⟩, f⟩ := q
    exact ⟨z, h1, hF, e, f.r6⟩)
theorem ms6_444 {d : Nat} (hd : 23 ≤ d) {w : eW} (h : mRel w) {p1 p2 : Int} (g1 : -2147483648 ≤ p1 ∧ p1 ≤ 2147483647) (g2 : -2147483648 ≤ p2 ∧ p2 ≤ 2147483647) : e_Ok 20 elay ecode eI d 444 (0, [(0, (1, 275)), (1, (0, p1)), (2, (0, p2))], [], w) (fun r w' => ∃ z : Int, r = [(0, z)] ∧ mRel w' ∧ (sm3 w w') ∧ rms6 w w') :=
  (e_Ok.both (m_444 hd h g1 g2) (mz_444 hd h g1 g2)).imp (fun r w' q => by
    obtain ⟨⟨z, h1, hF, e⟩, f⟩ := q
    exact ⟨z, h1, hF, e, f.r6⟩)
theorem ms6_445 {d : Nat} (hd : 23 ≤ d) {w : eW} (h : mRel w) {p1 : Int} (g1 : -2147483648 ≤ p1 ∧ p1 ≤ 2147483647) : e_Ok 20 elay ecode eI d 445 (0, [(0, (1, 275)), (1, (0, p1))], [], w) (fun r w' => ∃ z : Int, r = [(0, z)] ∧ mRel w' ∧ (sm3 w w') ∧ rms6 w w') :=
  (e_Ok.both (m_445 hd h g1) (mz_445 hd h g1)).imp (fun r w' q => by
    obtain ⟨⟨z, h1, hF, e⟩, f⟩ := q
    exact ⟨z, h1, hF, e, f.r6⟩)
theorem ms6_446 {d : Nat} (hd : 27 ≤ d) {w : eW} (h : mRel w) {p1 p2 : Int} (g1 : -2147483648 ≤ p1 ∧ p1 ≤ 2147483647) (g2 : -2147483648 ≤ p2 ∧ p2 ≤ 2147483647) : e_Ok 20 elay ecode eI d 446 (0, [(0, (1, 275)), (1, (0, p1)), (2, (0, p2))], [], w) (fun r w' => ∃ z : Int, r = [(0, z)] ∧ mRel w' ∧ (sm3 w w') ∧ rms6 w w') :=
  (e_Ok.both (m_446 hd h g1 g2) (mz_446 hd h g1 g2)).imp (fun r w' q => by
    obtain ⟨⟨z, h1, hF, e⟩, f⟩ := q
    exact ⟨z, h1, hF, e, f.r6⟩)
theorem ms6_447 {d : Nat} (hd : 23 ≤ d) {w : eW} (h : mRel w) {p1 : Int} (g1 : -2147483648 ≤ p1 ∧ p1 ≤ 2147483647) : e_Ok 20 elay ecode eI d 447 (0, [(0, (1, 275)), (1, (0, p1))], [], w) (fun r w' => ∃ z : Int, r = [(0, z)] ∧ mRel w' ∧ (sm3 w w') ∧ rms6 w w') :=
  (e_Ok.both (m_447 hd h g1) (mz_447 hd h g1)).imp (fun r w' q => by
    obtain ⟨⟨z, h1, hF, e⟩, f⟩ := q
    exact ⟨z, h1, hF, e, f.r6⟩)
theorem ms6_448 {d : Nat} (hd : 23 ≤ d) {w : eW} (h : mRel w) : e_Ok 20 elay ecode eI d 448 (0, [(0, (1, 275))], [], w) (fun r w' => ∃ z : Int, r = [(0, z)] ∧ mRel w' ∧ (sm3 w w') ∧ rms6 w w') :=
  (e_Ok.both (m_448 hd h ) (mz_448 hd h )).imp (fun r w' q => by
    obtain ⟨⟨z, h1, hF, e⟩, f⟩ := q
    exact ⟨z, h1, hF, e, f.r6⟩)
theorem ms6_449 {d : Nat} (hd : 23 ≤ d) {w : eW} (h : mRel w) {p1 p2 : Int} (g1 : -2147483648 ≤ p1 ∧ p1 ≤ 2147483647) (g2 : -2147483648 ≤ p2 ∧ p2 ≤ 2147483647) : e_Ok 20 elay ecode eI d 449 (0, [(0, (1, 275)), (1, (0, p1)), (2, (0, p2))], [], w) (fun r w' => ∃ z : Int, r = [(0, z)] ∧ mRel w' ∧ (sm3 w w') ∧ rms6 w w') :=
  (e_Ok.both (m_449 hd h g1 g2) (mz_449 hd h g1 g2)).imp (fun r w' q => by
    obtain ⟨⟨z, h1, hF, e⟩, f⟩ := q
    exact ⟨z, h1, hF, e, f.r6⟩)
theorem ms6_450 {d : Nat} (hd : 23 ≤ d) {w : eW} (h : mRel w) {p1 : Int} (g1 : -2147483648 ≤ p1 ∧ p1 ≤ 2147483647) : e_Ok 20 elay ecode eI d 450 (0, [(0, (1, 275)), (1, (0, p1))], [], w) (fun r w' => ∃ z : Int, r = [(0, z)] ∧ mRel w' ∧ (sm3 w w') ∧ rms6 w w') :=
  (e_Ok.both (m_450 hd h g1) (mz_450 hd h g1)).imp (fun r w' q => by
    obtain ⟨⟨z, h1, hF, e⟩, f⟩ := q
    exact ⟨z, h1, hF, e, f.r6⟩)
theorem ms6_451 {d : Nat} (hd : 23 ≤ d) {w : eW} (h : mRel w) {p1 : Int} (g1 : -2147483648 ≤ p1 ∧ p1 ≤ 2147483647) : e_Ok 20 elay ecode eI d 451 (0, [(0, (1, 275)), (1, (0, p1))], [], w) (fun r w' => ∃ z : Int, r = [(0, z)] ∧ mRel w' ∧ (sm3 w w') ∧ rms6 w w') :=
  (e_Ok.both (m_451 hd h g1) (mz_451 hd h g1)).imp (fun r w' q => by
    obtain ⟨⟨z, h1, hF, e⟩, f⟩ := q
    exact ⟨z, h1, hF, e, f.r6⟩)
end
