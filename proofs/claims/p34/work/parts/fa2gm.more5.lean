noncomputable section
/-! parts, build, the first state: the counts -/
def lwS (u : eW) : Prop := lwR u ∧ lw5 u
theorem lw5_n4 {u w1 v w2 v2 : eW} {n : Int} (h0 : lw0 u) (h5 : lw5 u) (hf1 : e_Lf Bk u w1 v) (f1 : e_fr kAp (e_PB Bk u) w1) (hf2 : e_Lf Bm v w2 v2) (f2 : e_fr mPr (e_PB Bm v) w2) (n0 : 0 ≤ n ∧ n ≤ 1) (e1 : w1 19 1 = e_PB Bk u 19 1 + n) (e2 : w2 275 40 = e_PB Bm v 275 40 + n) : lw5 v2 := by
  have b5 : e_PB Bk u 19 1 = u 19 1 := e_PB_in (by unfold Bk; omega)
  have d4 : e_PB Bm v 275 40 = u 275 40 := (e_PB_in (by unfold Bm; omega)).trans (hf1.2.2.1 275 40 (by unfold Bk; omega))
  have r := e_Has.get h0.2.2.2.2.1.1 (c := 19) (k := 1) (lo := 0) (hi := 32) rfl (by decide)
  obtain ⟨⟨a1, a2, a3, a4, a5⟩, hb, hz⟩ := h5
  have k4 : v2 19 1 = u 19 1 + n := (hf2.2.2.1 19 1 (by unfold Bm; omega)).trans (L_vl hf1 (by unfold Bk; omega) (by unfold kn1; omega) (by omega))
  have m4 : v2 275 40 = u 275 40 + n := L_vl hf2 (by unfold Bm; omega) (by unfold kn1; omega) (by omega)
  have hK : ∀ c k, rK c k → ¬ (c = 19 ∧ k = 1) → v2 c k = u c k := fun c k y ny => (hf2.2.2.1 c k (rK_B y).2).trans (L_st h0.1 hf1 (rK_B y).1 (f1 c k (fun g => by unfold rK at y; unfold kAp at g; omega)))
  have hM : ∀ c k, rM c k → ¬ (c = 275 ∧ k = 40) → v2 c k = u c k := fun c k y ny => (L_st hf1.2.2.2.2.1 hf2 (rM_B y).1 (f2 c k (fun g => by unfold rM at y; unfold mPr at g; omega))).trans (hf1.2.2.1 c k (rM_B y).2)
  have k1 := hK 250 0 (by unfold rK; omega) (by omega)
  have k2 := hK 250 1 (by unfold rK; omega) (by omega)
  have k3 := hK 19 0 (by unfold rK; omega) (by omega)
  have k5 := hK 74 2 (by unfold rK; omega) (by omega)
  have m1 := hM 275 23 (by unfold rM; omega) (by omega)
  have m2 := hM 275 30 (by unfold rM; omega) (by omega)
  have m3 := hM 275 42 (by unfold rM; omega) (by omega)
  have m5 := hM 275 49 (by unfold rM; omega) (by omega)
  refine ⟨⟨by omega, by omega, by omega, by omega, by omega⟩, fun b b0 b1 => ?_, fun z z0 z1 => ?_⟩
  · rw [hM 303 b (by unfold rM; omega) (by omega), hM 304 b (by unfold rM; omega) (by omega), hK 20 b (by unfold rK; omega) (by omega), hK 21 b (by unfold rK; omega) (by omega)]
    exact hb b b0 (by omega)
  · rw [hM 315 z (by unfold rM; omega) (by omega), hK 257 z (by unfold rK; omega) (by omega)]
    exact hz z z0 (by omega)
theorem lw5_zero {u w1 v w2 v2 : eW} (hf1 : e_Lf Bk u w1 v) (e1 : w1 19 0 = 0 ∧ w1 19 1 = 0 ∧ w1 250 0 = 0 ∧ w1 250 1 = 0 ∧ w1 74 2 = 0) (hf2 : e_Lf Bm v w2 v2) (e2 : w2 275 23 = 0 ∧ w2 275 30 = 0 ∧ w2 275 40 = 0 ∧ w2 275 42 = 0 ∧ w2 275 49 = 0) : lw5 v2 := by
  have z0 : kn1 0 := by unfold kn1; omega
  have K : ∀ c k, Bk c → ¬ Bm c → w1 c k = 0 → v2 c k = 0 := fun c k q n e => (hf2.2.2.1 c k n).trans (L_vl hf1 q z0 e)
  have M : ∀ k, w2 275 k = 0 → v2 275 k = 0 := fun k e => L_vl hf2 (by unfold Bm; omega) z0 e
  have k1 := K 19 0 (by unfold Bk; omega) (by unfold Bm; omega) e1.1
  have k2 := K 19 1 (by unfold Bk; omega) (by unfold Bm; omega) e1.2.1
  have k3 := K 250 0 (by unfold Bk; omega) (by unfold Bm; omega) e1.2.2.1
  have k4 := K 250 1 (by unfold Bk; omega) (by unfold Bm; omega) e1.2.2.2.1
  have k5 := K 74 2 (by unfold Bk; omega) (by unfold Bm; omega) e1.2.2.2.2
  have m1 := M 23 e2.1
  have m2 := M 30 e2.2.1
  have m3 := M 40 e2.2.2.1
  have m4 := M 42 e2.2.2.2.1
  have m5 := M 49 e2.2.2.2.2
  exact ⟨⟨by omega, by omega, by omega, by omega, by omega⟩, fun b b0 b1 => by omega, fun z z0 z1 => by omega⟩
theorem i0.lw5 {w u : eW} (h : i0 w u) : lw5 u := by
  have m : ∀ k : Nat, pv 275 k = some 0 → u 275 k = 0 := fun k q => h.vl q
  have m1 : u 275 23 = 0 := m 23 (by decide +kernel)
  have m2 : u 275 30 = 0 := m 30 (by decide +kernel)
  have m3 : u 275 40 = 0 := m 40 (by decide +kernel)
  have m4 : u 275 42 = 0 := m 42 (by decide +kernel)
  have m5 : u 275 49 = 0 := m 49 (by decide +kernel)
  have k1 : u 19 0 = 0 := h.vl (j := 19) (k := 0) (by decide +kernel)
  have k2 : u 19 1 = 0 := h.vl (j := 19) (k := 1) (by decide +kernel)
  have k3 : u 250 0 = 0 := h.vl (j := 250) (k := 0) (by decide +kernel)
  have k4 : u 250 1 = 0 := h.vl (j := 250) (k := 1) (by decide +kernel)
  have k5 : u 74 2 = 0 := h.vl (j := 74) (k := 2) (by decide +kernel)
  exact ⟨⟨by omega, by omega, by omega, by omega, by omega⟩, fun b b0 b1 => by omega, fun z z0 z1 => by omega⟩
theorem i0.lwS {w u : eW} (h : i0 w u) (ha : e_all u) : lwS u := ⟨h.lwR ha, h.lw5⟩
theorem m_277c {d : Nat} (hd : 23 ≤ d) {w : eW} (h : mRel w) : e_Ok 20 elay ecode eI d 277 (0, [(0, (1, 275))], [], w) (fun _ w' => w' 275 23 = 0 ∧ w' 275 30 = 0 ∧ w' 275 40 = 0 ∧ w' 275 42 = 0 ∧ w' 275 49 = 0) :=
  (c_277_h hd h.1 h.2.1).imp (fun r w' q => by
    obtain ⟨z, hr, q1, q2, q3, q4⟩ := q
    exact ⟨q4.1.2.2.1, q4.1.2.2.2.1, q4.1.2.2.2.2.1, q4.1.2.2.2.2.2.1, q4.1.2.2.2.2.2.2.1⟩)
end
