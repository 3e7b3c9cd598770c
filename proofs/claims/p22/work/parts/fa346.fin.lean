noncomputable section
/-! program: the same answer on both sides -/
theorem kRw.of {cd : Int} {w : eW} (hT : e_Has kTy w) (hc : w 1 3 = cd) (hcd : isCd cd) : kRw cd w := by
  have a1 : w 1 4 = 5 := e_Has.eq hT (c := 1) (k := 4) (v := 5) rfl
  have a2 : w 1 15 = 6 := e_Has.eq hT (c := 1) (k := 15) (v := 6) rfl
  have a3 : w 1 16 = 7 := e_Has.eq hT (c := 1) (k := 16) (v := 7) rfl
  have b : w cd 3 = cd + 1 ∧ w cd 4 = cd + 2 := by
    have c2 := hcd
    rcases c2 with e | e | e | e | e
    · rw [e]; exact ⟨e_Has.eq hT (c := 2) (k := 3) (v := 3) rfl, e_Has.eq hT (c := 2) (k := 4) (v := 4) rfl⟩
    · rw [e]; exact ⟨e_Has.eq hT (c := 94) (k := 3) (v := 95) rfl, e_Has.eq hT (c := 94) (k := 4) (v := 96) rfl⟩
    · rw [e]; exact ⟨e_Has.eq hT (c := 111) (k := 3) (v := 112) rfl, e_Has.eq hT (c := 111) (k := 4) (v := 113) rfl⟩
    · rw [e]; exact ⟨e_Has.eq hT (c := 128) (k := 3) (v := 129) rfl, e_Has.eq hT (c := 128) (k := 4) (v := 130) rfl⟩
    · rw [e]; exact ⟨e_Has.eq hT (c := 145) (k := 3) (v := 146) rfl, e_Has.eq hT (c := 145) (k := 4) (v := 147) rfl⟩
  exact ⟨hcd, hc, a1, a2, a3, b.1, b.2⟩
theorem kLt_of {w : eW} (h : e_Has kTy w) : e_Has kLt w := fun c k q => by
  unfold kLt at q ⊢
  by_cases e : c = 1 ∧ k = 4
  · rw [if_pos e, e.1, e.2, e_Has.eq h (c := 1) (k := 4) (v := 5) rfl]
    decide
  · rw [if_neg e] at q
    exact absurd q (by decide)
theorem kLr_of {w : eW} (h : e_Has kRy w) : e_Has kLr w := fun c k q => by
  unfold kLr at q ⊢
  by_cases e : c = 1
  · subst e
    rw [if_pos rfl] at q ⊢
    by_cases k0 : k = 0
    · subst k0; exact e_Has.get h (c := 1) (k := 0) (lo := 0) (hi := 4000) rfl (by decide)
    · by_cases k5 : k = 5
      · subst k5; exact e_Has.get h (c := 1) (k := 5) (lo := 0) (hi := 53) rfl (by decide)
      · by_cases k6 : k = 6
        · subst k6; exact e_Has.get h (c := 1) (k := 6) (lo := 0) (hi := 4000) rfl (by decide)
        · by_cases k7 : k = 7
          · subst k7; exact e_Has.get h (c := 1) (k := 7) (lo := 0) (hi := 4000) rfl (by decide)
          · by_cases k8 : k = 8
            · subst k8; exact e_Has.get h (c := 1) (k := 8) (lo := -2147483648) (hi := 2147483647) rfl (by decide)
            · rw [if_neg k0, if_neg k5, if_neg k6, if_neg k7, if_neg k8] at q
              exact absurd q (by decide)
  · by_cases e2 : c = 5
    · subst e2; exact e_Has.get h (c := 5) (k := k) (lo := -2147483648) (hi := 2147483647) rfl (by decide)
    · rw [if_neg e, if_neg e2] at q
      exact absurd q (by decide)
theorem mLq_of {v v0 : eW} (h : e_Has mTy v) (hI : pgI v v0) : e_Has mLq v0 := fun c k q => by
  unfold mLq at q ⊢
  by_cases e : c = 275 ∧ k = 8
  · rw [if_pos e, e.1, e.2, hI.2.2.2.1 8 (by decide), e_Has.eq h (c := 275) (k := 8) (v := 281) rfl]
    decide
  · rw [if_neg e] at q
    exact absurd q (by decide)
theorem mLr_of {v v0 : eW} (h : e_Has hTy v) (hI : pgI v v0) : e_Has mLr v0 := fun c k q => by
  unfold mLr at q ⊢
  by_cases e : c = 281
  · subst e
    rw [hI.2.2.1 k]
    exact e_Has.get h (c := 281) (k := k) (lo := -128) (hi := 127) rfl (by decide)
  · rw [if_neg e] at q
    exact absurd q (by decide)
/-- what the class's readText is known to do beside every run of the model's reader -/
def rdA (N cd : Int) (w w' : eW) : Prop := ∀ v v1 v2, rpA N w v → mRw v → (v 275 88 = 0 ∧ v 275 87 = 0 ∧ v 275 83 = 0 ∧ v 275 82 = -1 ∧ v 275 94 = 0 ∧ v 275 80 = 0) → mRu 327 v v1 → mRu 353 v1 v2 → rtQ N cd v2 w'
theorem rdA_of {N cd : Int} {w : eW} (hR : kRw cd w) (n d : Nat) : e_Pn 20 elay kcode eI n d 119 (0, [(0, (1, 1))], [], w) (fun _ w' => rdA N cd w w') := fun hn r w' q v v1 v2 hA hM hv ⟨d1, r1, h1⟩ ⟨d2, r2, h2⟩ => (t_119 hA hR hM hv h1 h2 hn r w' q).2
theorem tzE.rs {N cd : Int} {w v : eW} (E : tzE N cd w v) : (0 ≤ v 275 94 ∧ v 275 94 ≤ 4099) ∧ (∀ m, 0 ≤ m → m < v 275 94 → 0 ≤ v 341 m ∧ v 341 m ≤ 4) ∧ (∀ m, 0 ≤ m → m < v 275 94 → (0 ≤ v 342 m ∧ v 342 m ≤ 4000) ∧ (v 341 m ≠ 4 → v 343 m ≤ 4000)) := by
  obtain ⟨-, -, -, -, ⟨B, hB, hN⟩, -⟩ := E
  obtain ⟨⟨n0, -, n3, -⟩, -⟩ := hN
  refine ⟨by omega, fun m m0 m1 => (n3 m m0 m1).2.1, fun m m0 m1 => ⟨?_, fun g => ?_⟩⟩
  · have := (n3 m m0 m1).1; omega
  · have := (n3 m m0 m1).2.2 g; omega
set_option maxHeartbeats 2000000 in
theorem prg_eq {w v : eW} {a z1 z2 : Int} (hT : e_Has kTy w) (hH : e_Has kRy w) (hO : 0 ≤ w 0 13 ∧ w 0 13 ≤ 1) (mT : e_Has mTy v) (mH : e_Has hTy v) (h9 : v 275 9 = w 1 0) (h3 : v 275 3 = w 0 13) (h10 : v 275 10 = w 0 11) (ht : ∀ i, 0 ≤ i → i < w 1 0 → w 5 i = v 281 i) {cd : Int} (x1 : ((a < 0 ∨ w 0 11 ≤ a) ∧ z1 = -1) ∨ ((0 ≤ a ∧ a < w 0 11) ∧ ((w 0 13 = 1 ∧ z1 = -2) ∨ (w 0 13 = 0 ∧ ∃ w3, rdA (w 1 0) cd w w3 ∧ ((w3 1 1 ≠ 0 ∧ z1 = e32 ((-10) - w3 1 2)) ∨ (w3 1 1 = 0 ∧ z1 = w3 cd 1)))))) (x2 : (([(0, z2)] : List eV) = [(0, -1)] ∧ (a < 0 ∨ v 275 10 ≤ a)) ∨ ((0 ≤ a ∧ a < v 275 10) ∧ ((v 275 3 ≠ 0 ∧ ([(0, z2)] : List eV) = [(0, -2)]) ∨ (v 275 3 = 0 ∧ ∃ v0 v1 v2 v3, pgI v v0 ∧ mRu 327 v0 v1 ∧ mRu 353 v1 v2 ∧ mRu 356 v2 v3 ∧ ((v3 275 88 ≠ 0 ∧ ([(0, z2)] : List eV) = [(0, e32 (-10 - v3 275 89))]) ∨ (v3 275 88 = 0 ∧ ([(0, z2)] : List eV) = [(0, v3 338 4)])))))) : z1 = z2 := by
  rcases x1 with ⟨c1, e1⟩ | ⟨c1, x1⟩
  · rcases x2 with ⟨e2, c2⟩ | ⟨c2, -⟩
    · have := one_z e2; omega
    · omega
  rcases x2 with ⟨e2, c2⟩ | ⟨c2, x2⟩
  · omega
  rcases x1 with ⟨o1, e1⟩ | ⟨o1, w3, qq, x1⟩
  · rcases x2 with ⟨o2, e2⟩ | ⟨o2, -⟩
    · have := one_z e2; omega
    · omega
  rcases x2 with ⟨o2, e2⟩ | ⟨o2, v0, v1, v2, v3, pI, r1, r2, r3, x2⟩
  · omega
  have hM0 := pgI.rw pI (mRw.of mT)
  have hA : rpA (w 1 0) w v0 := ⟨⟨rfl, (pI.2.2.2.1 9 (by decide)).trans h9, e_Has.get hH (c := 1) (k := 0) (lo := 0) (hi := 4000) rfl (by decide)⟩, fun i i0 i1 => (ht i i0 i1).trans (pI.2.2.1 i).symm, kLt_of hT, kLr_of hH, mLq_of mT pI, mLr_of mH pI⟩
  have q := qq v0 v1 v2 hA hM0 pI.1 r1 r2
  obtain ⟨d1, s1, r1⟩ := r1
  obtain ⟨d2, s2, r2⟩ := r2
  obtain ⟨d3, s3, r3⟩ := r3
  have m1 : mq v0 v1 := (r1.pn (fun n => u_327 (n := n) hM0)).2
  have m2 : mq v1 v2 := (r2.pn (fun n => u_353 (n := n) (m1.rf hM0))).2
  have mm : mz v0 v2 := m1.2.2.2.2.tr m2.2.2.2.2
  rcases q with ⟨f1, f2, f3⟩ | ⟨w4, s, p, E, J, g1, g2, g3⟩
  · have e : v2 = v3 := (r3.pn (fun n => l_356_0 (n := n) f2)).2
    subst e
    rcases x1 with ⟨-, x1⟩ | ⟨x1, -⟩
    · rcases x2 with ⟨-, x2⟩ | ⟨x2, -⟩
      · rw [x1, one_z x2, f3]
      · exact absurd x2 f2
    · exact absurd x1 f1
  · obtain ⟨k1, k2, k3⟩ := tzE.rs E
    obtain ⟨E1, E2, E3, E4, ⟨B, hB, E5⟩, E6, E7, E8⟩ := E
    have y74 : v2 275 74 = 337 := mm.2.2.1.trans ((pI.2.2.2.1 74 (by decide)).trans (e_Has.eq mT (c := 275) (k := 74) (v := 337) rfl))
    have y75 : v2 275 75 = 338 := mm.2.2.2.1.trans ((pI.2.2.2.1 75 (by decide)).trans (e_Has.eq mT (c := 275) (k := 75) (v := 338) rfl))
    have y76 : v2 275 76 = 339 := mm.2.2.2.2.1.trans ((pI.2.2.2.1 76 (by decide)).trans (e_Has.eq mT (c := 275) (k := 76) (v := 339) rfl))
    have y8 : v2 338 4 = 0 := (mm.1 4).trans pI.2.1.1
    have y9 : v2 339 4 = 0 := (mm.2.1 4).trans pI.2.1.2
    have rs := (r3.pn (fun n => l_356 (n := n) E4 ⟨y76, y75, y74⟩ rfl k1 ⟨E2.2, y9, y8⟩ k2 k3)).2.2
    rcases cmpN E1 E5 E6 E7.2 E8 J rs with ⟨c1, c2, c3, c4⟩ | ⟨c1, c2, c3⟩
    · rcases x1 with ⟨x1, -⟩ | ⟨-, x1⟩
      · exact absurd (g1.trans c1) x1
      · rcases x2 with ⟨x2, -⟩ | ⟨-, x2⟩
        · exact absurd c2 x2
        · have e := one_z x2
          have t := E5.2.1.2.1
          unfold minB at t g3
          unfold cn1 at c3 c4
          omega
    · have g4 := g2 c1
      rcases x1 with ⟨-, x1⟩ | ⟨x1, -⟩
      · rcases x2 with ⟨-, x2⟩ | ⟨x2, -⟩
        · rw [x1, one_z x2, g4, c3]
        · exact absurd x2 c2
      · exact absurd (g1.symm.trans x1) c1
end
