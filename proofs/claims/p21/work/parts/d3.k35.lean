noncomputable section
/-! the class: all is as at the beginning -/
theorem nw_kAr {a c k : Int} (ha : 0 ≤ a ∧ a ≤ 3) (q : kAr a c k) : kNw c k := by
  unfold kAr at q
  rcases q with q | q | q | q | q | q
  · exact Or.inr (Or.inr (Or.inr (Or.inr (Or.inr (Or.inr (Or.inr (Or.inr (Or.inr (Or.inr (Or.inr (Or.inr (Or.inr (Or.inl (by omega))))))))))))))
  · exact Or.inr (Or.inr (Or.inr (Or.inr (Or.inr (Or.inr (Or.inr (Or.inr (Or.inr (Or.inr (Or.inr (Or.inr (Or.inr (Or.inr (Or.inr (Or.inr ((by omega)))))))))))))))))
  · exact Or.inr (Or.inr (Or.inr (Or.inr (Or.inr (Or.inr (Or.inr (Or.inr (Or.inr (Or.inr (Or.inr (Or.inr (Or.inr (Or.inr (Or.inl (by omega)))))))))))))))
  · exact Or.inr (Or.inr (Or.inr (Or.inr (Or.inr (Or.inr (Or.inr (Or.inr (Or.inr (Or.inr (Or.inr (Or.inr (Or.inr (Or.inr (Or.inl (by omega)))))))))))))))
  · exact Or.inr (Or.inr (Or.inr (Or.inr (Or.inr (Or.inr (Or.inr (Or.inr (Or.inr (Or.inr (Or.inr (Or.inr (Or.inr (Or.inr (Or.inl (by omega)))))))))))))))
  · exact Or.inr (Or.inr (Or.inr (Or.inr (Or.inr (Or.inr (Or.inr (Or.inr (Or.inr (Or.inr (Or.inr (Or.inr (Or.inr (Or.inr (Or.inr (Or.inl (by omega))))))))))))))))
theorem nw_kPr {c k : Int} (q : kPr c k) : kNw c k := by
  unfold kPr at q
  rcases q with q | q
  · exact Or.inr (Or.inr (Or.inr (Or.inr (Or.inr (Or.inl (by omega))))))
  · exact Or.inr (Or.inr (Or.inr (Or.inr (Or.inr (Or.inr (Or.inl (by omega)))))))
theorem nw_kCr {c k : Int} (q : kCr c k) : kNw c k := by
  unfold kCr at q
  rcases q with q | q
  · exact Or.inl (by omega)
  · exact Or.inr (Or.inr (Or.inl (by omega)))
theorem nw_kDr {c k : Int} (q : kDr c k) : kNw c k := by
  unfold kDr at q
  rcases q with q | q | q
  · exact Or.inr (Or.inr (Or.inr (Or.inr (Or.inr (Or.inr (Or.inr (Or.inr (Or.inr (Or.inl (by omega))))))))))
  · exact Or.inr (Or.inr (Or.inr (Or.inl (by omega))))
  · exact Or.inr (Or.inr (Or.inr (Or.inr (Or.inl (by omega)))))
theorem nw_kF72 {c k : Int} (q : kF72 c k) : kNw c k := by
  unfold kF72 at q
  exact Or.inr (Or.inr (Or.inr (Or.inr (Or.inr (Or.inr (Or.inr (Or.inr (Or.inr (Or.inr (Or.inr (Or.inr (Or.inl (by omega)))))))))))))
section D3
variable {w w' v : eW}
theorem Kc.of (f : e_fr kNh w v) (hT : e_Has kTy w) (hT' : e_Has kTy v) (ho : ∀ c k, e_out elay c k → v c k = w c k) : ∀ c k, Kc c k → v c k = w c k := fun c k q => by
  rcases q.2 with q | q | q
  · exact f c k q
  · have h1 := hT c k (by omega)
    have h2 := hT' c k (by omega)
    omega
  · exact ho c k q
/-- what the arm a, and the floor, are at the beginning: by what was told alone -/
def PA (w : eW) (a : Int) : eW := (k_phi 3 (0, [(0, (1, 17 * a + 86))], [], e_pz Kc w)).2
def PF (w : eW) : eW := (k_phi 77 (0, [(0, (1, 19))], [], e_pz Kc w)).2
theorem Kc_0 {c : Int} {k : Int} (h : (0 ≤ c ∧ c ≤ 274) ∧ ¬ kNh c k) : Kc c k := ⟨h.1, Or.inl h.2⟩
theorem c_3_r {d : Nat} (hd : 24 ≤ d) (hT : e_Has kTy w) (hTv : e_Has kTy v) (hK : ∀ c k, Kc c k → v c k = w c k) {a : Int} (ga : 0 ≤ a ∧ a ≤ 3) (hx : kn1 (w (17 * a + 88) 0)) (hy : kn1 (w (17 * a + 89) 0)) : e_Ok 20 elay kcode eI d 3 (0, [(0, (1, 17 * a + 86))], [], v) (fun r v' => ((r = [] ∧ e_fr (kAr a) v v' ∧ e_Has kTy v' ∧ aR0 v' a ∧ aP v' a) ∧ r = (k_phi 3 (0, [(0, (1, 17 * a + 86))], [], e_pz Kc w)).1 ∧ e_rf (PA w a) v') ∧ ∀ c k, e_out elay c k → v' c k = v c k) := by
  have n8 : (0 ≤ 17 * a + 88 ∧ 17 * a + 88 ≤ 274) ∧ ¬ kNh (17 * a + 88) 0 := ⟨by omega, by unfold kNh kNw; omega⟩
  have n9 : (0 ≤ 17 * a + 89 ∧ 17 * a + 89 ≤ 274) ∧ ¬ kNh (17 * a + 89) 0 := ⟨by omega, by unfold kNh kNw; omega⟩
  refine k_rel (nd1 _ _) ?_ (c_3_z hd (kTy.cy hT).cpz ga (by rw [e_pz_in (Kc_0 n8)]; exact hx) (by rw [e_pz_in (Kc_0 n9)]; exact hy)) (c_3_k hd hTv ga (by rw [hK _ _ (Kc_0 n8)]; exact hx) (by rw [hK _ _ (Kc_0 n9)]; exact hy))
  rw [← e_pzK hK]
  exact e_pz_rf Kc v
theorem PA_ok (hT : e_Has kTy w) {a : Int} (ga : 0 ≤ a ∧ a ≤ 3) (hx : kn1 (w (17 * a + 88) 0)) (hy : kn1 (w (17 * a + 89) 0)) : e_fr (kAr a) (e_pz Kc w) (PA w a) ∧ aR0 (PA w a) a := by
  have n8 : (0 ≤ 17 * a + 88 ∧ 17 * a + 88 ≤ 274) ∧ ¬ kNh (17 * a + 88) 0 := ⟨by omega, by unfold kNh kNw; omega⟩
  have n9 : (0 ≤ 17 * a + 89 ∧ 17 * a + 89 ≤ 274) ∧ ¬ kNh (17 * a + 89) 0 := ⟨by omega, by unfold kNh kNw; omega⟩
  have h := k_phi_ok (c_3_z (d := 24) (by decide) (kTy.cy hT).cpz ga (by rw [e_pz_in (Kc_0 n8)]; exact hx) (by rw [e_pz_in (Kc_0 n9)]; exact hy))
  exact ⟨h.2.1, h.2.2.2⟩
def fFt (w : eW) : Prop := ∀ p, 0 ≤ p → p < w 19 1 → w (p + 42) 0 < 4 → w (p + 42) 0 < w 19 0
theorem fFt.eq (h : ∀ c k, Kc c k → v c k = w c k) (q : fFt w) (hm : w 19 1 ≤ 32) : fFt v := fun p g1 g2 g3 => by
  rw [h 19 1 (Kc_0 ⟨by omega, by unfold kNh kNw; omega⟩)] at g2
  rw [h (p + 42) 0 (Kc_0 ⟨by omega, by unfold kNh kNw; omega⟩)] at g3 ⊢
  rw [h 19 0 (Kc_0 ⟨by omega, by unfold kNh kNw; omega⟩)]
  exact q p g1 g2 g3
theorem c_77_r {d : Nat} (hd : 23 ≤ d) (hT : e_Has kTy w) (hTv : e_Has kTy v) (hK : ∀ c k, Kc c k → v c k = w c k) (hF : fFt w) : e_Ok 20 elay kcode eI d 77 (0, [(0, (1, 19))], [], v) (fun r v' => ((r = [] ∧ e_fr kFl v v' ∧ e_Has kTy v' ∧ fK v') ∧ r = (k_phi 77 (0, [(0, (1, 19))], [], e_pz Kc w)).1 ∧ e_rf (PF w) v') ∧ ∀ c k, e_out elay c k → v' c k = v c k) := by
  have hm := e_Has.get hT (c := 19) (k := 1) (lo := 0) (hi := 32) rfl (by decide)
  refine k_rel (nd1 _ _) ?_ (c_77_z hd (kTy.cy hT).cpz (hF.eq (fun c k q => e_pz_in q) (by omega))) (c_77_k hd hTv (hF.eq hK (by omega)))
  rw [← e_pzK hK]
  exact e_pz_rf Kc v
theorem PF_ok (hT : e_Has kTy w) (hF : fFt w) : e_fr kFl (e_pz Kc w) (PF w) ∧ fK (PF w) := by
  have hm := e_Has.get hT (c := 19) (k := 1) (lo := 0) (hi := 32) rfl (by decide)
  have h := k_phi_ok (c_77_z (d := 24) (by decide) (kTy.cy hT).cpz (hF.eq (fun c k q => e_pz_in q) (by omega)))
  exact ⟨h.2.1, h.2.2.2⟩
theorem aR0.fr {S : Int → Int → Prop} {a : Int} (ga : 0 ≤ a ∧ a ≤ 3) (f : e_fr S w w') (hS : ∀ c k, 17 * a + 86 ≤ c → c ≤ 17 * a + 102 → ¬ S c k) (h : aR0 w a) : aR0 w' a := by
  have e : ∀ c k, 17 * a + 86 ≤ c → c ≤ 17 * a + 102 → w' c k = w c k := fun c k g1 g2 => f c k (hS c k g1 g2)
  obtain ⟨h1, h2, h3, h4, h5⟩ := h
  refine ⟨?_, fun j g1 g2 => ?_, fun k g1 g2 => ?_, h4.eq (fun c k g => e c k (by omega) (by omega)), h5.eq (fun c k g => e c k (by omega) (by omega))⟩
  · rw [e _ 11 (by omega) (by omega), e _ 13 (by omega) (by omega), e _ 14 (by omega) (by omega), e _ 15 (by omega) (by omega), e _ 16 (by omega) (by omega), e _ 17 (by omega) (by omega), e _ 18 (by omega) (by omega), e _ 19 (by omega) (by omega)]
    exact h1
  · rw [e _ 7 (by omega) (by omega), e _ 8 (by omega) (by omega), e _ 9 (by omega) (by omega)]
    exact h2 j g1 g2
  · rw [e _ k (by omega) (by omega)]
    exact h3 k g1 g2
theorem kAr.rg {a c k : Int} (h : kAr a c k) : 17 * a + 86 ≤ c ∧ c ≤ 17 * a + 102 := by unfold kAr at h; omega
theorem cR0.fr {S : Int → Int → Prop} (f : e_fr S w w') (hS : ∀ c k, 74 ≤ c → c ≤ 81 → ¬ S c k) (h : cR0 w) : cR0 w' := by
  have e : ∀ c k, 74 ≤ c → c ≤ 81 → w' c k = w c k := fun c k g1 g2 => f c k (hS c k g1 g2)
  unfold cR0 at h ⊢
  rw [e 74 0 (by omega) (by omega), e 74 1 (by omega) (by omega), e 74 3 (by omega) (by omega), e 74 4 (by omega) (by omega), e 74 5 (by omega) (by omega), e 74 6 (by omega) (by omega), e 74 7 (by omega) (by omega)]
  refine ⟨h.1, fun i g1 g2 => ?_⟩
  rw [e 78 i (by omega) (by omega), e 79 i (by omega) (by omega), e 80 i (by omega) (by omega), e 81 i (by omega) (by omega)]
  exact h.2 i g1 g2
/-- behind rewind -/
def rwA (w v : eW) (a : Int) : Prop := aR0 v a ∧ (∀ c k, kAr a c k → e_okz (PA w a c k) = true → v c k = PA w a c k) ∧ aP v a
theorem aP.frN {S : Int → Int → Prop} {a : Int} (ga : 0 ≤ a ∧ a ≤ 3) (f : e_fr S w w') (hT : e_Has kTy w) (hT' : e_Has kTy w') (hN : ∀ c k, S c k → kNw c k) (hS : ∀ c k, 17 * a + 86 ≤ c → c ≤ 17 * a + 102 → ¬ S c k) (h : aP w a) : aP w' a := by
  have hjn := kn_joints hT ga
  refine h.eq (f _ _ (hS _ _ (by omega) (by omega))) (fun c k q => ?_) (fun k g => ⟨f _ _ (hS _ _ (by omega) (by omega)), f _ _ (hS _ _ (by omega) (by omega))⟩)
  rcases q with q | ⟨j, hj, rfl, rfl⟩
  · exact Kq.of (f.mono (fun c k g => Or.inl (hN c k g))) hT hT' c k q
  · exact f _ _ (hS _ _ (by omega) (by omega))
def rwF (w v : eW) : Prop := fK v ∧ ∀ c k, kFl c k → e_okz (PF w c k) = true → v c k = PF w c k
def rwP (w v : eW) : Prop := ((∀ p, 0 ≤ p → p < 64 → v 11 p = 0) ∧ (∀ p, 0 ≤ p → p < 64 → v 16 p = 0) ∧ ∀ p, 0 ≤ p → p < 64 → v 13 p = 0) ∧ ∀ V, vFx w V → pTo w → ∀ k, 0 ≤ k → k < 64 → v 12 (w 18 k) = V (w 18 k)
def rwD (v : eW) : Prop := (∀ t, 0 ≤ t → t ≤ 15 → tR0 v t) ∧ (∀ k, 0 ≤ k → k < 8 → v 83 k = -1) ∧ v 8 9 = 0
def rw0 (w v : eW) : Prop := (∀ a, 0 ≤ a → a ≤ 3 → rwA w v a) ∧ rwF w v ∧ rwP w v ∧ cR0 v ∧ rwD v ∧ ∀ k, 0 ≤ k → k < 6 → v 272 k = 0
theorem rwA.fr {S : Int → Int → Prop} {a : Int} {w v v' : eW} (hT : e_Has kTy v) (hT' : e_Has kTy v') (hN : ∀ c k, S c k → kNw c k) (ga : 0 ≤ a ∧ a ≤ 3) (f : e_fr S v v') (hS : ∀ c k, 17 * a + 86 ≤ c → c ≤ 17 * a + 102 → ¬ S c k) (h : rwA w v a) : rwA w v' a := ⟨h.1.fr ga f hS, fun c k g1 g2 => by rw [f c k (hS c k g1.rg.1 g1.rg.2)]; exact h.2.1 c k g1 g2, h.2.2.frN ga f hT hT' hN hS⟩
theorem rwF.fr {S : Int → Int → Prop} {w v v' : eW} (hB : v 19 0 ≤ 4) (f : e_fr S v v') (hS : ∀ c k, 31 ≤ c → c ≤ 40 → ¬ S c k) (h9 : ∀ k, ¬ S 19 k) (h : rwF w v) : rwF w v' := ⟨h.1.fr f (fun c k g1 g2 => hS c k g1 (by omega)) (fun k => ⟨hS _ k (by omega) (by omega), hS _ k (by omega) (by omega)⟩) ⟨h9 0, h9 1⟩ hB, fun c k g1 g2 => by rw [f c k (hS c k (by unfold kFl at g1; omega) (by unfold kFl at g1; omega))]; exact h.2 c k g1 g2⟩
theorem rwP.fr {S : Int → Int → Prop} {w v v' : eW} (f : e_fr S v v') (hS : ∀ c k, 11 ≤ c → c ≤ 16 → ¬ S c k) (h : rwP w v) : rwP w v' := by
  have e : ∀ c k, 11 ≤ c → c ≤ 16 → v' c k = v c k := fun c k g1 g2 => f c k (hS c k g1 g2)
  refine ⟨⟨fun p g1 g2 => by rw [e 11 p (by omega) (by omega)]; exact h.1.1 p g1 g2, fun p g1 g2 => by rw [e 16 p (by omega) (by omega)]; exact h.1.2.1 p g1 g2, fun p g1 g2 => by rw [e 13 p (by omega) (by omega)]; exact h.1.2.2 p g1 g2⟩, fun V g1 g2 k g3 g4 => by rw [e 12 _ (by omega) (by omega)]; exact h.2 V g1 g2 k g3 g4⟩
theorem vFx.eq {V : Int → Int} (h : ∀ k, v 15 k = w 15 k ∧ v 17 k = w 17 k) (q : vFx w V) : vFx v V := fun p g1 g2 => by
  unfold rc0
  rw [(h p).1, (h p).2]
  exact q p g1 g2
theorem pTo.eq (h : ∀ k, v 15 k = w 15 k ∧ v 18 k = w 18 k) (q : pTo w) : pTo v := fun i g1 g2 g3 => by
  rw [(h i).2, (h _).1] at g3
  obtain ⟨k, hk, e⟩ := q i g1 g2 g3
  exact ⟨k, hk, by rw [(h k).2, (h i).2, (h _).1]; exact e⟩
end D3
set_option maxHeartbeats 4000000 in
theorem c_252 {d : Nat} (hd : 26 ≤ d) {w : eW} (hT : e_Has kTy w) (hX : ∀ a, 0 ≤ a → a ≤ 3 → kn1 (w (17 * a + 88) 0) ∧ kn1 (w (17 * a + 89) 0)) (hF : fFt w) : e_Ok 20 elay kcode eI d 252 (0, [(0, (1, 0))], [], w) (fun r w' => r = [] ∧ e_fr kNw w w' ∧ e_Has kTy w' ∧ (∀ c k, e_out elay c k → w' c k = w c k) ∧ rw0 w w') := by
  obtain ⟨d, rfl⟩ : ∃ e, d = e + 1 := ⟨d - 1, by omega⟩
  refine e_Ok.run (t' := (2, [(1, (0, 0)), (0, (1, 0))], [], w)) 2 rfl ?_
  have hL1 : ∀ (nn : Nat) (y1 : Int) (v1 : eW), e_fr kNw w v1 ∧ e_Has kTy v1 ∧ (∀ c k, e_out elay c k → v1 c k = w c k) ∧ (∀ i, 0 ≤ i → i < y1 → rwA w v1 i) ∧ (0 ≤ y1 ∧ y1 ≤ 4) → 4 - y1 < nn → e_Ok 20 elay kcode eI (d + 1) 252 (2, [(0, (1, 0)), (1, (0, y1))], [], v1) (fun r w' => r = [] ∧ e_fr kNw w w' ∧ e_Has kTy w' ∧ (∀ c k, e_out elay c k → w' c k = w c k) ∧ rw0 w w') := by
    intro nn
    induction nn with
    | zero => intro y1 v1 hj hm; obtain ⟨j3, j4, j5, j6, j7⟩ := hj; exfalso; omega
    | succ nn ih2 =>
      intro y1 v1 hj hm
      obtain ⟨j3, j4, j5, j6, j7⟩ := hj
      refine e_Ok.run (t' := (4, [(0, (1, 0)), (1, (0, y1))], [(0, 4), (0, y1)], v1)) 2 rfl ?_
      refine e_Ok.if2 rfl (fun h8 => ?_) (fun h8 => ?_)
      · replace h8 : (y1 : Int) ≥ 4 := h8
        refine e_Ok.run (t' := (23, [(0, (1, 0)), (1, (0, y1))], [(1, 0)], v1)) 1 rfl ?_
        refine e_Ok.getr (z := 10) rfl (el_o rfl) rfl rfl ((j3 0 3 (by unfold kNw; omega)).trans (Eq.trans (e_Has.eq hT rfl) (by omega))) (by omega) ?_
        refine e_Ok.callV rfl (by omega) rfl rfl rfl rfl (e_Ok.out kAlk (c_110 (by omega) j4)) (fun r9 w10 h11 => ?_)
        obtain ⟨⟨rfl, q12f, q12T, q12x⟩, q12o⟩ := h11
        have f13 : e_fr kNw w w10 := e_fr.trans j3 (e_fr.mono q12f (fun c k q => by exact nw_kPr q))
        have ow10 : ∀ c k, e_out elay c k → w10 c k = w c k := fun c k g => (q12o c k g).trans (j5 c k g)
        have A1 : ∀ a, 0 ≤ a → a ≤ 3 → rwA w w10 a := fun a g1 g2 => (j6 a g1 (by omega)).fr j4 q12T (fun c k g => nw_kPr g) ⟨g1, g2⟩ q12f (fun c k g3 g4 => by unfold kPr; omega)
        have eW : ∀ c k, (c = 15 ∨ c = 17 ∨ c = 18) → v1 c k = w c k := fun c k g => j3 c k (by unfold kNw; omega)
        have P1 : rwP w w10 := ⟨q12x.1, fun V g1 g2 k g3 g4 => by have z := q12x.2 V (g1.eq (fun k => ⟨eW _ _ (by omega), eW _ _ (by omega)⟩)) (g2.eq (fun k => ⟨eW _ _ (by omega), eW _ _ (by omega)⟩)) k g3 g4; rw [eW 18 k (by omega)] at z; exact z⟩
        show e_Ok 20 elay kcode eI (d + 1) 252 (29, [(0, (1, 0)), (1, (0, y1))], [], w10) _
        refine e_Ok.run (t' := (30, [(0, (1, 0)), (1, (0, y1))], [(1, 0)], w10)) 1 rfl ?_
        refine e_Ok.getr (z := 19) rfl (el_o rfl) rfl rfl ((q12f 0 4 (by unfold kPr; omega)).trans ((j3 0 4 (by unfold kNw; omega)).trans (Eq.trans (e_Has.eq hT rfl) (by omega)))) (by omega) ?_
        have hK2 := Kc.of (f13.mono (fun c k g => Or.inl g)) hT q12T ow10
        refine e_Ok.callV rfl (by omega) rfl rfl rfl rfl (c_77_r (by omega) hT q12T hK2 hF) (fun r14 w15 h16 => ?_)
        obtain ⟨⟨⟨rfl, q17f, q17T, q17x⟩, -, q17r⟩, q17o⟩ := h16
        have f18 : e_fr kNw w w15 := e_fr.trans f13 (e_fr.mono q17f (fun c k q => by exact nw_kFl q))
        have ow15 : ∀ c k, e_out elay c k → w15 c k = w c k := fun c k g => (q17o c k g).trans (ow10 c k g)
        have A2 : ∀ a, 0 ≤ a → a ≤ 3 → rwA w w15 a := fun a g1 g2 => (A1 a g1 g2).fr q12T q17T (fun c k g => nw_kFl g) ⟨g1, g2⟩ q17f (fun c k g3 g4 => by unfold kFl; omega)
        have P2 : rwP w w15 := P1.fr q17f (fun c k g3 g4 => by unfold kFl; omega)
        have F2 : rwF w w15 := ⟨q17x, fun c k g1 g2 => q17r c k g2⟩
        show e_Ok 20 elay kcode eI (d + 1) 252 (36, [(0, (1, 0)), (1, (0, y1))], [], w15) _
        refine e_Ok.run (t' := (37, [(0, (1, 0)), (1, (0, y1))], [(1, 0)], w15)) 1 rfl ?_
        refine e_Ok.getr (z := 74) rfl (el_o rfl) rfl rfl ((q17f 0 5 (by unfold kFl; omega)).trans ((q12f 0 5 (by unfold kPr; omega)).trans ((j3 0 5 (by unfold kNw; omega)).trans (Eq.trans (e_Has.eq hT rfl) (by omega))))) (by omega) ?_
        refine e_Ok.callV rfl (by omega) rfl rfl rfl rfl (e_Ok.out kAlk (c_26 q17T)) (fun r19 w20 h21 => ?_)
        obtain ⟨⟨rfl, q22f, q22T, q22x⟩, q22o⟩ := h21
        have f23 : e_fr kNw w w20 := e_fr.trans f18 (e_fr.mono q22f (fun c k q => by exact nw_kCr q))
        have ow20 : ∀ c k, e_out elay c k → w20 c k = w c k := fun c k g => (q22o c k g).trans (ow15 c k g)
        have A3 : ∀ a, 0 ≤ a → a ≤ 3 → rwA w w20 a := fun a g1 g2 => (A2 a g1 g2).fr q17T q22T (fun c k g => nw_kCr g) ⟨g1, g2⟩ q22f (fun c k g3 g4 => by unfold kCr; omega)
        have P3 : rwP w w20 := P2.fr q22f (fun c k g3 g4 => by unfold kCr; omega)
        have F3 : rwF w w20 := F2.fr (by have g := e_Has.get q17T (c := 19) (k := 0) (lo := 0) (hi := 4) rfl (by decide); omega) q22f (fun c k g3 g4 => by unfold kCr; omega) (fun k => by unfold kCr; omega)
        show e_Ok 20 elay kcode eI (d + 1) 252 (43, [(0, (1, 0)), (1, (0, y1))], [], w20) _
        refine e_Ok.run (t' := (44, [(0, (1, 0)), (1, (0, y1))], [(1, 0)], w20)) 1 rfl ?_
        refine e_Ok.getr (z := 8) rfl (el_o rfl) rfl rfl ((q22f 0 1 (by unfold kCr; omega)).trans ((q17f 0 1 (by unfold kFl; omega)).trans ((q12f 0 1 (by unfold kPr; omega)).trans ((j3 0 1 (by unfold kNw; omega)).trans (Eq.trans (e_Has.eq hT rfl) (by omega)))))) (by omega) ?_
        refine e_Ok.callV rfl (by omega) rfl rfl rfl rfl (e_Ok.out kAlk (c_35 (by omega) q22T)) (fun r24 w25 h26 => ?_)
        obtain ⟨⟨rfl, q27f, q27T, q27x⟩, q27o⟩ := h26
        have f28 : e_fr kNw w w25 := e_fr.trans f23 (e_fr.mono q27f (fun c k q => by exact nw_kDr q))
        have ow25 : ∀ c k, e_out elay c k → w25 c k = w c k := fun c k g => (q27o c k g).trans (ow20 c k g)
        have A4 : ∀ a, 0 ≤ a → a ≤ 3 → rwA w w25 a := fun a g1 g2 => (A3 a g1 g2).fr q22T q27T (fun c k g => nw_kDr g) ⟨g1, g2⟩ q27f (fun c k g3 g4 => by unfold kDr; omega)
        have P4 : rwP w w25 := P3.fr q27f (fun c k g3 g4 => by unfold kDr; omega)
        have F4 : rwF w w25 := F3.fr (by have g := e_Has.get q22T (c := 19) (k := 0) (lo := 0) (hi := 4) rfl (by decide); omega) q27f (fun c k g3 g4 => by unfold kDr; omega) (fun k => by unfold kDr; omega)
        have C4 : cR0 w25 := cR0.fr q27f (fun c k g3 g4 => by unfold kDr; omega) q22x
        show e_Ok 20 elay kcode eI (d + 1) 252 (50, [(0, (1, 0)), (1, (0, y1))], [], w25) _
        refine e_Ok.run (t' := (51, [(0, (1, 0)), (1, (0, y1))], [(1, 0)], w25)) 1 rfl ?_
        refine e_Ok.getr (z := 272) rfl (el_o rfl) rfl rfl ((q27f 0 8 (by unfold kDr; omega)).trans ((q22f 0 8 (by unfold kCr; omega)).trans ((q17f 0 8 (by unfold kFl; omega)).trans ((q12f 0 8 (by unfold kPr; omega)).trans ((j3 0 8 (by unfold kNw; omega)).trans (Eq.trans (e_Has.eq hT rfl) (by omega))))))) (by omega) ?_
        refine e_Ok.run (t' := (55, [(0, (1, 0)), (1, (0, y1))], [(0, 0), (1, 272)], w25)) 1 rfl ?_
        refine e_Ok.callS rfl (by omega) rfl rfl (e_Ok.out kAlk (c_452_72 q27T)) (fun r29 w30 h31 => ?_)
        obtain ⟨⟨rfl, q32f, q32T, q32x⟩, q32o⟩ := h31
        have f33 : e_fr kNw w w30 := e_fr.trans f28 (e_fr.mono q32f (fun c k q => by exact nw_kF72 q))
        have ow30 : ∀ c k, e_out elay c k → w30 c k = w c k := fun c k g => (q32o c k g).trans (ow25 c k g)
        have A5 : ∀ a, 0 ≤ a → a ≤ 3 → rwA w w30 a := fun a g1 g2 => (A4 a g1 g2).fr q27T q32T (fun c k g => nw_kF72 g) ⟨g1, g2⟩ q32f (fun c k g3 g4 => by unfold kF72; omega)
        have P5 : rwP w w30 := P4.fr q32f (fun c k g3 g4 => by unfold kF72; omega)
        have F5 : rwF w w30 := F4.fr (by have g := e_Has.get q27T (c := 19) (k := 0) (lo := 0) (hi := 4) rfl (by decide); omega) q32f (fun c k g3 g4 => by unfold kF72; omega) (fun k => by unfold kF72; omega)
        have C5 : cR0 w30 := cR0.fr q32f (fun c k g3 g4 => by unfold kF72; omega) C4
        have D5 : rwD w30 := ⟨fun t g1 g2 => (q27x.1 t g1 g2).fr q32f (fun k => by unfold kF72; omega), fun k g1 g2 => by rw [q32f _ _ (by unfold kF72; omega)]; exact q27x.2.1 k g1 g2, by rw [q32f _ _ (by unfold kF72; omega)]; exact q27x.2.2⟩
        show e_Ok 20 elay kcode eI (d + 1) 252 (58, [(0, (1, 0)), (1, (0, y1))], [], w30) _
        refine e_Ok.rets rfl rfl ?_
        exact ⟨rfl, f33, q32T, ow30, A5, F5, P5, C5, D5, q32x⟩
      · replace h8 : (y1 : Int) < 4 := by have q : ¬ ((y1 : Int) ≥ 4) := h8; omega
        refine e_Ok.run (t' := (8, [(0, (1, 0)), (1, (0, y1))], [(1, 0)], v1)) 1 rfl ?_
        refine e_Ok.getr (z := 9) rfl (el_o rfl) rfl rfl ((j3 0 2 (by unfold kNw; omega)).trans (Eq.trans (e_Has.eq hT rfl) (by omega))) (by omega) ?_
        refine e_Ok.run (t' := (12, [(0, (1, 0)), (1, (0, y1))], [(0, y1), (1, 9)], v1)) 1 rfl ?_
        refine e_Ok.aald (z := 17 * y1 + 86) rfl (el_o rfl) rfl (by omega) ((j3 9 y1 (by unfold kNw; omega)).trans (Eq.trans (e_Has.eq hT (k9 (by omega))) (by omega))) (by omega) ?_
        have hK := Kc.of (j3.mono (fun c k g => Or.inl g)) hT j4 j5
        refine e_Ok.callV rfl (by omega) rfl (lA0 (a := y1) (by omega) (by omega)) rfl rfl (c_3_r (by omega) (a := y1) hT j4 hK (by omega) (hX y1 (by omega) (by omega)).1 (hX y1 (by omega) (by omega)).2) (fun r34 w35 h36 => ?_)
        obtain ⟨⟨⟨rfl, q37f, q37T, q37x⟩, -, q37r⟩, q37o⟩ := h36
        have f38 : e_fr kNw w w35 := e_fr.trans j3 (e_fr.mono q37f (fun c k q => by exact nw_kAr (by omega) q))
        have ow35 : ∀ c k, e_out elay c k → w35 c k = w c k := fun c k g => (q37o c k g).trans (j5 c k g)
        show e_Ok 20 elay kcode eI (d + 1) 252 (16, [(0, (1, 0)), (1, (0, y1))], [], w35) _
        refine e_Ok.inc (z := y1 + 1) rfl rfl (by omega) (by omega) ?_
        show e_Ok 20 elay kcode eI (d + 1) 252 (19, [(1, (0, y1 + 1)), (0, (1, 0))], [], w35) _
        refine e_Ok.run (t' := (2, [(1, (0, y1 + 1)), (0, (1, 0))], [], w35)) 1 rfl ?_
        refine e_Ok.sub kAlk (e_sub_of rfl ?_) (ih2 (y1 + 1) w35 ⟨f38, q37T, ow35, (fun i g1 g2 => by by_cases e : i = y1; (rw [e]; exact ⟨q37x.1, fun c k g3 g4 => q37r c k g4, q37x.2⟩); (exact (j6 i g1 (by omega)).fr j4 q37T (fun c k g => nw_kAr (by omega) g) (by omega) q37f (fun c k g3 g4 g5 => by have g6 := g5.rg; omega))), by omega⟩ (by omega))
        exact ⟨rfl, rfl, trivial⟩
  refine e_Ok.sub kAlk (e_sub_of rfl ?_) (hL1 (4 + 1 : Int).toNat 0 w ⟨(e_fr.refl w), hT, (fun _ _ _ => rfl), (fun i g1 g2 => by omega), by omega⟩ (by omega))
  exact ⟨rfl, rfl, trivial⟩
end
