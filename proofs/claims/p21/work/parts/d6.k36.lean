noncomputable section
/-! the class: the book is written -/
def kBo (c k : Int) : Prop := c = 273 ∨ (c = 0 ∧ k = 12)
def kNv (c k : Int) : Prop := kNw c k ∨ c = 273 ∨ (c = 0 ∧ k = 12)
section D6
variable {w w1 v V s : eW} {OP OD CL : Int → Int → Int} {S : Int → eW}
def wrX (w w1 : eW) (x a b c : Int) : Prop := w1 0 12 = w 0 12 + 1 ∧ (∀ k, k < 4 * w 0 12 → w1 273 k = w 273 k) ∧ w1 273 (4 * w 0 12) = x ∧ w1 273 (4 * w 0 12 + 1) = a ∧ w1 273 (4 * w 0 12 + 2) = b ∧ w1 273 (4 * w 0 12 + 3) = c
theorem bo_x {c k : Int} (h : kBo c k) : isX c k ∧ ¬ (269 ≤ c ∧ c ≤ 271) := by
  unfold kBo at h
  rcases h with rfl | ⟨rfl, rfl⟩
  · exact ⟨Or.inl ⟨by omega, (by decide : (1 : Int) ≠ 0)⟩, by omega⟩
  · exact ⟨Or.inl ⟨by omega, (by decide : (1 : Int) ≠ 0)⟩, by omega⟩
theorem x_nw {c k : Int} (h : isX0 c k) : ¬ kNw c k := by
  have h1 := h.1
  intro g
  unfold kNw at g
  rcases g with g | g | g | g | g | g | g | g | g | g | g | g | g | g | g | g | g <;> omega
theorem nx74 {k : Int} : ¬ isX 74 k := fun h => by
  rcases h with h | h
  · have h1 := h.1; omega
  · omega
theorem yD.dn {w' : eW} {n m y : Int} (h : ∀ c k, kYs n c k → w' c k = w c k) (hy : 0 ≤ y ∧ y < n) (q : yD w m y) : yD w' m y := by
  obtain ⟨q1, q2, q3⟩ := q
  have e0 : w' 270 y = w 270 y := h _ _ (by unfold kYs; omega)
  have e1 : w' 271 y = w 271 y := h _ _ (by unfold kYs; omega)
  refine ⟨by rw [e0]; exact q1, by rw [e1]; exact q2, fun k g1 g2 => ?_⟩
  rw [e0] at g2
  rw [h 269 _ (by unfold kYs; omega)]
  exact q3 k g1 g2
theorem yP.dn {w' : eW} {n a m y s : Int} {u u' : Int → Int} (h : ∀ c k, kYs n c k → w' c k = w c k) (hy : 0 ≤ y ∧ y < n) (hs : 0 ≤ s) (hd : yD w m y) (hl : ∀ j, 0 ≤ j → j < m → w' (17 * a + j + 97) 1 = w (17 * a + j + 97) 1 ∧ w' (17 * a + j + 97) 2 = w (17 * a + j + 97) 2) (hv : ∀ j, 0 ≤ j → j < m → u' j = u j) (q : yP w a m y s u) : yP w' a m y s u' := by
  have d1 := hd.1
  have e0 : w' 270 y = w 270 y := h _ _ (by unfold kYs; omega)
  have e1 : w' 271 y = w 271 y := h _ _ (by unfold kYs; omega)
  obtain ⟨N, q1, q2⟩ := q
  refine ⟨N, fun j g1 g2 => by rw [hv j g1 g2]; exact q1 j g1 g2, fun k g1 g2 j g3 g4 => ?_⟩
  rw [e0] at g2
  rw [h 269 _ (by unfold kYs; omega), e1, (hl j g3 g4).1, (hl j g3 g4).2]
  exact q2 k g1 g2 j g3 g4
/-- what may be done here, may be done from what is known -/
theorem rwC.dn {h t0 x a b c : Int} (q : kI (pj w s) OP OD CL h t0) (hw : e_rf (pj w s) w) (hb : x = 10 → b < w 262 0) (hR : rwC w x a b c) : rwC (pj w s) x a b c := by
  have hT := q.1
  have hC := q.cd
  have e86 : ∀ a k, 0 ≤ a → a ≤ 3 → (k = 7 ∨ k = 8 ∨ k = 11 ∨ k = 17 ∨ k = 19) → pj w s (17 * a + 86) k = w (17 * a + 86) k := fun a k g1 g2 g3 => by
    by_cases e : k = 7
    · rw [e]; exact ((kn_cd (hC a g1 g2)).rf hw).symm
    · exact (kq_A hT hw ⟨g1, g2⟩ (by omega)).symm
  have hn : ∀ a, 0 ≤ a → a ≤ 3 → w (17 * a + 86) 8 ≤ 6 := fun a g1 g2 => by have z := kn_joints hT ⟨g1, g2⟩; rw [e86 a 8 g1 g2 (by omega)] at z; exact z.2
  have eJ : ∀ a j k, 0 ≤ a → a ≤ 3 → 0 ≤ j → j < w (17 * a + 86) 8 → (k = 1 ∨ k = 2 ∨ k = 7) → pj w s (17 * a + j + 97) k = w (17 * a + j + 97) k := fun a j k g1 g2 g3 g4 g5 => by
    have z := hn a g1 g2
    exact (kq_J hT hw ⟨g1, g2⟩ (by omega) (by omega)).symm
  refine hR.eq e86 eJ (hT.kq hw (c := 74) (k := 3) (lo := 0) (hi := 1) rfl (by decide) (by decide) (by decide)).symm (fun a g1 g2 => ?_) (fun g => ?_)
  · have z := (hT.kq hw (kD_1 (hC a g1 g2)) (by decide) (by decide) (by decide)).symm
    rw [e86 a 7 g1 g2 (by omega)] at z
    exact z
  · have z := hR.2.2.2.2.2.2.2.2.1 g
    have hy : ∀ c k, kYs (w 262 0) c k → pj w s c k = w c k := fun c k g => pj_y g
    have hb2 := hb g
    exact ⟨z.2.2.2.1.dn hy ⟨z.2.1.1, hb2⟩, z.2.2.2.2.dn hy ⟨z.2.1.1, hb2⟩ (by decide) z.2.2.2.1 (fun j g1 g2 => ⟨eJ a j 1 z.1.1 z.1.2 g1 g2 (by omega), eJ a j 2 z.1.1 z.1.2 g1 g2 (by omega)⟩) (fun j g1 g2 => eJ a j 7 z.1.1 z.1.2 g1 g2 (by omega))⟩
theorem aP.bo {a : Int} (f : e_fr kBo w w1) (hT : e_Has kTy w) (hT' : e_Has kTy w1) (ga : 0 ≤ a ∧ a ≤ 3) (h : aP w a) : aP w1 a := by
  have hjn := kn_joints hT ga
  refine h.eq (f _ _ (by unfold kBo; omega)) (fun c k q => ?_) (fun k g => ⟨f _ _ (by unfold kBo; omega), f _ _ (by unfold kBo; omega)⟩)
  rcases q with q | ⟨j, hj, rfl, rfl⟩
  · exact Kq.of (f.mono (fun c k g => by unfold kBo at g; unfold kNh; omega)) hT hT' c k q
  · exact f _ _ (by unfold kBo; omega)
theorem bo_nh {c k : Int} (h : kBo c k) : kNh c k := by unfold kBo at h; unfold kNh; omega
/-- a row was written, and the cell went on -/
theorem kB.wr {x a b c hh : Int} (q : kB w OP OD CL S) (hT : e_Has kTy w) (hTv : e_Has kTy v) (hn : w 0 12 ≤ 1999) (hT1 : e_Has kTy w1) (f1 : e_fr kBo w w1) (o1 : ∀ c k, e_out elay c k → w1 c k = w c k) (x1 : wrX w w1 x a b c) (f2 : e_fr kNw w1 v) (o2 : ∀ c k, e_out elay c k → v c k = w1 c k) (hk : kn1 x ∧ kn1 a ∧ kn1 b ∧ kn1 c) (h0 : 0 ≤ hh) (hI : kI V OP OD CL hh (-1)) (fV : e_fr kNw (pj w (S (w 0 12))) V) (he : V 74 1 ≤ 16 * (w 0 12 + 1) + 900 * V 74 0) (hx : e_rx V v) (hA : aQ w1 v) (hR : rws (pj w (S (w 0 12))) OP OD CL x a b c V) : ∃ S', kB v OP OD CL S' := by
  have fN : e_fr kNh w v := e_fr.trans (f1.mono (fun c k g => bo_nh g)) (f2.mono (fun c k g => Or.inl g))
  have e0 : ∀ c k, (c = 0 ∨ c = 273 ∨ (262 ≤ c ∧ c ≤ 271)) → v c k = w1 c k := fun c k g => f2 c k (by unfold kNw; omega)
  have e1 : ∀ c k, (262 ≤ c ∧ c ≤ 271) → w1 c k = w c k := fun c k g => f1 c k (by unfold kBo; omega)
  obtain ⟨x2, x3, x4, x5, x6, x7⟩ := x1
  refine ⟨_, q.add (Kc.of fN hT hTv (fun c k g => (o2 c k g).trans (o1 c k g))) hn (by rw [e0 0 12 (by omega)]; exact x2) (by rw [e0 262 0 (by omega), e1 262 0 (by omega)]) (fun c k g1 g2 => by rw [e0 c k (by omega), e1 c k (by omega)]) (fun k g => by rw [e0 273 k (by omega)]; exact x3 k g) ⟨by rw [e0 273 _ (by omega)]; exact x4, by rw [e0 273 _ (by omega)]; exact x5, by rw [e0 273 _ (by omega)]; exact x6, by rw [e0 273 _ (by omega)]; exact x7⟩ hk ⟨hh, h0, hI⟩ (fun c k g => fV c k (x_nw g)) he hx (fun a g1 g2 => hA a g1 g2 (aP.bo f1 hT hT1 ⟨g1, g2⟩ (q.2.1.2 a g1 g2))) hR⟩
theorem kB.ev {i : Int} (q : kB w OP OD CL S) (hi : 0 ≤ i ∧ i ≤ w 0 12) : (∃ h, 0 ≤ h ∧ kI (pj w (S i)) OP OD CL h (-1)) ∧ pj w (S i) 74 1 ≤ 16 * i + 900 * pj w (S i) 74 0 ∧ pj w (S i) 74 0 ≤ 6000 ∧ pj w (S i) 74 1 ≤ 6000000 := by
  obtain ⟨⟨hh, h0, h1⟩, h2⟩ := q.2.2.2.2.1 i hi.1 hi.2
  have h3 := e_Has.get h1.1 (c := 74) (k := 0) (lo := 0) (hi := 6000) rfl (by decide)
  have h4 := q.1.1
  rw [pj_n nx74, pj_n nx74] at *
  exact ⟨⟨hh, h0, h1⟩, h2, h3.2, by omega⟩
section
variable {a b c : Int}
theorem rwC.k0 (h : (0 ≤ a ∧ a ≤ 3) ∧ 0 ≤ b ∧ b < w (w (17 * a + 86) 7) 1) : rwC w 0 a b c := ⟨by decide, fun _ => h, fun g => absurd g (by decide), fun g => absurd g (by decide), fun g => absurd g (by decide), fun g => absurd g (by decide), fun g => absurd g (by decide), fun g => absurd g (by decide), fun g => absurd g (by decide), fun g => absurd g (by decide)⟩
theorem rwC.k2 (h : 0 ≤ a ∧ a ≤ 63) : rwC w 2 a b c := ⟨by decide, fun g => absurd g (by decide), fun _ => h, fun g => absurd g (by decide), fun g => absurd g (by decide), fun g => absurd g (by decide), fun g => absurd g (by decide), fun g => absurd g (by decide), fun g => absurd g (by decide), fun g => absurd g (by decide)⟩
theorem rwC.k3 (h : 0 ≤ a ∧ a ≤ 63) : rwC w 3 a b c := ⟨by decide, fun g => absurd g (by decide), fun _ => h, fun g => absurd g (by decide), fun g => absurd g (by decide), fun g => absurd g (by decide), fun g => absurd g (by decide), fun g => absurd g (by decide), fun g => absurd g (by decide), fun g => absurd g (by decide)⟩
theorem rwC.k4 (h : 0 ≤ a ∧ a ≤ 7) : rwC w 4 a b c := ⟨by decide, fun g => absurd g (by decide), fun g => absurd g (by decide), fun _ => h, fun g => absurd g (by decide), fun g => absurd g (by decide), fun g => absurd g (by decide), fun g => absurd g (by decide), fun g => absurd g (by decide), fun g => absurd g (by decide)⟩
theorem rwC.k5 : rwC w 5 a b c := ⟨by decide, fun g => absurd g (by decide), fun g => absurd g (by decide), fun g => absurd g (by decide), fun g => absurd g (by decide), fun g => absurd g (by decide), fun g => absurd g (by decide), fun g => absurd g (by decide), fun g => absurd g (by decide), fun g => absurd g (by decide)⟩
theorem rwC.k6 (h : -1 ≤ a ∧ a ≤ 3) : rwC w 6 a b c := ⟨by decide, fun g => absurd g (by decide), fun g => absurd g (by decide), fun g => absurd g (by decide), fun _ => h, fun g => absurd g (by decide), fun g => absurd g (by decide), fun g => absurd g (by decide), fun g => absurd g (by decide), fun g => absurd g (by decide)⟩
theorem rwC.k7 (h : 0 ≤ a ∧ a ≤ 3) : rwC w 7 a b c := ⟨by decide, fun g => absurd g (by decide), fun g => absurd g (by decide), fun g => absurd g (by decide), fun g => absurd g (by decide), fun _ => h, fun g => absurd g (by decide), fun g => absurd g (by decide), fun g => absurd g (by decide), fun g => absurd g (by decide)⟩
theorem rwC.k8 (h : (0 ≤ a ∧ a ≤ 3) ∧ (0 ≤ b ∧ b < w (17 * a + 86) 8) ∧ w (17 * a + 86) 11 = 0 ∧ w (17 * a + b + 97) 1 ≤ c ∧ c ≤ w (17 * a + b + 97) 2) : rwC w 8 a b c := ⟨by decide, fun g => absurd g (by decide), fun g => absurd g (by decide), fun g => absurd g (by decide), fun g => absurd g (by decide), fun g => absurd g (by decide), fun _ => h, fun g => absurd g (by decide), fun g => absurd g (by decide), fun g => absurd g (by decide)⟩
theorem rwC.k9 (h : 0 ≤ a ∧ a ≤ 5) : rwC w 9 a b c := ⟨by decide, fun g => absurd g (by decide), fun g => absurd g (by decide), fun g => absurd g (by decide), fun g => absurd g (by decide), fun g => absurd g (by decide), fun g => absurd g (by decide), fun _ => h, fun g => absurd g (by decide), fun g => absurd g (by decide)⟩
theorem rwC.k10 (h : (0 ≤ a ∧ a ≤ 3) ∧ (0 ≤ b ∧ b ≤ 59) ∧ w (17 * a + 86) 11 = 0 ∧ yD w (w (17 * a + 86) 8) b ∧ yP w a (w (17 * a + 86) 8) b 0 (fun j => w (17 * a + j + 97) 7)) : rwC w 10 a b c := ⟨by decide, fun g => absurd g (by decide), fun g => absurd g (by decide), fun g => absurd g (by decide), fun g => absurd g (by decide), fun g => absurd g (by decide), fun g => absurd g (by decide), fun g => absurd g (by decide), fun _ => h, fun g => absurd g (by decide)⟩
theorem rwC.k11 (h : (0 ≤ a ∧ a ≤ 3) ∧ 0 ≤ w (17 * a + 86) 17 ∧ w (17 * a + 86) 11 = 0 ∧ w (17 * a + 86) 19 = 0 ∧ ¬ w 74 3 = 0) : rwC w 11 a b c := ⟨by decide, fun g => absurd g (by decide), fun g => absurd g (by decide), fun g => absurd g (by decide), fun g => absurd g (by decide), fun g => absurd g (by decide), fun g => absurd g (by decide), fun g => absurd g (by decide), fun g => absurd g (by decide), fun _ => h⟩
end
/-- what a call that is written down leaves -/
def opK (w w' : eW) : Prop := w' = w ∨ (w 0 13 = 1 ∧ e_fr kNv w w' ∧ ∃ OP OD CL S, kB w' OP OD CL S)
end D6
theorem c_253 {d : Nat} {w : eW} (h12 : 0 ≤ w 0 12 ∧ w 0 12 ≤ 2000) : e_Ok 20 elay kcode eI d 253 (0, [(0, (1, 0))], [], w) (fun r w' => ∃ z : Int, r = [(0, z)] ∧ w = w' ∧ (0 ≤ z ∧ z ≤ 1) ∧ ((z = 1 ∧ w 0 12 < 2000) ∨ (z = 0 ∧ 2000 ≤ w 0 12))) := by
  refine e_Ok.run (t' := (1, [(0, (1, 0))], [(1, 0)], w)) 1 rfl ?_
  refine e_Ok.getf (z := w 0 12) rfl (el_o rfl) rfl rfl rfl (by omega) ?_
  refine e_Ok.run (t' := (7, [(0, (1, 0))], [(0, 2000), (0, w 0 12)], w)) 1 rfl ?_
  refine e_Ok.if2 rfl (fun h1 => ?_) (fun h1 => ?_)
  · replace h1 : (w 0 12 : Int) ≥ 2000 := h1
    refine e_Ok.run (t' := (15, [(0, (1, 0))], [(0, 0)], w)) 1 rfl ?_
    refine e_Ok.rets rfl rfl ?_
    exact ⟨_, rfl, rfl, ⟨by omega, by omega⟩, by omega⟩
  · replace h1 : (w 0 12 : Int) < 2000 := by have q : ¬ ((w 0 12 : Int) ≥ 2000) := h1; omega
    refine e_Ok.run (t' := (15, [(0, (1, 0))], [(0, 1)], w)) 2 rfl ?_
    refine e_Ok.rets rfl rfl ?_
    exact ⟨_, rfl, rfl, ⟨by omega, by omega⟩, by omega⟩
theorem c_254 {d : Nat} {w : eW} (hT : e_Has kTy w) {x a b c : Int} (g_x : -2147483648 ≤ x ∧ x ≤ 2147483647) (g_a : -2147483648 ≤ a ∧ a ≤ 2147483647) (g_b : -2147483648 ≤ b ∧ b ≤ 2147483647) (g_c : -2147483648 ≤ c ∧ c ≤ 2147483647) (h12 : 0 ≤ w 0 12 ∧ w 0 12 ≤ 1999) : e_Ok 20 elay kcode eI d 254 (0, [(0, (1, 0)), (1, (0, x)), (2, (0, a)), (3, (0, b)), (4, (0, c))], [], w) (fun r w' => r = [] ∧ e_fr kBo w w' ∧ e_Has kTy w' ∧ wrX w w' x a b c) := by
  refine e_Ok.run (t' := (1, [(0, (1, 0)), (1, (0, x)), (2, (0, a)), (3, (0, b)), (4, (0, c))], [(1, 0)], w)) 1 rfl ?_
  refine e_Ok.getf (z := w 0 12) rfl (el_o rfl) rfl rfl rfl (by omega) ?_
  refine e_Ok.run (t' := (5, [(0, (1, 0)), (1, (0, x)), (2, (0, a)), (3, (0, b)), (4, (0, c))], [(0, 4), (0, w 0 12)], w)) 1 rfl ?_
  refine e_Ok.mul (z := 4 * w 0 12) rfl (by omega) (by omega) ?_
  refine e_Ok.run (t' := (9, [(5, (0, 4 * w 0 12)), (0, (1, 0)), (1, (0, x)), (2, (0, a)), (3, (0, b)), (4, (0, c))], [(1, 0)], w)) 2 rfl ?_
  refine e_Ok.getr (z := 273) rfl (el_o rfl) rfl rfl (Eq.trans (e_Has.eq hT rfl) (by omega)) (by omega) ?_
  refine e_Ok.run (t' := (15, [(5, (0, 4 * w 0 12)), (0, (1, 0)), (1, (0, x)), (2, (0, a)), (3, (0, b)), (4, (0, c))], [(0, x), (0, 4 * w 0 12), (1, 273)], w)) 2 rfl ?_
  refine e_Ok.ast rfl (el_o rfl) rfl rfl (by omega) ?_
  generalize hw1 : e_up w 273 (4 * w 0 12) x = w1
  have f2 : e_fr kBo w w1 := e_fr.up (e_fr.refl w) hw1 (by unfold kBo; omega)
  have hT3 : e_Has kTy w1 := e_Has.ups hT hw1 rfl
  refine e_Ok.run (t' := (17, [(5, (0, 4 * w 0 12)), (0, (1, 0)), (1, (0, x)), (2, (0, a)), (3, (0, b)), (4, (0, c))], [(1, 0)], w1)) 1 rfl ?_
  refine e_Ok.getr (z := 273) rfl (el_o rfl) rfl rfl (by rw [← hw1]; exact (e_up_ne _ _ (Or.inl (by omega))).trans (Eq.trans (e_Has.eq hT rfl) (by omega))) (by omega) ?_
  refine e_Ok.run (t' := (23, [(5, (0, 4 * w 0 12)), (0, (1, 0)), (1, (0, x)), (2, (0, a)), (3, (0, b)), (4, (0, c))], [(0, 1), (0, 4 * w 0 12), (1, 273)], w1)) 2 rfl ?_
  refine e_Ok.add (z := 4 * w 0 12 + 1) rfl (by omega) (by omega) ?_
  refine e_Ok.run (t' := (25, [(5, (0, 4 * w 0 12)), (0, (1, 0)), (1, (0, x)), (2, (0, a)), (3, (0, b)), (4, (0, c))], [(0, a), (0, 4 * w 0 12 + 1), (1, 273)], w1)) 1 rfl ?_
  refine e_Ok.ast rfl (el_o rfl) rfl rfl (by omega) ?_
  generalize hw4 : e_up w1 273 (4 * w 0 12 + 1) a = w4
  have f5 : e_fr kBo w w4 := e_fr.up f2 hw4 (by unfold kBo; omega)
  have hT6 : e_Has kTy w4 := e_Has.ups hT3 hw4 rfl
  refine e_Ok.run (t' := (27, [(5, (0, 4 * w 0 12)), (0, (1, 0)), (1, (0, x)), (2, (0, a)), (3, (0, b)), (4, (0, c))], [(1, 0)], w4)) 1 rfl ?_
  refine e_Ok.getr (z := 273) rfl (el_o rfl) rfl rfl (by rw [← hw4]; exact (e_up_ne _ _ (Or.inl (by omega))).trans (by rw [← hw1]; exact (e_up_ne _ _ (Or.inl (by omega))).trans (Eq.trans (e_Has.eq hT rfl) (by omega)))) (by omega) ?_
  refine e_Ok.run (t' := (33, [(5, (0, 4 * w 0 12)), (0, (1, 0)), (1, (0, x)), (2, (0, a)), (3, (0, b)), (4, (0, c))], [(0, 2), (0, 4 * w 0 12), (1, 273)], w4)) 2 rfl ?_
  refine e_Ok.add (z := 4 * w 0 12 + 2) rfl (by omega) (by omega) ?_
  refine e_Ok.run (t' := (35, [(5, (0, 4 * w 0 12)), (0, (1, 0)), (1, (0, x)), (2, (0, a)), (3, (0, b)), (4, (0, c))], [(0, b), (0, 4 * w 0 12 + 2), (1, 273)], w4)) 1 rfl ?_
  refine e_Ok.ast rfl (el_o rfl) rfl rfl (by omega) ?_
  generalize hw7 : e_up w4 273 (4 * w 0 12 + 2) b = w7
  have f8 : e_fr kBo w w7 := e_fr.up f5 hw7 (by unfold kBo; omega)
  have hT9 : e_Has kTy w7 := e_Has.ups hT6 hw7 rfl
  refine e_Ok.run (t' := (37, [(5, (0, 4 * w 0 12)), (0, (1, 0)), (1, (0, x)), (2, (0, a)), (3, (0, b)), (4, (0, c))], [(1, 0)], w7)) 1 rfl ?_
  refine e_Ok.getr (z := 273) rfl (el_o rfl) rfl rfl (by rw [← hw7]; exact (e_up_ne _ _ (Or.inl (by omega))).trans (by rw [← hw4]; exact (e_up_ne _ _ (Or.inl (by omega))).trans (by rw [← hw1]; exact (e_up_ne _ _ (Or.inl (by omega))).trans (Eq.trans (e_Has.eq hT rfl) (by omega))))) (by omega) ?_
  refine e_Ok.run (t' := (43, [(5, (0, 4 * w 0 12)), (0, (1, 0)), (1, (0, x)), (2, (0, a)), (3, (0, b)), (4, (0, c))], [(0, 3), (0, 4 * w 0 12), (1, 273)], w7)) 2 rfl ?_
  refine e_Ok.add (z := 4 * w 0 12 + 3) rfl (by omega) (by omega) ?_
  refine e_Ok.run (t' := (46, [(5, (0, 4 * w 0 12)), (0, (1, 0)), (1, (0, x)), (2, (0, a)), (3, (0, b)), (4, (0, c))], [(0, c), (0, 4 * w 0 12 + 3), (1, 273)], w7)) 1 rfl ?_
  refine e_Ok.ast rfl (el_o rfl) rfl rfl (by omega) ?_
  generalize hw10 : e_up w7 273 (4 * w 0 12 + 3) c = w10
  have f11 : e_fr kBo w w10 := e_fr.up f8 hw10 (by unfold kBo; omega)
  have hT12 : e_Has kTy w10 := e_Has.ups hT9 hw10 rfl
  refine e_Ok.run (t' := (49, [(5, (0, 4 * w 0 12)), (0, (1, 0)), (1, (0, x)), (2, (0, a)), (3, (0, b)), (4, (0, c))], [(1, 0), (1, 0)], w10)) 2 rfl ?_
  refine e_Ok.getf (z := w 0 12) rfl (el_o rfl) rfl rfl (by rw [← hw10]; exact (e_up_ne _ _ (Or.inl (by omega))).trans (by rw [← hw7]; exact (e_up_ne _ _ (Or.inl (by omega))).trans (by rw [← hw4]; exact (e_up_ne _ _ (Or.inl (by omega))).trans (by rw [← hw1]; exact (e_up_ne _ _ (Or.inl (by omega))).trans rfl)))) (by omega) ?_
  refine e_Ok.run (t' := (53, [(5, (0, 4 * w 0 12)), (0, (1, 0)), (1, (0, x)), (2, (0, a)), (3, (0, b)), (4, (0, c))], [(0, 1), (0, w 0 12), (1, 0)], w10)) 1 rfl ?_
  refine e_Ok.add (z := w 0 12 + 1) rfl (by omega) (by omega) ?_
  refine e_Ok.putf rfl (el_o rfl) rfl rfl ?_
  generalize hw13 : e_up w10 0 12 (w 0 12 + 1) = w13
  have f14 : e_fr kBo w w13 := e_fr.up f11 hw13 (by unfold kBo; omega)
  have hT15 : e_Has kTy w13 := e_Has.ups hT12 hw13 rfl
  refine e_Ok.rets rfl rfl ?_
  exact ⟨rfl, f14, hT15, (by rw [← hw13]; exact e_up_eq _ _ _ _), (fun k g => by rw [← hw13, e_up_ne _ _ (by omega), ← hw10, e_up_ne _ _ (by omega), ← hw7, e_up_ne _ _ (by omega), ← hw4, e_up_ne _ _ (by omega), ← hw1, e_up_ne _ _ (by omega)]), (by rw [← hw13]; exact (e_up_ne _ _ (Or.inl (by omega))).trans (by rw [← hw10]; exact (e_up_ne _ _ (Or.inr (by omega))).trans (by rw [← hw7]; exact (e_up_ne _ _ (Or.inr (by omega))).trans (by rw [← hw4]; exact (e_up_ne _ _ (Or.inr (by omega))).trans (by rw [← hw1]; exact e_up_eq _ _ _ _))))), (by rw [← hw13]; exact (e_up_ne _ _ (Or.inl (by omega))).trans (by rw [← hw10]; exact (e_up_ne _ _ (Or.inr (by omega))).trans (by rw [← hw7]; exact (e_up_ne _ _ (Or.inr (by omega))).trans (by rw [← hw4]; exact e_up_eq _ _ _ _)))), (by rw [← hw13]; exact (e_up_ne _ _ (Or.inl (by omega))).trans (by rw [← hw10]; exact (e_up_ne _ _ (Or.inr (by omega))).trans (by rw [← hw7]; exact e_up_eq _ _ _ _))), (by rw [← hw13]; exact (e_up_ne _ _ (Or.inl (by omega))).trans (by rw [← hw10]; exact e_up_eq _ _ _ _))⟩
theorem c_255 {d : Nat} (hd : 29 ≤ d) {w : eW} (hT : e_Has kTy w) {OP OD CL : Int → Int → Int} {S : Int → eW} (q : kB w OP OD CL S) (hO : w 0 13 = 1) {x a b c : Int} (g_x : -2147483648 ≤ x ∧ x ≤ 2147483647) (g_a : -2147483648 ≤ a ∧ a ≤ 2147483647) (g_b : -2147483648 ≤ b ∧ b ≤ 2147483647) (g_c : -2147483648 ≤ c ∧ c ≤ 2147483647) (hx : x ≠ 1) (hR : rwC w x a b c) (hb : x = 10 → b < w 262 0) : e_Ok 20 elay kcode eI d 255 (0, [(0, (1, 0)), (1, (0, x)), (2, (0, a)), (3, (0, b)), (4, (0, c))], [], w) (fun r w' => ∃ z : Int, r = [(0, z)] ∧ e_Has kTy w' ∧ opK w w') := by
  obtain ⟨d, rfl⟩ : ∃ e, d = e + 1 := ⟨d - 1, by omega⟩
  have h12 := q.1.1
  refine e_Ok.run (t' := (1, [(0, (1, 0)), (1, (0, x)), (2, (0, a)), (3, (0, b)), (4, (0, c))], [(1, 0)], w)) 1 rfl ?_
  refine e_Ok.callV rfl (by omega) rfl rfl rfl rfl (c_253 h12) (fun r1 w2 h3 => ?_)
  obtain ⟨z5, rfl, rfl, q4r, q4x⟩ := h3
  show e_Ok 20 elay kcode eI (d + 1) 255 (4, [(0, (1, 0)), (1, (0, x)), (2, (0, a)), (3, (0, b)), (4, (0, c))], [(0, z5)], w) _
  refine e_Ok.if1 rfl (fun h6 => ?_) (fun h6 => ?_)
  · replace h6 : (z5 : Int) ≠ 0 := h6
    refine e_Ok.run (t' := (16, [(0, (1, 0)), (1, (0, x)), (2, (0, a)), (3, (0, b)), (4, (0, c))], [(0, c), (0, b), (0, a), (0, x), (1, 0)], w)) 5 rfl ?_
    refine e_Ok.callV rfl (by omega) rfl rfl rfl rfl (e_Ok.out kAlk (c_254 hT g_x g_a g_b g_c (by omega))) (fun r7 w8 h9 => ?_)
    obtain ⟨⟨rfl, q10f, q10T, q10x⟩, q10o⟩ := h9
    have f11 : e_fr kNv w w8 := e_fr.trans (e_fr.refl w) (e_fr.mono q10f (fun c k q => by exact Or.inr q))
    show e_Ok 20 elay kcode eI (d + 1) 255 (19, [(0, (1, 0)), (1, (0, x)), (2, (0, a)), (3, (0, b)), (4, (0, c))], [], w8) _
    refine e_Ok.run (t' := (25, [(0, (1, 0)), (1, (0, x)), (2, (0, a)), (3, (0, b)), (4, (0, c))], [(0, c), (0, b), (0, a), (0, x), (1, 0)], w8)) 5 rfl ?_
    obtain ⟨⟨hh, h0, hU⟩, hev, he0, he1⟩ := q.ev (i := w 0 12) (by omega)
    have hUw := q.2.2.2.1.pj
    have hU1 : e_rf (pj w (S (w 0 12))) w8 := pj.rfo hUw (fun c k g => q10f c k (fun g2 => by have z := bo_x g2; rcases g with g | g; exact g z.1; exact z.2 g))
    refine e_Ok.callV rfl (by omega) rfl rfl rfl rfl (car_r (by omega) hU1 hU h0 (by omega) (rwC.dn hU hUw hb hR) g_a g_b g_c) (fun r12 w13 h14 => ?_)
    obtain ⟨⟨⟨z, rfl⟩, q15f, q15T, V, c1, c2, c3, c4, c5, c6, c7⟩, q15o⟩ := h14
    have f16 : e_fr kNv w w13 := e_fr.trans f11 (e_fr.mono q15f (fun c k q => by exact Or.inl q))
    show e_Ok 20 elay kcode eI (d + 1) 255 (28, [(0, (1, 0)), (1, (0, x)), (2, (0, a)), (3, (0, b)), (4, (0, c))], [(0, z)], w13) _
    refine e_Ok.rets rfl rfl ?_
    have hB := kB.wr q hT q15T (by omega) q10T q10f q10o q10x q15f q15o ⟨g_x, g_a, g_b, g_c⟩ h0 c2 c3 (by omega) c1.rx c7 (c6 (by omega))
    exact ⟨_, rfl, q15T, Or.inr ⟨hO, f16, OP, OD, CL, hB⟩⟩
  · replace h6 : (z5 : Int) = 0 := by have q : ¬ ((z5 : Int) ≠ 0) := h6; omega
    refine e_Ok.run (t' := (9, [(0, (1, 0)), (1, (0, x)), (2, (0, a)), (3, (0, b)), (4, (0, c))], [(0, (-3))], w)) 1 rfl ?_
    refine e_Ok.rets rfl rfl ?_
    exact ⟨_, rfl, hT, Or.inl rfl⟩
end
