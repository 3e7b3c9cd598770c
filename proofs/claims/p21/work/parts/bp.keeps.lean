noncomputable section
/-! what the model keeps from call to call: building -/
theorem hTy_none {c k : Int} (h : 282 ≤ c ∧ c ≤ 353) : hTy c k = (1, 0) := by
  have q : ∀ i, i < 72 → x_nthP hArr (i + 5) = (1, 0) := by decide
  have e : c.toNat - 275 = ((c - 282).toNat + 5) + 2 := by omega
  unfold hTy
  rw [e]
  exact q _ (by omega)
def mRel (w : eW) : Prop := e_Has mTy w ∧ e_Has hTy w ∧ (w 275 6 = 0 ∧ (w 275 3 = 0 → w 275 5 = 0)) ∧ ((w 275 3 = 0 ∧ ∃ G, bInvP w G) ∨ (w 275 3 = 1 ∧ ∃ G S, bkI w G S))
/-- what the tape, the arms and 'open' have to do with: as they were -/
def sm3 (w w' : eW) : Prop := w' 275 3 = w 275 3 ∧ w' 275 9 = w 275 9 ∧ w' 275 10 = w 275 10
theorem hT_F {w w' : eW} {f a b : Int} (hF : e_fr (mF f a b) w w') (h : e_Has hTy w) (hf : f = -1 ∨ f = 10 ∨ f = 23 ∨ f = 30 ∨ f = 42 ∨ f = 49) (hab : 282 ≤ a ∧ b ≤ 340) : e_Has hTy w' := h.fr (fun c k q => by
  rcases q with ⟨rfl, rfl⟩ | q
  · rcases hf with rfl | rfl | rfl | rfl | rfl | rfl <;> rfl
  · exact hTy_none (by omega)) hF
theorem mRel.bld {w w' : eW} {f a b : Int} (h : mRel w) (ho : w 275 3 = 0) (hF : e_fr (mF f a b) w w') (hT : e_Has mTy w') (hf : f = -1 ∨ f = 10 ∨ f = 23 ∨ f = 30 ∨ f = 42 ∨ f = 49) (hab : 282 ≤ a ∧ b ≤ 340) (hI : ∀ G, bInv w G → bInv w' G) : mRel w' ∧ w' 275 3 = w 275 3 ∧ w' 275 9 = w 275 9 := by
  obtain ⟨h1, h2, h3, h4⟩ := h
  have e3 : w' 275 3 = w 275 3 := hF 275 3 (by unfold mF; omega)
  refine ⟨⟨hT, hT_F hF h2 hf hab, ⟨(hF 275 6 (by unfold mF; omega)).trans h3.1, fun _ => (hF 275 5 (by unfold mF; omega)).trans (h3.2 ho)⟩, ?_⟩, e3, hF 275 9 (by unfold mF; omega)⟩
  rcases h4 with ⟨-, G, g⟩ | ⟨g, -⟩
  · exact Or.inl ⟨e3.trans ho, G, hI G g.1, g.2⟩
  · omega
theorem mRel.alt {w w' : eW} {f a b : Int} {E : Prop} (h : mRel w) (q : w = w' ∨ (w 275 3 = 0 ∧ e_fr (mF f a b) w w' ∧ e_Has mTy w' ∧ E)) (hf : f = -1 ∨ f = 23 ∨ f = 30 ∨ f = 42 ∨ f = 49) (hab : 282 ≤ a ∧ b ≤ 340) (hI : ∀ G, E → e_Has mTy w' → e_fr (mF f a b) w w' → bInv w G → bInv w' G) : mRel w' ∧ sm3 w w' := by
  rcases q with rfl | ⟨q1, q2, q3, q4⟩
  · exact ⟨h, rfl, rfl, rfl⟩
  · obtain ⟨r1, r2, r3⟩ := h.bld q1 q2 q3 (by omega) hab (fun G g => hI G q4 q3 q2 g)
    exact ⟨r1, r2, r3, q2 275 10 (by unfold mF; omega)⟩
theorem m_280 {d : Nat} (hd : 24 ≤ d) {w : eW} (h : mRel w) {p1 p2 p3 : Int} (g1 : -2147483648 ≤ p1 ∧ p1 ≤ 2147483647) (g2 : -2147483648 ≤ p2 ∧ p2 ≤ 2147483647) (g3 : -2147483648 ≤ p3 ∧ p3 ≤ 2147483647) : e_Ok 20 elay ecode eI d 280 (0, [(0, (1, 275)), (1, (0, p1)), (2, (0, p2)), (3, (0, p3))], [], w) (fun r w' => ∃ z : Int, r = [(0, z)] ∧ mRel w' ∧ sm3 w w') :=
  (c_280_b hd h.1 g1 g2 g3).imp (fun r w' q => by
    obtain ⟨z, hr, q⟩ := q
    exact ⟨z, hr, h.alt q (by decide) (by decide) (fun G _ hT hF g => g.cfg hF hT (fun c k y => by unfold mF at y; unfold cfN; omega))⟩)
theorem m_281 {d : Nat} (hd : 24 ≤ d) {w : eW} (h : mRel w) {p1 p2 p3 p4 : Int} (g1 : -2147483648 ≤ p1 ∧ p1 ≤ 2147483647) (g2 : -2147483648 ≤ p2 ∧ p2 ≤ 2147483647) (g3 : -2147483648 ≤ p3 ∧ p3 ≤ 2147483647) (g4 : -2147483648 ≤ p4 ∧ p4 ≤ 2147483647) : e_Ok 20 elay ecode eI d 281 (0, [(0, (1, 275)), (1, (0, p1)), (2, (0, p2)), (3, (0, p3)), (4, (0, p4))], [], w) (fun r w' => ∃ z : Int, r = [(0, z)] ∧ mRel w' ∧ sm3 w w') :=
  (c_281_b hd h.1 g1 g2 g3 g4).imp (fun r w' q => by
    obtain ⟨z, hr, q⟩ := q
    exact ⟨z, hr, h.alt q (by decide) (by decide) (fun G e hT hF g => g.pace hF hT e)⟩)
theorem m_285 {d : Nat} (hd : 24 ≤ d) {w : eW} (h : mRel w) {p1 p2 p3 : Int} (g1 : -2147483648 ≤ p1 ∧ p1 ≤ 2147483647) (g2 : -2147483648 ≤ p2 ∧ p2 ≤ 2147483647) (g3 : -2147483648 ≤ p3 ∧ p3 ≤ 2147483647) : e_Ok 20 elay ecode eI d 285 (0, [(0, (1, 275)), (1, (0, p1)), (2, (0, p2)), (3, (0, p3))], [], w) (fun r w' => ∃ z : Int, r = [(0, z)] ∧ mRel w' ∧ sm3 w w') :=
  (c_285_b hd h.1 g1 g2 g3).imp (fun r w' q => by
    obtain ⟨z, hr, q⟩ := q
    exact ⟨z, hr, h.alt q (by decide) (by decide) (fun G _ hT hF g => g.cfg hF hT (fun c k y => by unfold mF at y; unfold cfN; omega))⟩)
theorem m_286 {d : Nat} (hd : 24 ≤ d) {w : eW} (h : mRel w) {p1 p2 p3 p4 p5 : Int} (g1 : -2147483648 ≤ p1 ∧ p1 ≤ 2147483647) (g2 : -2147483648 ≤ p2 ∧ p2 ≤ 2147483647) (g3 : -2147483648 ≤ p3 ∧ p3 ≤ 2147483647) (g4 : -2147483648 ≤ p4 ∧ p4 ≤ 2147483647) (g5 : -2147483648 ≤ p5 ∧ p5 ≤ 2147483647) : e_Ok 20 elay ecode eI d 286 (0, [(0, (1, 275)), (1, (0, p1)), (2, (0, p2)), (3, (0, p3)), (4, (0, p4)), (5, (0, p5))], [], w) (fun r w' => ∃ z : Int, r = [(0, z)] ∧ mRel w' ∧ sm3 w w') :=
  (c_286_b hd h.1 g1 g2 g3 g4 g5).imp (fun r w' q => by
    obtain ⟨z, hr, q⟩ := q
    exact ⟨z, hr, h.alt q (by decide) (by decide) (fun G _ hT hF g => g.cfg hF hT (fun c k y => by unfold mF at y; unfold cfN; omega))⟩)
theorem m_287 {d : Nat} (hd : 24 ≤ d) {w : eW} (h : mRel w) {p1 p2 : Int} (g1 : -2147483648 ≤ p1 ∧ p1 ≤ 2147483647) (g2 : -2147483648 ≤ p2 ∧ p2 ≤ 2147483647) : e_Ok 20 elay ecode eI d 287 (0, [(0, (1, 275)), (1, (0, p1)), (2, (0, p2))], [], w) (fun r w' => ∃ z : Int, r = [(0, z)] ∧ mRel w' ∧ sm3 w w') :=
  (c_287_b hd h.1 g1 g2).imp (fun r w' q => by
    obtain ⟨z, hr, q⟩ := q
    exact ⟨z, hr, h.alt q (by decide) (by decide) (fun G _ hT hF g => g.cfg hF hT (fun c k y => by unfold mF at y; unfold cfN; omega))⟩)
theorem m_288 {d : Nat} (hd : 24 ≤ d) {w : eW} (h : mRel w) {p1 p2 p3 p4 : Int} (g1 : -2147483648 ≤ p1 ∧ p1 ≤ 2147483647) (g2 : -2147483648 ≤ p2 ∧ p2 ≤ 2147483647) (g3 : -2147483648 ≤ p3 ∧ p3 ≤ 2147483647) (g4 : -2147483648 ≤ p4 ∧ p4 ≤ 2147483647) : e_Ok 20 elay ecode eI d 288 (0, [(0, (1, 275)), (1, (0, p1)), (2, (0, p2)), (3, (0, p3)), (4, (0, p4))], [], w) (fun r w' => ∃ z : Int, r = [(0, z)] ∧ mRel w' ∧ sm3 w w') :=
  (c_288_b hd h.1 g1 g2 g3 g4).imp (fun r w' q => by
    obtain ⟨z, hr, q⟩ := q
    exact ⟨z, hr, h.alt q (by decide) (by decide) (fun G _ hT hF g => g.cfg hF hT (fun c k y => by unfold mF at y; unfold cfN; omega))⟩)
theorem m_291 {d : Nat} (hd : 24 ≤ d) {w : eW} (h : mRel w) {p1 p2 p3 p4 p5 : Int} (g1 : -2147483648 ≤ p1 ∧ p1 ≤ 2147483647) (g2 : -2147483648 ≤ p2 ∧ p2 ≤ 2147483647) (g3 : -2147483648 ≤ p3 ∧ p3 ≤ 2147483647) (g4 : -2147483648 ≤ p4 ∧ p4 ≤ 2147483647) (g5 : -2147483648 ≤ p5 ∧ p5 ≤ 2147483647) : e_Ok 20 elay ecode eI d 291 (0, [(0, (1, 275)), (1, (0, p1)), (2, (0, p2)), (3, (0, p3)), (4, (0, p4)), (5, (0, p5))], [], w) (fun r w' => ∃ z : Int, r = [(0, z)] ∧ mRel w' ∧ sm3 w w') :=
  (c_291_b hd h.1 g1 g2 g3 g4 g5).imp (fun r w' q => by
    obtain ⟨z, hr, q⟩ := q
    exact ⟨z, hr, h.alt q (by decide) (by decide) (fun G e hT hF g => g.zone hF hT e)⟩)
theorem m_292 {d : Nat} (hd : 24 ≤ d) {w : eW} (h : mRel w) {p1 p2 : Int} (g1 : -2147483648 ≤ p1 ∧ p1 ≤ 2147483647) (g2 : -2147483648 ≤ p2 ∧ p2 ≤ 2147483647) : e_Ok 20 elay ecode eI d 292 (0, [(0, (1, 275)), (1, (0, p1)), (2, (0, p2))], [], w) (fun r w' => ∃ z : Int, r = [(0, z)] ∧ mRel w' ∧ sm3 w w') :=
  (c_292_b hd h.1 g1 g2).imp (fun r w' q => by
    obtain ⟨z, hr, q⟩ := q
    exact ⟨z, hr, h.alt q (by decide) (by decide) (fun G _ hT hF g => g.cfg hF hT (fun c k y => by unfold mF at y; unfold cfN; omega))⟩)
theorem m_293 {d : Nat} (hd : 24 ≤ d) {w : eW} (h : mRel w) {p1 : Int} (g1 : -2147483648 ≤ p1 ∧ p1 ≤ 2147483647) : e_Ok 20 elay ecode eI d 293 (0, [(0, (1, 275)), (1, (0, p1))], [], w) (fun r w' => ∃ z : Int, r = [(0, z)] ∧ mRel w' ∧ sm3 w w') :=
  (c_293_b hd h.1 g1).imp (fun r w' q => by
    obtain ⟨z, hr, q⟩ := q
    exact ⟨z, hr, h.alt q (by decide) (by decide) (fun G _ hT hF g => g.cfg hF hT (fun c k y => by unfold mF at y; unfold cfN; omega))⟩)
theorem m_294 {d : Nat} (hd : 24 ≤ d) {w : eW} (h : mRel w) {p1 p2 : Int} (g1 : -2147483648 ≤ p1 ∧ p1 ≤ 2147483647) (g2 : 0 ≤ p2 ∧ p2 ≤ 1) : e_Ok 20 elay ecode eI d 294 (0, [(0, (1, 275)), (1, (0, p1)), (2, (0, p2))], [], w) (fun r w' => ∃ z : Int, r = [(0, z)] ∧ mRel w' ∧ sm3 w w') :=
  (c_294_b hd h.1 g1 g2).imp (fun r w' q => by
    obtain ⟨z, hr, q⟩ := q
    exact ⟨z, hr, h.alt q (by decide) (by decide) (fun G _ hT hF g => g.cfg hF hT (fun c k y => by unfold mF at y; unfold cfN; omega))⟩)
theorem m_283 {d : Nat} (hd : 26 ≤ d) {w : eW} (h : mRel w) {p1 p2 p3 : Int} (g1 : -2147483648 ≤ p1 ∧ p1 ≤ 2147483647) (g2 : -2147483648 ≤ p2 ∧ p2 ≤ 2147483647) (g3 : -2147483648 ≤ p3 ∧ p3 ≤ 2147483647) : e_Ok 20 elay ecode eI d 283 (0, [(0, (1, 275)), (1, (0, p1)), (2, (0, p2)), (3, (0, p3))], [], w) (fun r w' => ∃ z : Int, r = [(0, z)] ∧ mRel w' ∧ sm3 w w') :=
  (c_283_b hd h.1 g1 g2 g3).imp (fun r w' q => by
    obtain ⟨z, hr, q⟩ := q
    exact ⟨z, hr, h.alt q (by decide) (by decide) (fun G _ hT hF g => g.cfg hF hT (fun c k y => by unfold mF at y; unfold cfN; omega))⟩)
theorem m_284 {d : Nat} (hd : 26 ≤ d) {w : eW} (h : mRel w) {p1 p2 p3 p4 : Int} (g1 : -2147483648 ≤ p1 ∧ p1 ≤ 2147483647) (g2 : -2147483648 ≤ p2 ∧ p2 ≤ 2147483647) (g3 : -2147483648 ≤ p3 ∧ p3 ≤ 2147483647) (g4 : -2147483648 ≤ p4 ∧ p4 ≤ 2147483647) : e_Ok 20 elay ecode eI d 284 (0, [(0, (1, 275)), (1, (0, p1)), (2, (0, p2)), (3, (0, p3)), (4, (0, p4))], [], w) (fun r w' => ∃ z : Int, r = [(0, z)] ∧ mRel w' ∧ sm3 w w') :=
  (c_284_b hd h.1 g1 g2 g3 g4).imp (fun r w' q => by
    obtain ⟨z, hr, q⟩ := q
    exact ⟨z, hr, h.alt q (by decide) (by decide) (fun G _ hT hF g => g.cfg hF hT (fun c k y => by unfold mF at y; unfold cfN; omega))⟩)
theorem m_278 {d : Nat} (hd : 24 ≤ d) {w : eW} (h : mRel w) {p1 p2 p3 p4 : Int} (g1 : -2147483648 ≤ p1 ∧ p1 ≤ 2147483647) (g2 : -2147483648 ≤ p2 ∧ p2 ≤ 2147483647) (g3 : -2147483648 ≤ p3 ∧ p3 ≤ 2147483647) (g4 : -2147483648 ≤ p4 ∧ p4 ≤ 2147483647) : e_Ok 20 elay ecode eI d 278 (0, [(0, (1, 275)), (1, (0, p1)), (2, (0, p2)), (3, (0, p3)), (4, (0, p4))], [], w) (fun r w' => ∃ z : Int, r = [(0, z)] ∧ mRel w' ∧ w' 275 3 = w 275 3 ∧ w' 275 9 = w 275 9 ∧ (w' 275 10 = w 275 10 ∨ (w 275 3 = 0 ∧ w' 275 10 = w 275 10 + 1))) :=
  (c_278_b hd h.1 g1 g2 g3 g4).imp (fun r w' q => by
    obtain ⟨z, hr, q⟩ := q
    rcases q with rfl | ⟨q1, q2, q3, q4⟩
    · exact ⟨z, hr, h, rfl, rfl, Or.inl rfl⟩
    · obtain ⟨r1, r2, r3⟩ := h.bld q1 q2 q3 (by decide) (by decide) (fun G g => g.arm q2 q3 q4)
      exact ⟨z, hr, r1, r2, r3, Or.inr ⟨q1, q4⟩⟩)
/-- program -/
theorem m_357 {d : Nat} (hd : 424 ≤ d) {w : eW} (h : mRel w) {p1 : Int} (g1 : -2147483648 ≤ p1 ∧ p1 ≤ 2147483647) : e_Ok 20 elay ecode eI d 357 (0, [(0, (1, 275)), (1, (0, p1))], [], w) (fun r w' => ∃ z : Int, r = [(0, z)] ∧ mRel w' ∧ w' 275 3 = w 275 3 ∧ w' 275 10 = w 275 10 ∧ ((w = w' ∧ ¬ (w 275 3 = 0 ∧ 0 ≤ p1 ∧ p1 < w 275 10)) ∨ (w 275 3 = 0 ∧ (0 ≤ p1 ∧ p1 < w 275 10) ∧ w' 275 9 = 0))) :=
  (c_357 hd h.1 h.2.1 g1).imp (fun r w' q => by
    obtain ⟨z, hr, q⟩ := q
    rcases q with ⟨rfl, q⟩ | ⟨q1, q2, q3, q4, q5, q6, q7⟩
    · exact ⟨z, hr, h, rfl, rfl, Or.inl ⟨rfl, q⟩⟩
    · have h10 := e_Has.get h.1 (c := 275) (k := 10) (lo := 0) (hi := 4) rfl (by decide)
      have e3 : w' 275 3 = w 275 3 := q3 275 3 (by unfold mPg mPs; omega)
      have e6 : w' 275 6 = w 275 6 := q3 275 6 (by unfold mPg mPs; omega)
      refine ⟨z, hr, ⟨q4, q5, ⟨e6.trans h.2.2.1.1, fun _ => (q3 275 5 (by unfold mPg mPs; omega)).trans (h.2.2.1.2 q1)⟩, ?_⟩, e3, q3 275 10 (by unfold mPg mPs; omega), Or.inr ⟨q1, q2, q6⟩⟩
      rcases h.2.2.2 with ⟨-, G, g⟩ | ⟨g, -⟩
      · obtain ⟨G', g'⟩ := g.prog (by omega) q3 q4 q7
        exact Or.inl ⟨e3.trans q1, G', g'⟩
      · omega)
end
