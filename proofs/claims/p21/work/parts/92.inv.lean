noncomputable section
/-! what stands between the calls, of the cell itself -/
def mInv (w : eW) (G : Int → Gh) : Prop := e_Has mTy w ∧ mAc w ∧ mCf w ∧ mZn w ∧ (∀ b, w 275 10 ≤ b → b ≤ 3 → w 286 b = 0) ∧ mMo w (-1) ∧ mOr w (w 275 40) ∧ gAll w G ∧ (∀ v, 0 ≤ v → v ≤ 15 → tkOk w G v)
/-- not of the plan of the cell -/
def cfN (c k : Int) : Prop := c ≠ 318 ∧ c ≠ 286 ∧ c ≠ 290 ∧ c ≠ 291 ∧ c ≠ 310 ∧ ¬ (328 ≤ c ∧ c ≤ 338) ∧ ¬ (c = 275 ∧ (k = 10 ∨ k = 40 ∨ k = 42))
theorem no_92_0 {k : Int} : ¬ cfN 310 k := by unfold cfN; omega
theorem no_92_1 {k : Int} : ¬ cfN 286 k := by unfold cfN; omega
theorem mInv.next {S : Int → Int → Prop} {w w' : eW} {G : Int → Gh} (h : mInv w G) (hF : e_fr S w w') (hT : e_Has mTy w') (hS : ∀ c k, S c k → cfN c k) (hM : mMo w' (-1)) (hO : mOr w' (w 275 40)) (hK : ∀ v, 0 ≤ v → v ≤ 15 → tkOk w' G v) : mInv w' G := by
  obtain ⟨-, h2, h3, h4, h5, -, -, h8, -⟩ := h
  have e : ∀ c k, ¬ cfN c k → w' c k = w c k := fun c k q => hF c k (fun q1 => q (hS c k q1))
  have e10 : w' 275 10 = w 275 10 := e _ _ (by unfold cfN; omega)
  have e40 : w' 275 40 = w 275 40 := e _ _ (by unfold cfN; omega)
  have e42 : w' 275 42 = w 275 42 := e _ _ (by unfold cfN; omega)
  refine ⟨hT, mAc.fr' (fun k q => (hS 318 k q).1 rfl) hF h2, mCf.fr h3 (fun c k q => e c k (by unfold cfN; omega)), fun z g1 g2 => ?_, fun b g1 g2 => ?_, hM, by rw [e40]; exact hO, h8.fr (fun c k q1 q2 => e c k (by unfold cfN; omega)), hK⟩
  · rw [e 310 z no_92_0, e10]
    exact h4 z g1 (by rw [e42] at g2; exact g2)
  · rw [e 286 b no_92_1]
    exact h5 b (by rw [e10] at g1; exact g1) g2
/-- places that none of it reads -/
def idl (c k : Int) : Prop := (c = 276 ∧ (k = 0 ∨ (2 ≤ k ∧ k < 16) ∨ (160 ≤ k ∧ k < 416) ∨ (20576 ≤ k ∧ k < 20704 ∧ k % 4 ≠ 0) ∨ (20836 ≤ k ∧ k < 21060) ∨ 25060 ≤ k)) ∨ (c = 275 ∧ ((58 ≤ k ∧ k ≤ 60) ∨ (96 ≤ k ∧ k ≤ 102))) ∨ (321 ≤ c ∧ c ≤ 327) ∨ c = 345 ∨ c = 346 ∨ c = 280
theorem idl_cf {c k : Int} (h : idl c k) : cfN c k := by unfold idl at h; unfold cfN; omega
theorem idl_mo {c k : Int} (h : idl c k) (q : moK c k ∨ (c = 276 ∧ 16 ≤ k ∧ k < 160)) : False := by unfold idl at h; unfold moK at q; omega
theorem idl_or {k : Int} (h : idl 276 k) (q : orK k) : False := by unfold idl at h; unfold orK at q; omega
theorem idl_tk {c k v : Int} (hv : 0 ≤ v ∧ v ≤ 15) (h : idl c k) : ¬ (328 ≤ c ∧ c ≤ 338) ∧ (c = 276 → k ≠ 1260 * v + 416 ∧ ¬ tkK v k) :=
  ⟨by unfold idl at h; omega, fun e => ⟨by unfold idl at h; omega, fun q => by unfold idl at h; unfold tkK at q; omega⟩⟩
theorem mInv.same {S : Int → Int → Prop} {w w' : eW} {G : Int → Gh} (h : mInv w G) (hF : e_fr S w w') (hT : e_Has mTy w') (hS : ∀ c k, S c k → idl c k) : mInv w' G := by
  have h0 := h
  obtain ⟨h1, -, -, -, -, h6, h7, h8, h9⟩ := h0
  have hp := e_Has.get h1 (c := 275) (k := 40) (lo := 0) (hi := 32) rfl (by decide)
  exact h.next hF hT (fun c k q => idl_cf (hS c k q)) (mMo.same h6 (e_Has.mo h1) (fun c k q => hF c k (fun q1 => idl_mo (hS c k q1) q))) (mOr.fr h7 hp.2 (e_Has.orn h1) (e_Has.orw h1 hp.2) (fun k q => hF _ _ (fun q1 => idl_or (hS _ _ q1) q))) (fun v v1 v2 => tkOk.hop h8 (h9 v v1 v2) hF (fun c k q => idl_tk ⟨v1, v2⟩ (hS c k q)))
theorem tr_tk {c k v : Int} (hv : 0 ≤ v ∧ v ≤ 15) (h : mTr c k) : ¬ (328 ≤ c ∧ c ≤ 338) ∧ (c = 276 → k ≠ 1260 * v + 416 ∧ ¬ tkK v k) :=
  ⟨by unfold mTr at h; omega, fun e => ⟨by unfold mTr at h; omega, fun q => by unfold mTr at h; unfold tkK at q; omega⟩⟩
theorem tr_or {k : Int} (h : mTr 276 k) (q : orK k) : False := by unfold mTr at h; unfold orK at q; omega
theorem tr_cf {c k : Int} (h : mTr c k) : cfN c k := by unfold mTr at h; unfold cfN; omega
theorem mInv.trip {w w' : eW} {G : Int → Gh} (h : mInv w G) (hF : e_fr mTr w w') (hT : e_Has mTy w') (hs : ∀ b, 0 ≤ b → b < w 275 10 → w' 276 (36 * b + 16) = 0 ∧ ∀ j, 0 ≤ j → j ≤ 5 → w' 276 (36 * b + j + 38) = 0) (ht : ∀ b, 0 ≤ b → b < w 275 10 → (w 276 (36 * b + 16) = 1 ∨ w 276 (36 * b + 22) = 0) → w' 276 (36 * b + 22) = 0) (hu : ∀ b, w 275 10 ≤ b → b ≤ 3 → w' 276 (36 * b + 16) = w 276 (36 * b + 16) ∧ w' 276 (36 * b + 22) = w 276 (36 * b + 22)) : mInv w' G := by
  have h0 := h
  obtain ⟨h1, -, -, -, h5, h6, h7, h8, h9⟩ := h0
  have hp := e_Has.get h1 (c := 275) (k := 40) (lo := 0) (hi := 32) rfl (by decide)
  exact h.next hF hT (fun c k q => tr_cf q) (mMo.trip h6 (e_Has.mo h1) h5 (fun c k q1 q2 => hF c k (moK_tr q1 q2)) (e_Has.get h1 (c := 275) (k := 10) (lo := 0) (hi := 4) rfl (by decide)).1 hs ht hu (fun b g1 g2 => e_Has.get h1 (nR_TRAVELS (a := b) ⟨g1, g2⟩) (by decide))) (mOr.fr h7 hp.2 (e_Has.orn h1) (e_Has.orw h1 hp.2) (fun k q => hF _ _ (fun q1 => tr_or q1 q))) (fun v v1 v2 => tkOk.hop h8 (h9 v v1 v2) hF (fun c k q => tr_tk ⟨v1, v2⟩ q))
theorem tt_cf {c k : Int} (h : mTt c k) : cfN c k := by unfold mTt mTn at h; unfold cfN; omega
theorem mInv.turn {w w' : eW} {G : Int → Gh} (h : mInv w G) (hF : e_fr mTt w w') (hT : e_Has mTy w') (hM : mMo w' (-1)) (hO : mOr w' (w 275 40)) (hK : ∀ v, 0 ≤ v → v ≤ 15 → tkOk w G v → tkOk w' G v) : mInv w' G :=
  h.next hF hT (fun c k q => tt_cf q) hM hO (fun v v1 v2 => hK v v1 v2 (h.2.2.2.2.2.2.2.2 v v1 v2))
theorem ga_tk {c k v : Int} (hv : 0 ≤ v ∧ v ≤ 15) (h : mGA c k) : ¬ (328 ≤ c ∧ c ≤ 338) ∧ (c = 276 → k ≠ 1260 * v + 416 ∧ ¬ tkK v k) :=
  ⟨by unfold mGA at h; omega, fun e => ⟨by unfold mGA at h; omega, fun q => by unfold mGA at h; unfold tkK at q; omega⟩⟩
theorem ga_cf {c k : Int} (h : mGA c k) : cfN c k := by unfold mGA at h; unfold cfN; omega
theorem lo_tk {c k v : Int} (hv : 0 ≤ v ∧ v ≤ 15) (h : mLo c k) : ¬ (328 ≤ c ∧ c ≤ 338) ∧ (c = 276 → k ≠ 1260 * v + 416 ∧ ¬ tkK v k) := h.elim (fun h => ⟨by unfold mLt at h; omega, fun e => by unfold mLt at h; omega⟩) (fun h => tr_tk hv h)
theorem lo_cf {c k : Int} (h : mLo c k) : cfN c k := h.elim (fun h => by unfold mLt at h; unfold cfN; omega) (fun h => tr_cf h)
theorem lo_or {k : Int} (h : mLo 276 k) (q : orK k) : False := h.elim (fun h => by unfold mLt at h; omega) (fun h => tr_or h q)
theorem mInv.look {w w' : eW} {G : Int → Gh} (h : mInv w G) (hF : e_fr mLo w w') (hT : e_Has mTy w') (hM : mMo w' (-1)) : mInv w' G := by
  have h0 := h
  obtain ⟨h1, -, -, -, -, -, h7, h8, h9⟩ := h0
  have hp := e_Has.get h1 (c := 275) (k := 40) (lo := 0) (hi := 32) rfl (by decide)
  exact h.next hF hT (fun c k q => lo_cf q) hM (mOr.fr h7 hp.2 (e_Has.orn h1) (e_Has.orw h1 hp.2) (fun k q => hF _ _ (fun q1 => lo_or q1 q))) (fun v v1 v2 => tkOk.hop h8 (h9 v v1 v2) hF (fun c k q => lo_tk ⟨v1, v2⟩ q))
theorem ga_or {k : Int} (h : mGA 276 k) (q : orK k) : False := by unfold mGA at h; unfold orK at q; omega
theorem mInv.go {w w' : eW} {G : Int → Gh} (h : mInv w G) (hF : e_fr mGA w w') (hT : e_Has mTy w') (hM : mMo w' (-1)) : mInv w' G := by
  have h0 := h
  obtain ⟨h1, -, -, -, -, -, h7, h8, h9⟩ := h0
  have hp := e_Has.get h1 (c := 275) (k := 40) (lo := 0) (hi := 32) rfl (by decide)
  exact h.next hF hT (fun c k q => ga_cf q) hM (mOr.fr h7 hp.2 (e_Has.orn h1) (e_Has.orw h1 hp.2) (fun k q => hF _ _ (fun q1 => ga_or q1 q))) (fun v v1 v2 => tkOk.hop h8 (h9 v v1 v2) hF (fun c k q => ga_tk ⟨v1, v2⟩ q))
end
