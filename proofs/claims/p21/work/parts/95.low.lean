noncomputable section
/-! what a tick depends on: the cells with a type of mTy -/
def tyQ (x : Int × Int) : Prop := x.1 ≤ x.2
theorem tyQ.ite {c : Prop} [Decidable c] {a b : Int × Int} (ha : c → tyQ a) (hb : ¬ c → tyQ b) : tyQ (if c then a else b) := by
  by_cases h : c
  · rw [if_pos h]; exact ha h
  · rw [if_neg h]; exact hb h
theorem tyQ.nth {l : List (Int × Int)} (h : ∀ x ∈ l, tyQ x) {k : Nat} (hk : k < l.length) : tyQ (x_nthP l k) := by
  unfold x_nthP
  rw [x_at_eq]
  rw [List.getElem?_eq_getElem hk]
  exact h _ (List.getElem_mem hk)
theorem nowQ (k : Int) : tyQ (nowR k) := by
  have h0 : ∀ x ∈ nHead, tyQ x := by unfold tyQ; decide +kernel
  have h1 : ∀ x ∈ nArm, tyQ x := by unfold tyQ; decide +kernel
  have e0 : nHead.length = 16 := by decide +kernel
  have e1 : nArm.length = 36 := by decide +kernel
  have ha : tyQ (-2147483648, 2147483647) := by unfold tyQ; decide
  have ht : ∀ f, tyQ (nTask f) := fun f => by
    refine tyQ.ite (fun q => tyQ.nth ?_ ?_) (fun _ => tyQ.ite (fun _ => tyQ.ite (fun _ => ?_) (fun _ => ?_)) (fun _ => ha))
    · unfold tyQ; decide +kernel
    · show f.toNat < 20; omega
    · unfold tyQ; decide
    · unfold tyQ; decide
  refine tyQ.ite (fun q => tyQ.nth h0 (by rw [e0]; omega)) (fun _ => tyQ.ite (fun q => tyQ.nth h1 (by rw [e1]; omega)) (fun _ => tyQ.ite (fun _ => ha) (fun _ => tyQ.ite (fun _ => ?_) (fun _ => tyQ.ite (fun _ => ha) (fun _ => tyQ.ite (fun _ => ht _) (fun _ => tyQ.ite (fun _ => tyQ.ite (fun _ => ?_) (fun _ => ha)) (fun _ => tyQ.ite (fun _ => tyQ.ite (fun _ => ?_) (fun _ => ?_)) (fun _ => tyQ.ite (fun _ => tyQ.ite (fun _ => ha) (fun _ => ?_)) (fun _ => tyQ.ite (fun _ => ?_) (fun _ => tyQ.ite (fun _ => ha) (fun _ => tyQ.ite (fun _ => ?_) (fun _ => ha)))))))))))) <;> (unfold tyQ; decide)
def K0 (c k : Int) : Prop := (mTy c k).1 ≤ (mTy c k).2
theorem K0_now (k : Int) : K0 276 k := nowQ k
theorem e_Has.now {w : eW} (h : e_Has mTy w) (k : Int) : -2147483648 ≤ w 276 k ∧ w 276 k ≤ 2147483647 := by
  have h1 := h 276 k (K0_now k)
  have h2 := tyP.m 276 k (K0_now k)
  omega
theorem K0_code {c : Int} (k : Int) (h : 328 ≤ c ∧ c ≤ 338) : K0 c k := by
  obtain rfl | rfl | rfl | rfl | rfl | rfl | rfl | rfl | rfl | rfl | rfl : c = 328 ∨ c = 329 ∨ c = 330 ∨ c = 331 ∨ c = 332 ∨ c = 333 ∨ c = 334 ∨ c = 335 ∨ c = 336 ∨ c = 337 ∨ c = 338 := by omega
  all_goals (first | exact (by decide : (-2147483648 : Int) ≤ 2147483647) | exact (by decide : (0 : Int) ≤ 32))
theorem K0_mo {c k : Int} (h : moK c k ∨ (c = 276 ∧ 16 ≤ k ∧ k < 160)) : K0 c k := by
  by_cases e : c = 276
  · rw [e]; exact K0_now k
  · have h2 : (c = 275 ∧ k = 10) ∨ c = 286 ∨ c = 288 ∨ c = 289 ∨ c = 290 ∨ c = 291 := by unfold moK at h; omega
    rcases h2 with ⟨rfl, rfl⟩ | rfl | rfl | rfl | rfl | rfl
    · exact (by decide : (0 : Int) ≤ 4)
    · exact (by decide : (0 : Int) ≤ 6)
    · exact (by decide : (-100000 : Int) ≤ 0)
    · exact (by decide : (0 : Int) ≤ 100000)
    · exact (by decide : (0 : Int) ≤ 2000)
    · exact (by decide : (0 : Int) ≤ 2000)
theorem K0_cf {c k : Int} (h : ¬ K0 c k) : cfN c k := by
  refine ⟨fun e => h ?_, fun e => h ?_, fun e => h ?_, fun e => h ?_, fun e => h ?_, fun e => h (K0_code k e), fun e => h ?_⟩
  · rw [e]; exact (by decide : (-1 : Int) ≤ 63)
  · rw [e]; exact (by decide : (0 : Int) ≤ 6)
  · rw [e]; exact (by decide : (0 : Int) ≤ 2000)
  · rw [e]; exact (by decide : (0 : Int) ≤ 2000)
  · rw [e]; exact (by decide : (0 : Int) ≤ 3)
  · obtain ⟨rfl, rfl | rfl | rfl⟩ := e
    · exact (by decide : (0 : Int) ≤ 4)
    · exact (by decide : (0 : Int) ≤ 32)
    · exact (by decide : (0 : Int) ≤ 8)
theorem e_Has.low {w u : eW} (h : e_Has mTy w) (hu : ∀ c k, K0 c k → u c k = w c k) : e_Has mTy u := fun c k q => by
  rw [hu c k q]
  exact h c k q
/-- the invariant asks no more -/
theorem mInv.low {w u : eW} {G : Int → Gh} (h : mInv w G) (hu : ∀ c k, K0 c k → u c k = w c k) : mInv u G := by
  have h0 := h
  obtain ⟨h1, -, -, -, -, h6, h7, h8, h9⟩ := h0
  have hp := e_Has.get h1 (c := 275) (k := 40) (lo := 0) (hi := 32) rfl (by decide)
  have hF : e_fr (fun c k => ¬ K0 c k) w u := fun c k q => hu c k (Classical.not_not.mp q)
  exact h.next hF (h1.low hu) (fun c k q => K0_cf q) (mMo.same h6 (e_Has.mo h1) (fun c k q => hu c k (K0_mo q))) (mOr.fr h7 hp.2 (e_Has.orn h1) (e_Has.orw h1 hp.2) (fun k q => hu _ _ (K0_now k))) (fun v v1 v2 => tkOk.hop h8 (h9 v v1 v2) hF (fun c k q => ⟨fun e => q (K0_code k e), fun e => absurd (by rw [e]; exact K0_now k) q⟩))
/-- what is kept of the book, but for what is counted -/
def bTy (c k : Int) : Int × Int := if c = 280 then (1, 0) else hTy c k
/-- one tick, as a function -/
def tickF (w : eW) : eW := (e_phi 408 (0, [(0, (1, 275))], [], e_pz K0 w)).2
theorem tickF_eq {w u : eW} (hu : ∀ c k, K0 c k → u c k = w c k) : tickF u = tickF w := by
  unfold tickF
  rw [e_pz_eq hu]
theorem d_408 {d : Nat} (hd : 43 ≤ d) {w : eW} {G : Int → Gh} (hI : mInv w G) (htm : w 276 0 ≤ 5999) (hE : w 276 5 ≤ 2147400000) : e_Ok 20 elay ecode eI d 408 (0, [(0, (1, 275))], [], w) (fun r w' => r = [] ∧ e_fr mTi w w' ∧ mInv w' G ∧ w' 276 0 = w 276 0 + 1 ∧ (w 276 5 ≤ w' 276 5 ∧ w' 276 5 ≤ w 276 5 + 900) ∧ ∀ k, w' 276 k = tickF w 276 k) := by
  refine (e_Ok.det K0 (by decide) (fun u hu => c_408 (G := G) hd (hI.low hu) (by rw [hu 276 0 (K0_now 0)]; exact htm) (by rw [hu 276 5 (K0_now 5)]; exact hE))).imp (fun r v h => ?_)
  obtain ⟨⟨h1, h2, h3, h4, h5⟩, ⟨-, -, h6, -⟩, -, h7⟩ := h
  refine ⟨h1, h2, h3, h4, h5, fun k => h7 276 k ?_⟩
  have := h6.1.now k
  unfold e_okz
  simp only [Bool.and_eq_true, decide_eq_true_eq]
  exact this
end
