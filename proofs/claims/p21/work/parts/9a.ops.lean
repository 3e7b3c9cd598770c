noncomputable section
/-! steps of the calls, and the invariant -/
theorem mInv.up1 {w w' : eW} {G : Int → Gh} {c k z : Int} (h : mInv w G) (hw : e_up w c k z = w') (hT : e_Has mTy w') (hi : idl c k) : mInv w' G :=
  h.same (S := fun c' k' => c' = c ∧ k' = k) (fun c' k' q => by rw [← hw]; exact e_up_ne _ _ (by omega)) hT (fun c' k' q => by rw [q.1, q.2]; exact hi)
/-- a task is taken from its place -/
theorem mInv.ack {w w1 w' : eW} {G : Int → Gh} {a t : Int} (h : mInv w G) (ha : 0 ≤ a ∧ a ≤ 3) (ht : 0 ≤ t ∧ t ≤ 15) (h1 : e_up w 276 (1260 * t + 416) 6 = w1) (h2 : e_up w1 276 (36 * a + 18) (-1) = w') (hT : e_Has mTy w') : mInv w' G := by
  have h0 := h
  obtain ⟨t1, -, -, -, -, h6, h7, h8, h9⟩ := h0
  have hp := e_Has.get t1 (c := 275) (k := 40) (lo := 0) (hi := 32) rfl (by decide)
  have hF : e_fr (fun c k => c = 276 ∧ (k = 1260 * t + 416 ∨ k = 36 * a + 18)) w w' := fun c k q => by
    rw [← h2, ← h1]
    exact (e_up_ne _ _ (by omega)).trans (e_up_ne _ _ (by omega))
  have e16 : w' 276 (1260 * t + 416) = 6 := by
    rw [← h2, ← h1]
    exact (e_up_ne _ _ (Or.inr (by omega))).trans (e_up_eq _ _ _ _)
  refine h.next hF hT (fun c k q => by unfold cfN; omega) (mMo.old h6 (e_Has.mo t1) (fun b g1 g2 => ⟨hF _ _ (by omega), hF _ _ (by omega)⟩) (fun c k q _ => hF c k (fun q1 => by unfold moK at q; omega)) (fun b g1 g2 => Or.inr (hF _ _ (by omega)))) (mOr.fr h7 hp.2 (e_Has.orn t1) (e_Has.orw t1 hp.2) (fun k q => hF _ _ (fun q1 => by unfold orK at q; omega))) (fun v v1 v2 => ?_)
  by_cases e : v = t
  · rw [e]
    exact tkOk.not (Or.inr (by omega))
  · exact tkOk.hop h8 (h9 v v1 v2) hF (fun c k q => ⟨by omega, fun _ => ⟨by omega, fun q2 => by unfold tkK at q2; omega⟩⟩)
theorem br_tk {c k v : Int} (hv : 0 ≤ v ∧ v ≤ 15) (h : mBr c k) : ¬ (328 ≤ c ∧ c ≤ 338) ∧ (c = 276 → k ≠ 1260 * v + 416 ∧ ¬ tkK v k) :=
  ⟨by unfold mBr at h; omega, fun e => ⟨by unfold mBr at h; omega, fun q => by unfold mBr at h; unfold tkK at q; omega⟩⟩
theorem br_or {k : Int} (h : mBr 276 k) (q : orK k) : False := by unfold mBr at h; unfold orK at q; omega
theorem br_cf {c k : Int} (h : mBr c k) : cfN c k := by unfold mBr at h; unfold cfN; omega
theorem br_mo {c k : Int} (h : mBr c k) (q : moK c k) : False := by unfold mBr at h; unfold moK at q; omega
theorem mInv.brake {w w' : eW} {G : Int → Gh} (h : mInv w G) (hF : e_fr mBr w w') (hT : e_Has mTy w') (hS : sRel w w') : mInv w' G := by
  have h0 := h
  obtain ⟨t1, -, h3, -, -, h6, h7, h8, h9⟩ := h0
  have hp := e_Has.get t1 (c := 275) (k := 40) (lo := 0) (hi := 32) rfl (by decide)
  exact h.next hF hT (fun c k q => br_cf q) (mMo.rel h6 (e_Has.mo t1) h3 hS (fun c k q => hF c k (fun q1 => br_mo q1 q))) (mOr.fr h7 hp.2 (e_Has.orn t1) (e_Has.orw t1 hp.2) (fun k q => hF _ _ (fun q1 => br_or q1 q))) (fun v v1 v2 => tkOk.hop h8 (h9 v v1 v2) hF (fun c k q => br_tk ⟨v1, v2⟩ q))
/-- a new task -/
theorem su_9a_0 {z : Int} {c k : Int} (q : mNt z c k) : cfN c k := by
  unfold mNt at q
  rcases q with ⟨q, ⟨q, q⟩⟩
  · exact ⟨(by omega), ⟨(by omega), ⟨(by omega), ⟨(by omega), ⟨(by omega), ⟨(by omega), (by omega)⟩⟩⟩⟩⟩⟩
theorem mInv.fresh {w w' : eW} {G : Int → Gh} {a q u : Int} (h : mInv w G) (ha : 0 ≤ a ∧ a ≤ 3) (hq : 0 ≤ q ∧ q < w 338 a) (hu : 0 ≤ u ∧ u ≤ 15) (hF : e_fr (mNt u) w w') (hT : e_Has mTy w') (h1 : w' 276 (1260 * u + 417) = a) (h2 : w' 276 (1260 * u + 424) = -1) (h3 : w' 276 (1260 * u + 428) = 1) (h4 : w' 276 (1260 * u + 429) = 0) (h5 : w' 276 (1260 * u + 436) = w 337 (32 * a + q)) : mInv w' G := by
  have h0 := h
  obtain ⟨t1, -, -, -, -, h6, h7, h8, h9⟩ := h0
  have hp := e_Has.get t1 (c := 275) (k := 40) (lo := 0) (hi := 32) rfl (by decide)
  refine h.next hF hT (fun c k q => by first | exact su_9a_0 q | (unfold mNt at q; unfold cfN; omega)) (mMo.same h6 (e_Has.mo t1) (fun c k q => hF c k (fun q1 => moK_nt hu q q1))) (mOr.fr h7 hp.2 (e_Has.orn t1) (e_Has.orw t1 hp.2) (fun k q => hF _ _ (fun q1 => by unfold mNt at q1; unfold orK at q; omega))) (fun v v1 v2 => ?_)
  by_cases e : v = u
  · rw [e]
    exact tkOk.new (h8 a ha.1 ha.2) ha hq (fun c k q1 q2 => hF c k (by unfold mNt; omega)) h1 h2 h3 h4 h5
  · exact tkOk.hop h8 (h9 v v1 v2) hF (fun c k q => by unfold mNt at q; exact ⟨by omega, fun _ => ⟨by omega, fun q2 => by unfold tkK at q2; omega⟩⟩)
theorem d_385 {d : Nat} (hd : 22 ≤ d) {w : eW} (hT : e_Has mTy w) {a n : Int} (ha : 0 ≤ a ∧ a ≤ 4) (hn : -2147483648 ≤ n ∧ n ≤ 2147483647) (hE : w 276 5 ≤ 2147483600) : e_Ok 20 elay ecode eI d 385 (0, [(0, (1, 275)), (1, (0, a)), (2, (0, n))], [], w) (fun r w' => (r = [] ∧ e_fr mTr w w' ∧ e_Has mTy w' ∧ (w 276 5 ≤ w' 276 5 ∧ w' 276 5 ≤ w 276 5 + 5) ∧ w' 276 1 = 0 ∧ (∀ b, 0 ≤ b → b < w 275 10 → w' 276 (36 * b + 16) = 0 ∧ ∀ j, 0 ≤ j → j ≤ 5 → w' 276 (36 * b + j + 38) = 0) ∧ (∀ b, 0 ≤ b → b < w 275 10 → (w 276 (36 * b + 16) = 1 ∨ w 276 (36 * b + 22) = 0) → w' 276 (36 * b + 22) = 0) ∧ (∀ b, w 275 10 ≤ b → b ≤ 3 → w' 276 (36 * b + 16) = w 276 (36 * b + 16) ∧ w' 276 (36 * b + 22) = w 276 (36 * b + 22))) ∧ ∀ k, w' 276 k = nowF 385 [(0, (1, 275)), (1, (0, a)), (2, (0, n))] w k) :=
  (e_Ok.detN (l := [(0, (1, 275)), (1, (0, a)), (2, (0, n))]) (show ([0, 1, 2] : List Nat).Nodup by decide) (fun u hu => c_385 hd (hT.low hu) ha hn (by rw [hu 276 5 (K0_now 5)]; exact hE)) (fun u r v hu q => q.2.2.1)).imp (fun r v h => ⟨h.1, h.2.1⟩)
theorem d_384 {d : Nat} (hd : 22 ≤ d) {w : eW} (hT : e_Has mTy w) {a : Int} (ha : 0 ≤ a ∧ a ≤ 3) (hE : w 276 5 ≤ 2147483646) : e_Ok 20 elay ecode eI d 384 (0, [(0, (1, 275)), (1, (0, a))], [], w) (fun r w' => (r = [] ∧ e_fr mBr w w' ∧ e_Has mTy w' ∧ (w 276 5 ≤ w' 276 5 ∧ w' 276 5 ≤ w 276 5 + 1) ∧ sRel w w') ∧ ∀ k, w' 276 k = nowF 384 [(0, (1, 275)), (1, (0, a))] w k) :=
  (e_Ok.detN (l := [(0, (1, 275)), (1, (0, a))]) (show ([0, 1] : List Nat).Nodup by decide) (fun u hu => c_384 hd (hT.low hu) ha (by rw [hu 276 5 (K0_now 5)]; exact hE)) (fun u r v hu q => q.2.2.1)).imp (fun r v h => ⟨h.1, h.2.1⟩)
end
