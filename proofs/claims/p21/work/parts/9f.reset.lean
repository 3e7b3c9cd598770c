noncomputable section
/-! reset: the inputs' faults go, power comes -/
def rsI (w : eW) (y k : Int) : Int := if 20836 ≤ k ∧ k < 20836 + 4 * y ∧ (k - 20836) % 4 = 3 then 0 else w 276 k
def rsW (w : eW) (y k : Int) : Int := if k = 1 then 1 else rsI w y k
theorem rsI_step {w v v' : eW} {y : Int} (hy : 0 ≤ y) (h : ∀ k, v 276 k = rsI w y k) (hw : e_up v 276 (4 * y + 20839) 0 = v') (k : Int) : v' 276 k = rsI w (y + 1) k := by
  rw [← hw]
  by_cases e : k = 4 * y + 20839
  · rw [e, e_up_eq]
    unfold rsI
    rw [if_pos (by omega)]
  · rw [e_up_ne _ _ (Or.inr e), h k]
    unfold rsI
    by_cases e2 : 20836 ≤ k ∧ k < 20836 + 4 * y ∧ (k - 20836) % 4 = 3
    · rw [if_pos e2, if_pos (by omega)]
    · rw [if_neg e2, if_neg (by omega)]
theorem rsW_of {w v v' : eW} {y : Int} (h : ∀ k, v 276 k = rsI w y k) (hw : e_up v 276 1 1 = v') (k : Int) : v' 276 k = rsW w y k := by
  rw [← hw]
  unfold rsW
  by_cases e : k = 1
  · rw [e, e_up_eq, if_pos rfl]
  · rw [e_up_ne _ _ (Or.inr e), if_neg e, h k]
theorem rsI_0 (w : eW) (k : Int) : w 276 k = rsI w 0 k := by
  unfold rsI
  rw [if_neg (by omega)]
def mRs (c k : Int) : Prop := c = 276 ∧ (k = 1 ∨ (20836 ≤ k ∧ k < 20868))
theorem mInv.power {w w' : eW} {G : Int → Gh} (h : mInv w G) (hF : e_fr mRs w w') (hT : e_Has mTy w') (hP : w' 276 1 ≠ 0) : mInv w' G := by
  have h0 := h
  obtain ⟨t1, -, -, -, -, h6, h7, h8, h9⟩ := h0
  have hp := e_Has.get t1 (c := 275) (k := 40) (lo := 0) (hi := 32) rfl (by decide)
  exact h.next hF hT (fun c k q => by unfold mRs at q; unfold cfN; omega) (mMo.power h6 (e_Has.mo t1) (fun c k q q2 => hF c k (fun q1 => by unfold mRs at q1; unfold moK at q; omega)) hP) (mOr.fr h7 hp.2 (e_Has.orn t1) (e_Has.orw t1 hp.2) (fun k q => hF _ _ (fun q1 => by unfold mRs at q1; unfold orK at q; omega))) (fun v v1 v2 => tkOk.hop h8 (h9 v v1 v2) hF (fun c k q => by unfold mRs at q; exact ⟨by omega, fun _ => ⟨by omega, fun q2 => by unfold tkK at q2; omega⟩⟩))
theorem d_319 {d : Nat} {w : eW} (hT : e_Has mTy w) {a b c : Int} (hE : w 276 5 ≤ 2147483646) (ha : -2147483648 ≤ a ∧ a ≤ 2147483647) (hb : -2147483648 ≤ b ∧ b ≤ 2147483647) (hc : -2147483648 ≤ c ∧ c ≤ 2147483647) : e_Ok 20 elay ecode eI d 319 (0, [(0, (1, 275)), (1, (0, a)), (2, (0, b)), (3, (0, c))], [], w) (fun r w' => (r = [] ∧ e_fr mE w w' ∧ e_Has mTy w' ∧ w' 276 5 = w 276 5 + 1) ∧ ∀ k, w' 276 k = nowF 319 [(0, (1, 275)), (1, (0, a)), (2, (0, b)), (3, (0, c))] w k) :=
  (e_Ok.detN (l := [(0, (1, 275)), (1, (0, a)), (2, (0, b)), (3, (0, c))]) (show ([0, 1, 2, 3] : List Nat).Nodup by decide) (fun u hu => c_319 (hT.low hu) (by rw [hu 276 5 (K0_now 5)]; exact hE) ha hb hc) (fun u r v hu q => q.2.2.1)).imp (fun r v h => ⟨h.1, h.2.1⟩)
theorem e_idl {c k : Int} (q : mE c k) : idl c k := by unfold mE at q; unfold idl; omega
theorem e_ti {c k : Int} (q : mE c k) : mTi c k := by unfold mE at q; unfold mTi; omega
end
