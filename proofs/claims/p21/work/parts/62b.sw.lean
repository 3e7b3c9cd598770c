noncomputable section
section E62b
variable {fd : Nat} {lay : List eY} {code : Nat → Nat → eE} {I : Nat → xM} {d M k a b p : Nat} {l : eL} {r : List eV} {w : eW} {Q : List eV → eW → Prop}
theorem e_Ok.sw {x : Int} {tg : Nat} {arms : List (Int × Int × Nat)} (hc : code M p = (0, ei_sw arms, a, b)) (ht : e_arm x arms = some tg) (h : e_Ok fd lay code I d M (tg, l, r, w) Q) : e_Ok fd lay code I d M (p, l, (0, x) :: r, w) Q := by
  refine e_Ok.step hc ?_ h
  unfold ei_sw
  simp only [ht]
end E62b
theorem e_kn.put {w w' : eW} {c a b b' k z : Int} (h : e_kn w c a b) (hw : e_up w c k z = w') (hz : -2147483648 ≤ z ∧ z ≤ 2147483647) (hb : b' ≤ b ∨ (k = b + 1 ∧ b' = k)) : e_kn w' c a b' := fun i h1 h2 => by
  subst hw
  by_cases e : i = k
  · rw [e, e_up_eq]; exact hz
  · rw [e_up_ne _ _ (Or.inr e)]; exact h i h1 (by omega)
theorem e_kn.le {w : eW} {c a b b' : Int} (h : e_kn w c a b) (hb : b' ≤ b) : e_kn w c a b' := fun i h1 h2 => h i h1 (by omega)
def mRk (t c k : Int) : Prop := mLv t c k ∨ c = 345 ∨ c = 326
end
