noncomputable section
theorem e_Has.task0 {w w' : eW} {t f : Int} (h : e_Has mTy w) (ht : 0 ≤ t ∧ t ≤ 15) (hf : 0 ≤ f ∧ f ≤ 19) (hw : e_up w 276 (1260 * t + f + 416) 0 = w') : e_Has mTy w' := by
  refine h.up hw (fun _ => ?_)
  have e : mTy 276 (1260 * t + f + 416) = nTask f := by
    show nowR _ = _
    unfold nowR
    rw [if_neg (by omega), if_neg (by omega), if_neg (by omega), if_neg (by omega), if_neg (by omega), if_pos (by omega), show (1260 * t + f + 416 - 416) % 1260 = f by omega]
  rw [e]
  unfold nTask
  rw [if_pos (by omega)]
  have hs : ∀ x : Int, 0 ≤ x ∧ x ≤ 19 → x = 0 ∨ x = 1 ∨ x = 2 ∨ x = 3 ∨ x = 4 ∨ x = 5 ∨ x = 6 ∨ x = 7 ∨ x = 8 ∨ x = 9 ∨ x = 10 ∨ x = 11 ∨ x = 12 ∨ x = 13 ∨ x = 14 ∨ x = 15 ∨ x = 16 ∨ x = 17 ∨ x = 18 ∨ x = 19 := fun x h => by omega
  rcases hs f hf with h | h | h | h | h | h | h | h | h | h | h | h | h | h | h | h | h | h | h | h <;> subst h <;> decide
def mNt (z c k : Int) : Prop := c = 276 ∧ 1260 * z + 416 ≤ k ∧ k ≤ 1260 * z + 437
end
