noncomputable section
/-! the readers in lockstep: statements -/
theorem e_145_p {n : Nat} {N cd : Int} {w v : eW} (hz : st0 N cd w v) (hp : 1 ≤ w 1 6) (hkd : 24 ≤ w 1 5 ∧ w 1 5 ≤ 38) {z : Int} (hk : z = w 1 5 - 21) (ihS : ∀ k, k < n → sE k) {d d' : Nat} {r' : List eV} {v' : eW} (hM : e_Rn 20 elay ecode eI d' 349 (0, [(0, (1, 275)), (1, (0, z))], [], v) r' v') : e_Pn 20 elay kcode eI n d 145 (0, [(0, (1, 1))], [], w) (fun r w' => r = [] ∧ r' = [] ∧ ((st N cd w v w' v' 0 0 0 (-1) (w 1 13) (v 275 82) (w 1 12) 2 ∧ w 1 6 < w' 1 6) ∨ rpF w' v')) := by
  obtain h | h | h | h | h | h | h | h | h | h | h | h | h | h | h : w 1 5 = 24 ∨ w 1 5 = 25 ∨ w 1 5 = 26 ∨ w 1 5 = 27 ∨ w 1 5 = 28 ∨ w 1 5 = 29 ∨ w 1 5 = 30 ∨ w 1 5 = 31 ∨ w 1 5 = 32 ∨ w 1 5 = 33 ∨ w 1 5 = 34 ∨ w 1 5 = 35 ∨ w 1 5 = 36 ∨ w 1 5 = 37 ∨ w 1 5 = 38 := by omega
  · obtain rfl : z = 3 := by omega
    exact e_145_24 hz hp h ihS hM
  · obtain rfl : z = 4 := by omega
    exact e_145_25 hz hp h ihS hM
  · obtain rfl : z = 5 := by omega
    exact e_145_26 hz hp h ihS hM
  · obtain rfl : z = 6 := by omega
    exact e_145_27 hz hp h ihS hM
  · obtain rfl : z = 7 := by omega
    exact e_145_28 hz hp h ihS hM
  · obtain rfl : z = 8 := by omega
    exact e_145_29 hz hp h ihS hM
  · obtain rfl : z = 9 := by omega
    exact e_145_30 hz hp h ihS hM
  · obtain rfl : z = 10 := by omega
    exact e_145_31 hz hp h ihS hM
  · obtain rfl : z = 11 := by omega
    exact e_145_32 hz hp h ihS hM
  · obtain rfl : z = 12 := by omega
    exact e_145_33 hz hp h ihS hM
  · obtain rfl : z = 13 := by omega
    exact e_145_34 hz hp h ihS hM
  · obtain rfl : z = 14 := by omega
    exact e_145_35 hz hp h ihS hM
  · obtain rfl : z = 15 := by omega
    exact e_145_36 hz hp h ihS hM
  · obtain rfl : z = 16 := by omega
    exact e_145_37 hz hp h ihS hM
  · obtain rfl : z = 17 := by omega
    exact e_145_38 hz hp h ihS hM
end
