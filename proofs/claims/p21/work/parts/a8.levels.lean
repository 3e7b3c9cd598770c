noncomputable section
/-! expressions within expressions: by how many brackets may still come -/
theorem exC.mono {M d : Nat} {o F F' : Int} (h : exC M o F d) (hF : F ≤ F') : exC M o F' d := fun w N nt s e P h1 h2 h3 h4 h5 h6 h7 h8 => (h w N nt s e P h1 h2 h3 h4 h5 h6 h7 h8).imp (fun r w' q => ⟨q.1, q.2.1, q.2.2.1, by have := q.2.2.2.1; unfold cLn at this ⊢; omega, q.2.2.2.2⟩)
theorem ex344 {d : Nat} {o F : Int} (hd : 43 ≤ d) (hor : 0 ≤ o ∧ o ≤ 30) (hF : 0 ≤ F ∧ F ≤ 400) (hS : ∀ k, d = k + 1 → exC 346 o F k) : exC 344 o (F + 1) d := fun _ _ _ _ _ _ h1 h2 h3 h4 h5 h6 h7 h8 => c_344 hd h1 h2 h3 h4 h5 h6 h7 h8 hor hF hS
theorem ex343 {d : Nat} {o F : Int} (hd : 43 ≤ d) (hor : 0 ≤ o ∧ o ≤ 30) (hF : 0 ≤ F ∧ F ≤ 400) (hS : ∀ k, d = k + 1 → exC 344 o F k) : exC 343 o (F + 1) d := fun _ _ _ _ _ _ h1 h2 h3 h4 h5 h6 h7 h8 => c_343 hd h1 h2 h3 h4 h5 h6 h7 h8 hor hF hS
theorem ex342 {d : Nat} {o F : Int} (hd : 47 ≤ d) (hor : 0 ≤ o ∧ o ≤ 30) (hF : 0 ≤ F ∧ F ≤ 400) (hS : ∀ k, d = k + 1 → exC 343 o F k) (hN : o < 30 → ∀ k, d = k + 1 → exC 342 (o + 1) F k) : exC 342 o (F + 1) d := fun _ _ _ _ _ _ h1 h2 h3 h4 h5 h6 h7 h8 => c_342 hd h1 h2 h3 h4 h5 h6 h7 h8 hor hF hS hN
theorem ex340 {d : Nat} {o F : Int} (hd : 47 ≤ d) (hor : 0 ≤ o ∧ o ≤ 30) (hF : 0 ≤ F ∧ F ≤ 400) (hS : ∀ k, d = k + 1 → exC 342 o F k) : exC 340 o (F + 1) d := fun _ _ _ _ _ _ h1 h2 h3 h4 h5 h6 h7 h8 => c_340 hd h1 h2 h3 h4 h5 h6 h7 h8 hor hF hS
theorem ex339 {d : Nat} {o F : Int} (hd : 47 ≤ d) (hor : 0 ≤ o ∧ o ≤ 30) (hF : 0 ≤ F ∧ F ≤ 400) (hS : ∀ k, d = k + 1 → exC 340 o F k) : exC 339 o (F + 1) d := fun _ _ _ _ _ _ h1 h2 h3 h4 h5 h6 h7 h8 => c_339 hd h1 h2 h3 h4 h5 h6 h7 h8 hor hF hS
theorem ex345 {d : Nat} {o F : Int} (hd : 47 ≤ d) (hor : 0 ≤ o ∧ o ≤ 30) (hF : 0 ≤ F ∧ F ≤ 400) (hS : o < 30 → ∀ k, d = k + 1 → exC 339 (o + 1) F k) : exC 345 o F d := fun _ _ _ _ _ _ h1 h2 h3 h4 h5 h6 h7 h8 => c_345 hd h1 h2 h3 h4 h5 h6 h7 h8 hor hF hS
theorem ex346 {d : Nat} {o F : Int} (hd : 47 ≤ d) (hor : 0 ≤ o ∧ o ≤ 30) (hF : 0 ≤ F ∧ F ≤ 400) (hF1 : 1 ≤ F) (hS : o < 30 → ∀ k, d = k + 1 → exC 346 (o + 1) (F - 1) k) (hB : ∀ k, d = k + 1 → exC 345 o (F - 1) k) : exC 346 o F d := fun _ _ _ _ _ _ h1 h2 h3 h4 h5 h6 h7 h8 => c_346 hd h1 h2 h3 h4 h5 h6 h7 h8 hor hF hF1 hS hB
/-- one level: from what stands a bracket deeper (o + 1) -/
theorem ex_step {o F b : Int} {D : Nat} (hor : 0 ≤ o ∧ o ≤ 30) (hF : 0 ≤ F ∧ F ≤ 300) (hb : b = F + 7) (hD : 48 ≤ D) (h6 : o < 30 → ∀ d, D ≤ d + 4 → exC 346 (o + 1) b d) (hx : o < 30 → ∀ d, D ≤ d + 2 → exC 339 (o + 1) b d) (h2 : o < 30 → ∀ d, D ≤ d + 4 → exC 342 (o + 1) (b + 3) d) : (∀ d, D ≤ d → exC 346 o (F + 8) d) ∧ (∀ d, D + 3 ≤ d → exC 342 o (F + 11) d) := by
  have s1 : ∀ d, D ≤ d → exC 346 o (F + 8) d := fun d hd => ex346 (by omega) hor (by omega) (by omega) (fun ho k e => by rw [show F + 8 - 1 = b by omega]; exact h6 ho k (by omega)) (fun k e => by rw [show F + 8 - 1 = b by omega]; exact ex345 (by omega) hor (by omega) (fun ho k' e' => hx ho k' (by omega)))
  have s2 : ∀ d, D + 1 ≤ d → exC 344 o (F + 8 + 1) d := fun d hd => ex344 (by omega) hor (by omega) (fun k e => s1 k (by omega))
  have s3 : ∀ d, D + 2 ≤ d → exC 343 o (F + 8 + 1 + 1) d := fun d hd => ex343 (by omega) hor (by omega) (fun k e => s2 k (by omega))
  refine ⟨s1, fun d hd => ?_⟩
  rw [show F + 11 = F + 8 + 1 + 1 + 1 by omega]
  exact ex342 (by omega) hor (by omega) (fun k e => s3 k (by omega)) (fun ho k e => by rw [show F + 8 + 1 + 1 = b + 3 by omega]; exact h2 ho k (by omega))
theorem ex_lv : ∀ (k : Nat), k ≤ 30 → (∀ d, 48 + 7 * k ≤ d → exC 346 (30 - (k : Int)) (8 * (k : Int) + 8) d) ∧ (∀ d, 51 + 7 * k ≤ d → exC 342 (30 - (k : Int)) (8 * (k : Int) + 11) d)
  | 0, _ => by
    have q := ex_step (o := 30) (F := 0) (b := 7) (D := 48) (by omega) (by omega) (by omega) (by omega) (fun h => by omega) (fun h => by omega) (fun h => by omega)
    exact ⟨fun d hd => q.1 d (by omega), fun d hd => q.2 d (by omega)⟩
  | k + 1, hk => by
    obtain ⟨a6, a2⟩ := ex_lv k (by omega)
    have e0 : ∀ d, 52 + 7 * k ≤ d → exC 340 (30 - (k : Int)) (8 * (k : Int) + 11 + 1) d := fun d hd => ex340 (by omega) (by omega) (by omega) (fun j e => a2 j (by omega))
    have e9 : ∀ d, 53 + 7 * k ≤ d → exC 339 (30 - (k : Int)) (8 * (k : Int) + 11 + 1 + 1) d := fun d hd => ex339 (by omega) (by omega) (by omega) (fun j e => e0 j (by omega))
    have eo : 30 - ((k + 1 : Nat) : Int) + 1 = 30 - (k : Int) := by omega
    have q := ex_step (o := 30 - ((k + 1 : Nat) : Int)) (F := 8 * (k : Int) + 8) (b := 8 * (k : Int) + 15) (D := 55 + 7 * k) (by omega) (by omega) (by omega) (by omega) (fun _ d hd => by rw [eo]; exact (a6 d (by omega)).mono (by omega)) (fun _ d hd => by rw [eo]; exact (e9 d (by omega)).mono (by omega)) (fun _ d hd => by rw [eo]; exact (a2 d (by omega)).mono (by omega))
    refine ⟨fun d hd => ?_, fun d hd => ?_⟩
    · rw [show 8 * ((k + 1 : Nat) : Int) + 8 = 8 * (k : Int) + 8 + 8 by omega]
      exact q.1 d (by omega)
    · rw [show 8 * ((k + 1 : Nat) : Int) + 11 = 8 * (k : Int) + 8 + 11 by omega]
      exact q.2 d (by omega)
/-- an expression, at o brackets -/
theorem c_exp {d : Nat} {o : Int} (hd : 280 ≤ d) (hor : 0 ≤ o ∧ o ≤ 30) : exC 339 o 300 d := by
  have hk : ((30 - o).toNat : Int) = 30 - o := by omega
  have q := (ex_lv (30 - o).toNat (by omega)).2
  rw [hk, show 30 - (30 - o) = o by omega] at q
  have e0 : ∀ d, 270 ≤ d → exC 340 o (8 * (30 - o) + 11 + 1) d := fun d hd => ex340 (by omega) hor (by omega) (fun j e => q j (by omega))
  exact (ex339 (by omega) hor (by omega) (fun j e => e0 j (by omega))).mono (by omega)
end
