noncomputable section
/-! statements within statements: by how many may still come -/
theorem stC.mono {M d : Nat} {z o F F' : Int} (h : stC M z o F d) (hF : F ≤ F') : stC M z o F' d := fun w N O P OW h1 h2 h3 h4 h5 h6 h7 h8 => (h w N O P OW h1 h2 h3 h4 h5 h6 h7 h8).imp (fun r w' q => ⟨q.1, q.2.1, q.2.2.1, by have := q.2.2.2.1; unfold stL at this ⊢; omega, q.2.2.2.2⟩)
theorem sx350 {d : Nat} {o F : Int} (hd : 309 ≤ d) (hor : 0 ≤ o ∧ o ≤ 30) (hF : 300 ≤ F ∧ F ≤ 700) (hS : o < 30 → ∀ k, d = k + 1 → stC 348 0 (o + 1) F k) : stC 350 1 o (F + 10) d := fun _ _ _ _ _ h1 h2 h3 h4 h5 h6 h7 h8 => c_350 hd h1 h2 h3 h4 h5 h6 h7 h8 hor hF hS
theorem sx351 {d : Nat} {o F : Int} (hd : 309 ≤ d) (hor : 0 ≤ o ∧ o ≤ 30) (hF : 300 ≤ F ∧ F ≤ 700) (hS : o < 30 → ∀ k, d = k + 1 → stC 348 0 (o + 1) F k) : stC 351 1 o (F + 10) d := fun _ _ _ _ _ h1 h2 h3 h4 h5 h6 h7 h8 => c_351 hd h1 h2 h3 h4 h5 h6 h7 h8 hor hF hS
theorem sx352 {d : Nat} {o F : Int} (hd : 309 ≤ d) (hor : 0 ≤ o ∧ o ≤ 30) (hF : 300 ≤ F ∧ F ≤ 700) (hS : o < 30 → ∀ k, d = k + 1 → stC 348 0 (o + 1) F k) : stC 352 1 o (F + 10) d := fun _ _ _ _ _ h1 h2 h3 h4 h5 h6 h7 h8 => c_352 hd h1 h2 h3 h4 h5 h6 h7 h8 hor hF hS
theorem sx348 {d : Nat} {o F : Int} (hd : 310 ≤ d) (hor : 0 ≤ o ∧ o ≤ 30) (hF : 300 ≤ F ∧ F ≤ 700) (hS : o < 30 → ∀ j k, d = j + 1 → j = k + 1 → stC 348 0 (o + 1) F k) : stC 348 0 o (F + 10) d := fun _ _ _ _ _ h1 h2 h3 h4 h5 h6 h7 h8 => c_348 hd h1 h2 h3 h4 h5 h6 h7 h8 hor hF (fun j e => sx350 (by omega) hor hF (fun ho k e2 => hS ho j k e e2)) (fun j e => sx351 (by omega) hor hF (fun ho k e2 => hS ho j k e e2)) (fun j e => sx352 (by omega) hor hF (fun ho k e2 => hS ho j k e e2))
theorem st_lv : ∀ (k : Nat), k ≤ 30 → ∀ d, 320 + 2 * k ≤ d → stC 348 0 (30 - (k : Int)) (310 + 10 * (k : Int)) d
  | 0, _, d, hd => by
    have q := sx348 (d := d) (o := 30) (F := 300) (by omega) (by omega) (by omega) (fun h => by omega)
    exact q
  | k + 1, hk, d, hd => by
    have ih := st_lv k (by omega)
    have q := sx348 (d := d) (o := 30 - ((k + 1 : Nat) : Int)) (F := 310 + 10 * (k : Int)) (by omega) (by omega) (by omega) (fun _ j i e1 e2 => by rw [show 30 - ((k + 1 : Nat) : Int) + 1 = 30 - (k : Int) by omega]; exact ih i (by omega))
    rw [show 310 + 10 * ((k + 1 : Nat) : Int) = 310 + 10 * (k : Int) + 10 by omega]
    exact q
/-- statements, at o brackets and parts -/
theorem c_stats {d : Nat} {o : Int} (hd : 390 ≤ d) (hor : 0 ≤ o ∧ o ≤ 30) : stC 348 0 o 620 d := by
  have hk : ((30 - o).toNat : Int) = 30 - o := by omega
  have q := st_lv (30 - o).toNat (by omega) d (by omega)
  rw [hk, show 30 - (30 - o) = o by omega] at q
  exact q.mono (by omega)
end
