noncomputable section
/-! bits that were told -/
def bs16 (f : Int → Int) : Int := f 0 + 2 * f 1 + 4 * f 2 + 8 * f 3 + 16 * f 4 + 32 * f 5 + 64 * f 6 + 128 * f 7 + 256 * f 8 + 512 * f 9 + 1024 * f 10 + 2048 * f 11 + 4096 * f 12 + 8192 * f 13 + 16384 * f 14 + 32768 * f 15
theorem bq_0 {L F H : Int} (l : 0 ≤ L ∧ L < 1) (hf : 0 ≤ F ∧ F ≤ 1) : (L + 1 * (F + 2 * H)) / 1 % 2 = F := by omega
theorem bq_1 {L F H : Int} (l : 0 ≤ L ∧ L < 2) (hf : 0 ≤ F ∧ F ≤ 1) : (L + 2 * (F + 2 * H)) / 2 % 2 = F := by omega
theorem bq_2 {L F H : Int} (l : 0 ≤ L ∧ L < 4) (hf : 0 ≤ F ∧ F ≤ 1) : (L + 4 * (F + 2 * H)) / 4 % 2 = F := by omega
theorem bq_3 {L F H : Int} (l : 0 ≤ L ∧ L < 8) (hf : 0 ≤ F ∧ F ≤ 1) : (L + 8 * (F + 2 * H)) / 8 % 2 = F := by omega
theorem bq_4 {L F H : Int} (l : 0 ≤ L ∧ L < 16) (hf : 0 ≤ F ∧ F ≤ 1) : (L + 16 * (F + 2 * H)) / 16 % 2 = F := by omega
theorem bq_5 {L F H : Int} (l : 0 ≤ L ∧ L < 32) (hf : 0 ≤ F ∧ F ≤ 1) : (L + 32 * (F + 2 * H)) / 32 % 2 = F := by omega
theorem bq_6 {L F H : Int} (l : 0 ≤ L ∧ L < 64) (hf : 0 ≤ F ∧ F ≤ 1) : (L + 64 * (F + 2 * H)) / 64 % 2 = F := by omega
theorem bq_7 {L F H : Int} (l : 0 ≤ L ∧ L < 128) (hf : 0 ≤ F ∧ F ≤ 1) : (L + 128 * (F + 2 * H)) / 128 % 2 = F := by omega
theorem bq_8 {L F H : Int} (l : 0 ≤ L ∧ L < 256) (hf : 0 ≤ F ∧ F ≤ 1) : (L + 256 * (F + 2 * H)) / 256 % 2 = F := by omega
theorem bq_9 {L F H : Int} (l : 0 ≤ L ∧ L < 512) (hf : 0 ≤ F ∧ F ≤ 1) : (L + 512 * (F + 2 * H)) / 512 % 2 = F := by omega
theorem bq_10 {L F H : Int} (l : 0 ≤ L ∧ L < 1024) (hf : 0 ≤ F ∧ F ≤ 1) : (L + 1024 * (F + 2 * H)) / 1024 % 2 = F := by omega
theorem bq_11 {L F H : Int} (l : 0 ≤ L ∧ L < 2048) (hf : 0 ≤ F ∧ F ≤ 1) : (L + 2048 * (F + 2 * H)) / 2048 % 2 = F := by omega
theorem bq_12 {L F H : Int} (l : 0 ≤ L ∧ L < 4096) (hf : 0 ≤ F ∧ F ≤ 1) : (L + 4096 * (F + 2 * H)) / 4096 % 2 = F := by omega
theorem bq_13 {L F H : Int} (l : 0 ≤ L ∧ L < 8192) (hf : 0 ≤ F ∧ F ≤ 1) : (L + 8192 * (F + 2 * H)) / 8192 % 2 = F := by omega
theorem bq_14 {L F H : Int} (l : 0 ≤ L ∧ L < 16384) (hf : 0 ≤ F ∧ F ≤ 1) : (L + 16384 * (F + 2 * H)) / 16384 % 2 = F := by omega
theorem bq_15 {L F H : Int} (l : 0 ≤ L ∧ L < 32768) (hf : 0 ≤ F ∧ F ≤ 1) : (L + 32768 * (F + 2 * H)) / 32768 % 2 = F := by omega
theorem bs16_rng {f : Int → Int} (h : ∀ s, 0 ≤ f s ∧ f s ≤ 1) : 0 ≤ bs16 f ∧ bs16 f < 65536 := by
  have h0 := h 0
  have h1 := h 1
  have h2 := h 2
  have h3 := h 3
  have h4 := h 4
  have h5 := h 5
  have h6 := h 6
  have h7 := h 7
  have h8 := h 8
  have h9 := h 9
  have h10 := h 10
  have h11 := h 11
  have h12 := h 12
  have h13 := h 13
  have h14 := h 14
  have h15 := h 15
  unfold bs16
  omega
theorem bs16_bit {f : Int → Int} (h : ∀ s, 0 ≤ f s ∧ f s ≤ 1) {n : Nat} (hn : n < 16) : bs16 f / 2 ^ n % 2 = f n := by
  have h0 := h 0
  have h1 := h 1
  have h2 := h 2
  have h3 := h 3
  have h4 := h 4
  have h5 := h 5
  have h6 := h 6
  have h7 := h 7
  have h8 := h 8
  have h9 := h 9
  have h10 := h 10
  have h11 := h 11
  have h12 := h 12
  have h13 := h 13
  have h14 := h 14
  have h15 := h 15
  obtain rfl | rfl | rfl | rfl | rfl | rfl | rfl | rfl | rfl | rfl | rfl | rfl | rfl | rfl | rfl | rfl : n = 0 ∨ n = 1 ∨ n = 2 ∨ n = 3 ∨ n = 4 ∨ n = 5 ∨ n = 6 ∨ n = 7 ∨ n = 8 ∨ n = 9 ∨ n = 10 ∨ n = 11 ∨ n = 12 ∨ n = 13 ∨ n = 14 ∨ n = 15 := by omega
  · have e : bs16 f = (0) + 1 * (f 0 + 2 * (f 1 + 2 * f 2 + 4 * f 3 + 8 * f 4 + 16 * f 5 + 32 * f 6 + 64 * f 7 + 128 * f 8 + 256 * f 9 + 512 * f 10 + 1024 * f 11 + 2048 * f 12 + 4096 * f 13 + 8192 * f 14 + 16384 * f 15)) := by unfold bs16; omega
    have e2 : (2 : Int) ^ 0 = 1 := by decide
    rw [e, e2]
    exact bq_0 (by omega) (h 0)
  · have e : bs16 f = (f 0) + 2 * (f 1 + 2 * (f 2 + 2 * f 3 + 4 * f 4 + 8 * f 5 + 16 * f 6 + 32 * f 7 + 64 * f 8 + 128 * f 9 + 256 * f 10 + 512 * f 11 + 1024 * f 12 + 2048 * f 13 + 4096 * f 14 + 8192 * f 15)) := by unfold bs16; omega
    have e2 : (2 : Int) ^ 1 = 2 := by decide
    rw [e, e2]
    exact bq_1 (by omega) (h 1)
  · have e : bs16 f = (f 0 + 2 * f 1) + 4 * (f 2 + 2 * (f 3 + 2 * f 4 + 4 * f 5 + 8 * f 6 + 16 * f 7 + 32 * f 8 + 64 * f 9 + 128 * f 10 + 256 * f 11 + 512 * f 12 + 1024 * f 13 + 2048 * f 14 + 4096 * f 15)) := by unfold bs16; omega
    have e2 : (2 : Int) ^ 2 = 4 := by decide
    rw [e, e2]
    exact bq_2 (by omega) (h 2)
  · have e : bs16 f = (f 0 + 2 * f 1 + 4 * f 2) + 8 * (f 3 + 2 * (f 4 + 2 * f 5 + 4 * f 6 + 8 * f 7 + 16 * f 8 + 32 * f 9 + 64 * f 10 + 128 * f 11 + 256 * f 12 + 512 * f 13 + 1024 * f 14 + 2048 * f 15)) := by unfold bs16; omega
    have e2 : (2 : Int) ^ 3 = 8 := by decide
    rw [e, e2]
    exact bq_3 (by omega) (h 3)
  · have e : bs16 f = (f 0 + 2 * f 1 + 4 * f 2 + 8 * f 3) + 16 * (f 4 + 2 * (f 5 + 2 * f 6 + 4 * f 7 + 8 * f 8 + 16 * f 9 + 32 * f 10 + 64 * f 11 + 128 * f 12 + 256 * f 13 + 512 * f 14 + 1024 * f 15)) := by unfold bs16; omega
    have e2 : (2 : Int) ^ 4 = 16 := by decide
    rw [e, e2]
    exact bq_4 (by omega) (h 4)
  · have e : bs16 f = (f 0 + 2 * f 1 + 4 * f 2 + 8 * f 3 + 16 * f 4) + 32 * (f 5 + 2 * (f 6 + 2 * f 7 + 4 * f 8 + 8 * f 9 + 16 * f 10 + 32 * f 11 + 64 * f 12 + 128 * f 13 + 256 * f 14 + 512 * f 15)) := by unfold bs16; omega
    have e2 : (2 : Int) ^ 5 = 32 := by decide
    rw [e, e2]
    exact bq_5 (by omega) (h 5)
  · have e : bs16 f = (f 0 + 2 * f 1 + 4 * f 2 + 8 * f 3 + 16 * f 4 + 32 * f 5) + 64 * (f 6 + 2 * (f 7 + 2 * f 8 + 4 * f 9 + 8 * f 10 + 16 * f 11 + 32 * f 12 + 64 * f 13 + 128 * f 14 + 256 * f 15)) := by unfold bs16; omega
    have e2 : (2 : Int) ^ 6 = 64 := by decide
    rw [e, e2]
    exact bq_6 (by omega) (h 6)
  · have e : bs16 f = (f 0 + 2 * f 1 + 4 * f 2 + 8 * f 3 + 16 * f 4 + 32 * f 5 + 64 * f 6) + 128 * (f 7 + 2 * (f 8 + 2 * f 9 + 4 * f 10 + 8 * f 11 + 16 * f 12 + 32 * f 13 + 64 * f 14 + 128 * f 15)) := by unfold bs16; omega
    have e2 : (2 : Int) ^ 7 = 128 := by decide
    rw [e, e2]
    exact bq_7 (by omega) (h 7)
  · have e : bs16 f = (f 0 + 2 * f 1 + 4 * f 2 + 8 * f 3 + 16 * f 4 + 32 * f 5 + 64 * f 6 + 128 * f 7) + 256 * (f 8 + 2 * (f 9 + 2 * f 10 + 4 * f 11 + 8 * f 12 + 16 * f 13 + 32 * f 14 + 64 * f 15)) := by unfold bs16; omega
    have e2 : (2 : Int) ^ 8 = 256 := by decide
    rw [e, e2]
    exact bq_8 (by omega) (h 8)
  · have e : bs16 f = (f 0 + 2 * f 1 + 4 * f 2 + 8 * f 3 + 16 * f 4 + 32 * f 5 + 64 * f 6 + 128 * f 7 + 256 * f 8) + 512 * (f 9 + 2 * (f 10 + 2 * f 11 + 4 * f 12 + 8 * f 13 + 16 * f 14 + 32 * f 15)) := by unfold bs16; omega
    have e2 : (2 : Int) ^ 9 = 512 := by decide
    rw [e, e2]
    exact bq_9 (by omega) (h 9)
  · have e : bs16 f = (f 0 + 2 * f 1 + 4 * f 2 + 8 * f 3 + 16 * f 4 + 32 * f 5 + 64 * f 6 + 128 * f 7 + 256 * f 8 + 512 * f 9) + 1024 * (f 10 + 2 * (f 11 + 2 * f 12 + 4 * f 13 + 8 * f 14 + 16 * f 15)) := by unfold bs16; omega
    have e2 : (2 : Int) ^ 10 = 1024 := by decide
    rw [e, e2]
    exact bq_10 (by omega) (h 10)
  · have e : bs16 f = (f 0 + 2 * f 1 + 4 * f 2 + 8 * f 3 + 16 * f 4 + 32 * f 5 + 64 * f 6 + 128 * f 7 + 256 * f 8 + 512 * f 9 + 1024 * f 10) + 2048 * (f 11 + 2 * (f 12 + 2 * f 13 + 4 * f 14 + 8 * f 15)) := by unfold bs16; omega
    have e2 : (2 : Int) ^ 11 = 2048 := by decide
    rw [e, e2]
    exact bq_11 (by omega) (h 11)
  · have e : bs16 f = (f 0 + 2 * f 1 + 4 * f 2 + 8 * f 3 + 16 * f 4 + 32 * f 5 + 64 * f 6 + 128 * f 7 + 256 * f 8 + 512 * f 9 + 1024 * f 10 + 2048 * f 11) + 4096 * (f 12 + 2 * (f 13 + 2 * f 14 + 4 * f 15)) := by unfold bs16; omega
    have e2 : (2 : Int) ^ 12 = 4096 := by decide
    rw [e, e2]
    exact bq_12 (by omega) (h 12)
  · have e : bs16 f = (f 0 + 2 * f 1 + 4 * f 2 + 8 * f 3 + 16 * f 4 + 32 * f 5 + 64 * f 6 + 128 * f 7 + 256 * f 8 + 512 * f 9 + 1024 * f 10 + 2048 * f 11 + 4096 * f 12) + 8192 * (f 13 + 2 * (f 14 + 2 * f 15)) := by unfold bs16; omega
    have e2 : (2 : Int) ^ 13 = 8192 := by decide
    rw [e, e2]
    exact bq_13 (by omega) (h 13)
  · have e : bs16 f = (f 0 + 2 * f 1 + 4 * f 2 + 8 * f 3 + 16 * f 4 + 32 * f 5 + 64 * f 6 + 128 * f 7 + 256 * f 8 + 512 * f 9 + 1024 * f 10 + 2048 * f 11 + 4096 * f 12 + 8192 * f 13) + 16384 * (f 14 + 2 * (f 15)) := by unfold bs16; omega
    have e2 : (2 : Int) ^ 14 = 16384 := by decide
    rw [e, e2]
    exact bq_14 (by omega) (h 14)
  · have e : bs16 f = (f 0 + 2 * f 1 + 4 * f 2 + 8 * f 3 + 16 * f 4 + 32 * f 5 + 64 * f 6 + 128 * f 7 + 256 * f 8 + 512 * f 9 + 1024 * f 10 + 2048 * f 11 + 4096 * f 12 + 8192 * f 13 + 16384 * f 14) + 32768 * (f 15 + 2 * (0)) := by unfold bs16; omega
    have e2 : (2 : Int) ^ 15 = 32768 := by decide
    rw [e, e2]
    exact bq_15 (by omega) (h 15)
theorem bs16_set {f g : Int → Int} {n : Nat} (hn : n < 16) (h0 : f n = 0) (h1 : g n = 1) (h : ∀ s : Int, s ≠ n → g s = f s) : bs16 g = bs16 f + 2 ^ n := by
  obtain rfl | rfl | rfl | rfl | rfl | rfl | rfl | rfl | rfl | rfl | rfl | rfl | rfl | rfl | rfl | rfl : n = 0 ∨ n = 1 ∨ n = 2 ∨ n = 3 ∨ n = 4 ∨ n = 5 ∨ n = 6 ∨ n = 7 ∨ n = 8 ∨ n = 9 ∨ n = 10 ∨ n = 11 ∨ n = 12 ∨ n = 13 ∨ n = 14 ∨ n = 15 := by omega
  · have e2 : (2 : Int) ^ 0 = 1 := by decide
    replace h0 : f 0 = 0 := h0
    replace h1 : g 0 = 1 := h1
    rw [e2]
    have c1 := h 1 (by decide)
    have c2 := h 2 (by decide)
    have c3 := h 3 (by decide)
    have c4 := h 4 (by decide)
    have c5 := h 5 (by decide)
    have c6 := h 6 (by decide)
    have c7 := h 7 (by decide)
    have c8 := h 8 (by decide)
    have c9 := h 9 (by decide)
    have c10 := h 10 (by decide)
    have c11 := h 11 (by decide)
    have c12 := h 12 (by decide)
    have c13 := h 13 (by decide)
    have c14 := h 14 (by decide)
    have c15 := h 15 (by decide)
    unfold bs16
    omega
  · have e2 : (2 : Int) ^ 1 = 2 := by decide
    replace h0 : f 1 = 0 := h0
    replace h1 : g 1 = 1 := h1
    rw [e2]
    have c0 := h 0 (by decide)
    have c2 := h 2 (by decide)
    have c3 := h 3 (by decide)
    have c4 := h 4 (by decide)
    have c5 := h 5 (by decide)
    have c6 := h 6 (by decide)
    have c7 := h 7 (by decide)
    have c8 := h 8 (by decide)
    have c9 := h 9 (by decide)
    have c10 := h 10 (by decide)
    have c11 := h 11 (by decide)
    have c12 := h 12 (by decide)
    have c13 := h 13 (by decide)
    have c14 := h 14 (by decide)
    have c15 := h 15 (by decide)
    unfold bs16
    omega
  · have e2 : (2 : Int) ^ 2 = 4 := by decide
    replace h0 : f 2 = 0 := h0
    replace h1 : g 2 = 1 := h1
    rw [e2]
    have c0 := h 0 (by decide)
    have c1 := h 1 (by decide)
    have c3 := h 3 (by decide)
    have c4 := h 4 (by decide)
    have c5 := h 5 (by decide)
    have c6 := h 6 (by decide)
    have c7 := h 7 (by decide)
    have c8 := h 8 (by decide)
    have c9 := h 9 (by decide)
    have c10 := h 10 (by decide)
    have c11 := h 11 (by decide)
    have c12 := h 12 (by decide)
    have c13 := h 13 (by decide)
    have c14 := h 14 (by decide)
    have c15 := h 15 (by decide)
    unfold bs16
    omega
  · have e2 : (2 : Int) ^ 3 = 8 := by decide
    replace h0 : f 3 = 0 := h0
    replace h1 : g 3 = 1 := h1
    rw [e2]
    have c0 := h 0 (by decide)
    have c1 := h 1 (by decide)
    have c2 := h 2 (by decide)
    have c4 := h 4 (by decide)
    have c5 := h 5 (by decide)
    have c6 := h 6 (by decide)
    have c7 := h 7 (by decide)
    have c8 := h 8 (by decide)
    have c9 := h 9 (by decide)
    have c10 := h 10 (by decide)
    have c11 := h 11 (by decide)
    have c12 := h 12 (by decide)
    have c13 := h 13 (by decide)
    have c14 := h 14 (by decide)
    have c15 := h 15 (by decide)
    unfold bs16
    omega
  · have e2 : (2 : Int) ^ 4 = 16 := by decide
    replace h0 : f 4 = 0 := h0
    replace h1 : g 4 = 1 := h1
    rw [e2]
    have c0 := h 0 (by decide)
    have c1 := h 1 (by decide)
    have c2 := h 2 (by decide)
    have c3 := h 3 (by decide)
    have c5 := h 5 (by decide)
    have c6 := h 6 (by decide)
    have c7 := h 7 (by decide)
    have c8 := h 8 (by decide)
    have c9 := h 9 (by decide)
    have c10 := h 10 (by decide)
    have c11 := h 11 (by decide)
    have c12 := h 12 (by decide)
    have c13 := h 13 (by decide)
    have c14 := h 14 (by decide)
    have c15 := h 15 (by decide)
    unfold bs16
    omega
  · have e2 : (2 : Int) ^ 5 = 32 := by decide
    replace h0 : f 5 = 0 := h0
    replace h1 : g 5 = 1 := h1
    rw [e2]
    have c0 := h 0 (by decide)
    have c1 := h 1 (by decide)
    have c2 := h 2 (by decide)
    have c3 := h 3 (by decide)
    have c4 := h 4 (by decide)
    have c6 := h 6 (by decide)
    have c7 := h 7 (by decide)
    have c8 := h 8 (by decide)
    have c9 := h 9 (by decide)
    have c10 := h 10 (by decide)
    have c11 := h 11 (by decide)
    have c12 := h 12 (by decide)
    have c13 := h 13 (by decide)
    have c14 := h 14 (by decide)
    have c15 := h 15 (by decide)
    unfold bs16
    omega
  · have e2 : (2 : Int) ^ 6 = 64 := by decide
    replace h0 : f 6 = 0 := h0
    replace h1 : g 6 = 1 := h1
    rw [e2]
    have c0 := h 0 (by decide)
    have c1 := h 1 (by decide)
    have c2 := h 2 (by decide)
    have c3 := h 3 (by decide)
    have c4 := h 4 (by decide)
    have c5 := h 5 (by decide)
    have c7 := h 7 (by decide)
    have c8 := h 8 (by decide)
    have c9 := h 9 (by decide)
    have c10 := h 10 (by decide)
    have c11 := h 11 (by decide)
    have c12 := h 12 (by decide)
    have c13 := h 13 (by decide)
    have c14 := h 14 (by decide)
    have c15 := h 15 (by decide)
    unfold bs16
    omega
  · have e2 : (2 : Int) ^ 7 = 128 := by decide
    replace h0 : f 7 = 0 := h0
    replace h1 : g 7 = 1 := h1
    rw [e2]
    have c0 := h 0 (by decide)
    have c1 := h 1 (by decide)
    have c2 := h 2 (by decide)
    have c3 := h 3 (by decide)
    have c4 := h 4 (by decide)
    have c5 := h 5 (by decide)
    have c6 := h 6 (by decide)
    have c8 := h 8 (by decide)
    have c9 := h 9 (by decide)
    have c10 := h 10 (by decide)
    have c11 := h 11 (by decide)
    have c12 := h 12 (by decide)
    have c13 := h 13 (by decide)
    have c14 := h 14 (by decide)
    have c15 := h 15 (by decide)
    unfold bs16
    omega
  · have e2 : (2 : Int) ^ 8 = 256 := by decide
    replace h0 : f 8 = 0 := h0
    replace h1 : g 8 = 1 := h1
    rw [e2]
    have c0 := h 0 (by decide)
    have c1 := h 1 (by decide)
    have c2 := h 2 (by decide)
    have c3 := h 3 (by decide)
    have c4 := h 4 (by decide)
    have c5 := h 5 (by decide)
    have c6 := h 6 (by decide)
    have c7 := h 7 (by decide)
    have c9 := h 9 (by decide)
    have c10 := h 10 (by decide)
    have c11 := h 11 (by decide)
    have c12 := h 12 (by decide)
    have c13 := h 13 (by decide)
    have c14 := h 14 (by decide)
    have c15 := h 15 (by decide)
    unfold bs16
    omega
  · have e2 : (2 : Int) ^ 9 = 512 := by decide
    replace h0 : f 9 = 0 := h0
    replace h1 : g 9 = 1 := h1
    rw [e2]
    have c0 := h 0 (by decide)
    have c1 := h 1 (by decide)
    have c2 := h 2 (by decide)
    have c3 := h 3 (by decide)
    have c4 := h 4 (by decide)
    have c5 := h 5 (by decide)
    have c6 := h 6 (by decide)
    have c7 := h 7 (by decide)
    have c8 := h 8 (by decide)
    have c10 := h 10 (by decide)
    have c11 := h 11 (by decide)
    have c12 := h 12 (by decide)
    have c13 := h 13 (by decide)
    have c14 := h 14 (by decide)
    have c15 := h 15 (by decide)
    unfold bs16
    omega
  · have e2 : (2 : Int) ^ 10 = 1024 := by decide
    replace h0 : f 10 = 0 := h0
    replace h1 : g 10 = 1 := h1
    rw [e2]
    have c0 := h 0 (by decide)
    have c1 := h 1 (by decide)
    have c2 := h 2 (by decide)
    have c3 := h 3 (by decide)
    have c4 := h 4 (by decide)
    have c5 := h 5 (by decide)
    have c6 := h 6 (by decide)
    have c7 := h 7 (by decide)
    have c8 := h 8 (by decide)
    have c9 := h 9 (by decide)
    have c11 := h 11 (by decide)
    have c12 := h 12 (by decide)
    have c13 := h 13 (by decide)
    have c14 := h 14 (by decide)
    have c15 := h 15 (by decide)
    unfold bs16
    omega
  · have e2 : (2 : Int) ^ 11 = 2048 := by decide
    replace h0 : f 11 = 0 := h0
    replace h1 : g 11 = 1 := h1
    rw [e2]
    have c0 := h 0 (by decide)
    have c1 := h 1 (by decide)
    have c2 := h 2 (by decide)
    have c3 := h 3 (by decide)
    have c4 := h 4 (by decide)
    have c5 := h 5 (by decide)
    have c6 := h 6 (by decide)
    have c7 := h 7 (by decide)
    have c8 := h 8 (by decide)
    have c9 := h 9 (by decide)
    have c10 := h 10 (by decide)
    have c12 := h 12 (by decide)
    have c13 := h 13 (by decide)
    have c14 := h 14 (by decide)
    have c15 := h 15 (by decide)
    unfold bs16
    omega
  · have e2 : (2 : Int) ^ 12 = 4096 := by decide
    replace h0 : f 12 = 0 := h0
    replace h1 : g 12 = 1 := h1
    rw [e2]
    have c0 := h 0 (by decide)
    have c1 := h 1 (by decide)
    have c2 := h 2 (by decide)
    have c3 := h 3 (by decide)
    have c4 := h 4 (by decide)
    have c5 := h 5 (by decide)
    have c6 := h 6 (by decide)
    have c7 := h 7 (by decide)
    have c8 := h 8 (by decide)
    have c9 := h 9 (by decide)
    have c10 := h 10 (by decide)
    have c11 := h 11 (by decide)
    have c13 := h 13 (by decide)
    have c14 := h 14 (by decide)
    have c15 := h 15 (by decide)
    unfold bs16
    omega
  · have e2 : (2 : Int) ^ 13 = 8192 := by decide
    replace h0 : f 13 = 0 := h0
    replace h1 : g 13 = 1 := h1
    rw [e2]
    have c0 := h 0 (by decide)
    have c1 := h 1 (by decide)
    have c2 := h 2 (by decide)
    have c3 := h 3 (by decide)
    have c4 := h 4 (by decide)
    have c5 := h 5 (by decide)
    have c6 := h 6 (by decide)
    have c7 := h 7 (by decide)
    have c8 := h 8 (by decide)
    have c9 := h 9 (by decide)
    have c10 := h 10 (by decide)
    have c11 := h 11 (by decide)
    have c12 := h 12 (by decide)
    have c14 := h 14 (by decide)
    have c15 := h 15 (by decide)
    unfold bs16
    omega
  · have e2 : (2 : Int) ^ 14 = 16384 := by decide
    replace h0 : f 14 = 0 := h0
    replace h1 : g 14 = 1 := h1
    rw [e2]
    have c0 := h 0 (by decide)
    have c1 := h 1 (by decide)
    have c2 := h 2 (by decide)
    have c3 := h 3 (by decide)
    have c4 := h 4 (by decide)
    have c5 := h 5 (by decide)
    have c6 := h 6 (by decide)
    have c7 := h 7 (by decide)
    have c8 := h 8 (by decide)
    have c9 := h 9 (by decide)
    have c10 := h 10 (by decide)
    have c11 := h 11 (by decide)
    have c12 := h 12 (by decide)
    have c13 := h 13 (by decide)
    have c15 := h 15 (by decide)
    unfold bs16
    omega
  · have e2 : (2 : Int) ^ 15 = 32768 := by decide
    replace h0 : f 15 = 0 := h0
    replace h1 : g 15 = 1 := h1
    rw [e2]
    have c0 := h 0 (by decide)
    have c1 := h 1 (by decide)
    have c2 := h 2 (by decide)
    have c3 := h 3 (by decide)
    have c4 := h 4 (by decide)
    have c5 := h 5 (by decide)
    have c6 := h 6 (by decide)
    have c7 := h 7 (by decide)
    have c8 := h 8 (by decide)
    have c9 := h 9 (by decide)
    have c10 := h 10 (by decide)
    have c11 := h 11 (by decide)
    have c12 := h 12 (by decide)
    have c13 := h 13 (by decide)
    have c14 := h 14 (by decide)
    unfold bs16
    omega
theorem bs16_eq {f g : Int → Int} (h : ∀ s : Int, 0 ≤ s → s ≤ 15 → g s = f s) : bs16 g = bs16 f := by
  unfold bs16
  rw [h 0 (by decide) (by decide), h 1 (by decide) (by decide), h 2 (by decide) (by decide), h 3 (by decide) (by decide), h 4 (by decide) (by decide), h 5 (by decide) (by decide), h 6 (by decide) (by decide), h 7 (by decide) (by decide), h 8 (by decide) (by decide), h 9 (by decide) (by decide), h 10 (by decide) (by decide), h 11 (by decide) (by decide), h 12 (by decide) (by decide), h 13 (by decide) (by decide), h 14 (by decide) (by decide), h 15 (by decide) (by decide)]
theorem bs16_0 {f : Int → Int} (h : ∀ s : Int, 0 ≤ s → s ≤ 15 → f s = 0) : bs16 f = 0 := by
  unfold bs16
  rw [h 0 (by decide) (by decide), h 1 (by decide) (by decide), h 2 (by decide) (by decide), h 3 (by decide) (by decide), h 4 (by decide) (by decide), h 5 (by decide) (by decide), h 6 (by decide) (by decide), h 7 (by decide) (by decide), h 8 (by decide) (by decide), h 9 (by decide) (by decide), h 10 (by decide) (by decide), h 11 (by decide) (by decide), h 12 (by decide) (by decide), h 13 (by decide) (by decide), h 14 (by decide) (by decide), h 15 (by decide) (by decide)] <;> decide
def rK7 (c k : Int) : Prop := (c = 0 ∧ k = 11) ∨ (c = 250 ∧ k = 0) ∨ c = 92 ∨ c = 109 ∨ c = 126 ∨ c = 143
def rM7 (c k : Int) : Prop := (c = 275 ∧ (k = 10 ∨ k = 23)) ∨ c = 299
def rks7 (w w' : eW) : Prop := ∀ c k, rK7 c k → w' c k = w c k
def rms7 (w w' : eW) : Prop := ∀ c k, rM7 c k → w' c k = w c k
theorem kcs.r7 {w w' : eW} (h : kcs w w') : rks7 w w' := fun c k y => h c k (by unfold rK7 at y; unfold kCf; omega)
theorem mcs.r7 {w w' : eW} (h : mcs w w') : rms7 w w' := fun c k y => h c k (by unfold rM7 at y; unfold mCfg; omega)
theorem rK7_a {a k : Int} (a0 : 0 ≤ a) (a1 : a ≤ 3) : rK7 (17 * a + 92) k := by
  unfold rK7
  obtain rfl | rfl | rfl | rfl : a = 0 ∨ a = 1 ∨ a = 2 ∨ a = 3 := by omega
  all_goals omega
def lw7 (u : eW) : Prop := u 250 0 = u 275 23 ∧ (∀ a j, 0 ≤ a → a ≤ 3 → a < u 0 11 → 0 ≤ j → j ≤ 6 → u (17 * a + 92) j = bs16 (fun s => u 299 (112 * a + 16 * j + s))) ∧ ∀ a k, u 0 11 ≤ a → a ≤ 3 → 0 ≤ k → k < 112 → u 299 (112 * a + k) = 0
theorem lw7.keep {u v : eW} (h : lw7 u) (hK : rks7 u v) (hM : rms7 u v) : lw7 v := by
  have e1 : v 0 11 = u 0 11 := hK 0 11 (by unfold rK7; omega)
  have e2 : v 250 0 = u 250 0 := hK 250 0 (by unfold rK7; omega)
  have e3 : v 275 23 = u 275 23 := hM 275 23 (by unfold rM7; omega)
  have e4 : ∀ k, v 299 k = u 299 k := fun k => hM 299 k (by unfold rM7; omega)
  refine ⟨by rw [e2, e3]; exact h.1, fun a j a0 a1 a2 j0 j1 => ?_, fun a k a0 a1 k0 k1 => ?_⟩
  · rw [hK _ j (rK7_a a0 a1), bs16_eq (fun s _ _ => e4 (112 * a + 16 * j + s))]
    exact h.2.1 a j a0 a1 (by omega) j0 j1
  · rw [e4]
    exact h.2.2 a k (by omega) a1 k0 k1
theorem L7_st {B : Int → Prop} {u w1 v : eW} (ha : e_all u) (hf : e_Lf B u w1 v) {c k : Int} (hc : B c) (e : w1 c k = e_PB B u c k) : v c k = u c k := by
  rw [e_PB_in hc] at e
  exact (hf.val hc (by rw [e]; exact ha c k)).trans e
theorem L7_vl {B : Int → Prop} {u w1 v : eW} (hf : e_Lf B u w1 v) {c k x : Int} (hc : B c) (hx : kn1 x) (e : w1 c k = x) : v c k = x := (hf.val hc (by rw [e]; exact hx)).trans e
theorem S_ks {u w1 v w2 v2 : eW} (h0 : lw0 u) (hf1 : e_Lf Bk u w1 v) (hf2 : e_Lf Bm v w2 v2) {c k : Int} (hc : 0 ≤ c ∧ c ≤ 274) (e : w1 c k = e_PB Bk u c k) : v2 c k = u c k := (hf2.2.2.1 c k (by unfold Bm; omega)).trans (L7_st h0.1 hf1 hc e)
theorem S_kv {u w1 v w2 v2 : eW} (hf1 : e_Lf Bk u w1 v) (hf2 : e_Lf Bm v w2 v2) {c k x : Int} (hc : 0 ≤ c ∧ c ≤ 274) (hx : kn1 x) (e : w1 c k = x) : v2 c k = x := (hf2.2.2.1 c k (by unfold Bm; omega)).trans (L7_vl hf1 hc hx e)
theorem S_ms {u w1 v w2 v2 : eW} (hf1 : e_Lf Bk u w1 v) (hf2 : e_Lf Bm v w2 v2) {c k : Int} (hc : 275 ≤ c ∧ c ≤ 356) (e : w2 c k = e_PB Bm v c k) : v2 c k = u c k := (L7_st hf1.2.2.2.2.1 hf2 hc e).trans (hf1.2.2.1 c k (by unfold Bk; omega))
theorem S_mv {v w2 v2 : eW} (hf2 : e_Lf Bm v w2 v2) {c k x : Int} (hc : 275 ≤ c ∧ c ≤ 356) (hx : kn1 x) (e : w2 c k = x) : v2 c k = x := L7_vl hf2 hc hx e
theorem S_kb {u : eW} {c k : Int} (hc : 0 ≤ c ∧ c ≤ 274) : e_PB Bk u c k = u c k := e_PB_in hc
theorem S_mb {u w1 v : eW} (hf1 : e_Lf Bk u w1 v) {c k : Int} (hc : 275 ≤ c ∧ c ≤ 356) : e_PB Bm v c k = u c k := (e_PB_in hc).trans (hf1.2.2.1 c k (by unfold Bk; omega))
theorem rK7_B {c k : Int} (h : rK7 c k) : 0 ≤ c ∧ c ≤ 274 := by
  unfold rK7 at h
  omega
theorem rM7_B {c k : Int} (h : rM7 c k) : 275 ≤ c ∧ c ≤ 356 := by
  unfold rM7 at h
  omega
theorem lw7_same {u w1 v w2 v2 : eW} (h0 : lw0 u) (h7 : lw7 u) (hf1 : e_Lf Bk u w1 v) (e1 : rks7 (e_PB Bk u) w1) (hf2 : e_Lf Bm v w2 v2) (e2 : rms7 (e_PB Bm v) w2) : lw7 v2 :=
  h7.keep (fun c k y => S_ks h0 hf1 hf2 (rK7_B y) (e1 c k y)) (fun c k y => S_ms hf1 hf2 (rM7_B y) (e2 c k y))
theorem lw7.b01 {u : eW} (h0 : lw0 u) (k : Int) : 0 ≤ u 299 k ∧ u 299 k ≤ 1 := by
  have r := e_Has.get h0.2.2.2.2.2.1 (c := 299) (k := k) (lo := 0) (hi := 1) rfl (by decide)
  rw [show e_PB Bm u 299 k = u 299 k from e_PB_in (by unfold Bm; omega)] at r
  exact r
theorem lw7.hX {u : eW} (h0 : lw0 u) (h7 : lw7 u) : ∀ a b, 0 ≤ a → a < e_PB Bk u 0 11 → 0 ≤ b → b ≤ 6 → 0 ≤ e_PB Bk u (17 * a + 92) b ∧ e_PB Bk u (17 * a + 92) b < 65536 := by
  intro a b a0 a1 b0 b1
  have hn := (L_len h0).2.2
  have b11 : e_PB Bk u 0 11 = u 0 11 := S_kb (by omega)
  have bb : e_PB Bk u (17 * a + 92) b = u (17 * a + 92) b := S_kb (by omega)
  rw [bb, h7.2.1 a b a0 (by omega) (by omega) b0 b1]
  exact bs16_rng (fun s => lw7.b01 h0 _)
theorem ex_pairN {C1 C2 E1 E2 X1 X2 : Prop} {m o o' n n' z1 z2 : Int} (hc : C1 ↔ C2) (ho : o = o') (hn : n = n') (x1 : (E1 ∧ ((¬ C1 ∧ z1 = -1) ∨ (C1 ∧ ((o ≠ 0 ∧ z1 = -2) ∨ (o = 0 ∧ n = m ∧ z1 = -3))))) ∨ ((C1 ∧ o = 0 ∧ ¬ (n = m)) ∧ z1 = n ∧ X1)) (x2 : (E2 ∧ ((¬ C2 ∧ z2 = -1) ∨ (C2 ∧ ((o' ≠ 0 ∧ z2 = -2) ∨ (o' = 0 ∧ n' = m ∧ z2 = -3))))) ∨ ((C2 ∧ o' = 0 ∧ ¬ (n' = m)) ∧ z2 = n' ∧ X2)) : (E1 ∧ E2) ∨ (X1 ∧ X2) := by
  rcases x1 with ⟨e1, x1⟩ | ⟨⟨c1, o1, n1⟩, y1, f1⟩
  · rcases x2 with ⟨e2, x2⟩ | ⟨⟨c2, o2, n2⟩, y2, f2⟩
    · exact Or.inl ⟨e1, e2⟩
    · exfalso
      rcases x1 with ⟨c1, a1⟩ | ⟨c1, a1⟩
      · exact c1 (hc.2 c2)
      · omega
  · rcases x2 with ⟨e2, x2⟩ | ⟨⟨c2, o2, n2⟩, y2, f2⟩
    · exfalso
      rcases x2 with ⟨c2, a2⟩ | ⟨c2, a2⟩
      · exact c2 (hc.1 c1)
      · omega
    · exact Or.inr ⟨f1, f2⟩
theorem lw7_solid {u w1 v w2 v2 : eW} (h0 : lw0 u) (h7 : lw7 u) (hf1 : e_Lf Bk u w1 v) (hf2 : e_Lf Bm v w2 v2) (f1 : ∀ c k, rK7 c k → c ≠ 250 → w1 c k = e_PB Bk u c k) (e1 : w1 250 0 = e_PB Bk u 250 0 + 1) (f2 : ∀ c k, rM7 c k → ¬ (c = 275 ∧ k = 23) → w2 c k = e_PB Bm v c k) (e2 : w2 275 23 = e_PB Bm v 275 23 + 1) : lw7 v2 := by
  have r := e_Has.get h0.2.2.2.2.1.1 (c := 250) (k := 0) (lo := 0) (hi := 16) rfl (by decide)
  have b0 : e_PB Bk u 250 0 = u 250 0 := S_kb (by omega)
  have d0 : e_PB Bm v 275 23 = u 275 23 := S_mb hf1 (by omega)
  have h1 := h7.1
  have k0 : v2 250 0 = u 250 0 + 1 := S_kv hf1 hf2 (by omega) (by unfold kn1; omega) (by rw [e1, b0])
  have m0 : v2 275 23 = u 275 23 + 1 := S_mv hf2 (by omega) (by unfold kn1; omega) (by rw [e2, d0])
  have k11 : v2 0 11 = u 0 11 := S_ks h0 hf1 hf2 (by omega) (f1 0 11 (by unfold rK7; omega) (by decide))
  have K : ∀ a j, 0 ≤ a → a ≤ 3 → v2 (17 * a + 92) j = u (17 * a + 92) j := fun a j a0 a1 => S_ks h0 hf1 hf2 (by omega) (f1 _ _ (rK7_a a0 a1) (by omega))
  have N : ∀ k, v2 299 k = u 299 k := fun k => S_ms hf1 hf2 (by omega) (f2 _ _ (by unfold rM7; omega) (by omega))
  refine ⟨by omega, fun a j a0 a1 a2 j0 j1 => ?_, fun a k a0 a1 q0 q1 => ?_⟩
  · rw [K a j a0 a1, bs16_eq (fun s _ _ => N (112 * a + 16 * j + s))]
    exact h7.2.1 a j a0 a1 (by omega) j0 j1
  · rw [N]
    exact h7.2.2 a k (by omega) a1 q0 q1
theorem lw7_ball {u w1 v w2 v2 : eW} {z1 z2 p1 p2 p3 : Int} (h0 : lw0 u) (h3 : lw3 u) (h7 : lw7 u) (hf1 : e_Lf Bk u w1 v) (x1 : (((e_PB Bk u) = w1 ∧ ((¬ ((-16000 ≤ p1 ∧ p1 ≤ 16000) ∧ (-16000 ≤ p2 ∧ p2 ≤ 16000) ∧ 0 ≤ p3 ∧ p3 ≤ 8000) ∧ z1 = -1) ∨ (((-16000 ≤ p1 ∧ p1 ≤ 16000) ∧ (-16000 ≤ p2 ∧ p2 ≤ 16000) ∧ 0 ≤ p3 ∧ p3 ≤ 8000) ∧ (((e_PB Bk u) 0 13 ≠ 0 ∧ z1 = -2) ∨ ((e_PB Bk u) 0 13 = 0 ∧ (e_PB Bk u) 250 0 = 16 ∧ z1 = -3))))) ∨ ((((-16000 ≤ p1 ∧ p1 ≤ 16000) ∧ (-16000 ≤ p2 ∧ p2 ≤ 16000) ∧ 0 ≤ p3 ∧ p3 ≤ 8000) ∧ (e_PB Bk u) 0 13 = 0 ∧ ¬ ((e_PB Bk u) 250 0 = 16)) ∧ z1 = (e_PB Bk u) 250 0 ∧ w1 = e_up (e_up (e_up (e_up (e_up (e_up (e_PB Bk u) (251) ((e_PB Bk u) 250 0) (p1)) (252) ((e_PB Bk u) 250 0) (p2)) (253) ((e_PB Bk u) 250 0) (0)) (254) ((e_PB Bk u) 250 0) (0)) (255) ((e_PB Bk u) 250 0) (p3)) (250) (0) ((e_PB Bk u) 250 0 + 1)))) (hf2 : e_Lf Bm v w2 v2) (x2 : (((e_PB Bm v) = w2 ∧ ((¬ ((-16000 ≤ p1 ∧ p1 ≤ 16000) ∧ (-16000 ≤ p2 ∧ p2 ≤ 16000) ∧ 0 ≤ p3 ∧ p3 ≤ 8000) ∧ z2 = -1) ∨ (((-16000 ≤ p1 ∧ p1 ≤ 16000) ∧ (-16000 ≤ p2 ∧ p2 ≤ 16000) ∧ 0 ≤ p3 ∧ p3 ≤ 8000) ∧ (((e_PB Bm v) 275 3 ≠ 0 ∧ z2 = -2) ∨ ((e_PB Bm v) 275 3 = 0 ∧ (e_PB Bm v) 275 23 = 16 ∧ z2 = -3))))) ∨ ((((-16000 ≤ p1 ∧ p1 ≤ 16000) ∧ (-16000 ≤ p2 ∧ p2 ≤ 16000) ∧ 0 ≤ p3 ∧ p3 ≤ 8000) ∧ (e_PB Bm v) 275 3 = 0 ∧ ¬ ((e_PB Bm v) 275 23 = 16)) ∧ z2 = (e_PB Bm v) 275 23 ∧ w2 = e_up (e_up (e_up (e_up (e_up (e_up (e_PB Bm v) 294 ((e_PB Bm v) 275 23) (0)) 295 ((e_PB Bm v) 275 23) (p1)) 296 ((e_PB Bm v) 275 23) (p2)) 297 ((e_PB Bm v) 275 23) (p3)) 298 ((e_PB Bm v) 275 23) (0)) 275 (23) ((e_PB Bm v) 275 23 + 1)))) : lw7 v2 := by
  have b13 : e_PB Bk u 0 13 = u 0 13 := S_kb (by omega)
  have b25 : e_PB Bk u 250 0 = u 250 0 := S_kb (by omega)
  have d3 : e_PB Bm v 275 3 = u 275 3 := S_mb hf1 (by omega)
  have d23 : e_PB Bm v 275 23 = u 275 23 := S_mb hf1 (by omega)
  obtain ⟨y9, y3, y10⟩ := h3
  have h71 := h7.1
  have hx := ex_pairN (m := 16) (Iff.rfl : ((-16000 ≤ p1 ∧ p1 ≤ 16000) ∧ (-16000 ≤ p2 ∧ p2 ≤ 16000) ∧ 0 ≤ p3 ∧ p3 ≤ 8000) ↔ ((-16000 ≤ p1 ∧ p1 ≤ 16000) ∧ (-16000 ≤ p2 ∧ p2 ≤ 16000) ∧ 0 ≤ p3 ∧ p3 ≤ 8000)) (o := e_PB Bk u 0 13) (o' := e_PB Bm v 275 3) (n := e_PB Bk u 250 0) (n' := e_PB Bm v 275 23) (by omega) (by omega) x1 x2
  rcases hx with ⟨e1, e2⟩ | ⟨e1, e2⟩
  · exact lw7_same h0 h7 hf1 (fun c k _ => by rw [← e1]) hf2 (fun c k _ => by rw [← e2])
  · refine lw7_solid h0 h7 hf1 hf2 (fun c k q nc => ?_) (by rw [e1, e_up_eq]) (fun c k q nc => ?_) (by rw [e2, e_up_eq])
    · unfold rK7 at q
      rw [e1, e_up_ne _ _ (by omega), e_up_ne _ _ (by omega), e_up_ne _ _ (by omega), e_up_ne _ _ (by omega), e_up_ne _ _ (by omega), e_up_ne _ _ (by omega)]
    · unfold rM7 at q
      rw [e2, e_up_ne _ _ (by omega), e_up_ne _ _ (by omega), e_up_ne _ _ (by omega), e_up_ne _ _ (by omega), e_up_ne _ _ (by omega), e_up_ne _ _ (by omega)]
theorem lw7_box {u w1 v w2 v2 : eW} {z1 z2 p1 p2 p3 p4 : Int} (h0 : lw0 u) (h3 : lw3 u) (h7 : lw7 u) (hf1 : e_Lf Bk u w1 v) (x1 : (((e_PB Bk u) = w1 ∧ ((¬ ((-16000 ≤ p1 ∧ p1 ≤ 16000) ∧ (-16000 ≤ p2 ∧ p2 ≤ 16000) ∧ (0 ≤ p3 ∧ p1 + p3 ≤ 16000) ∧ 0 ≤ p4 ∧ p2 + p4 ≤ 16000) ∧ z1 = -1) ∨ (((-16000 ≤ p1 ∧ p1 ≤ 16000) ∧ (-16000 ≤ p2 ∧ p2 ≤ 16000) ∧ (0 ≤ p3 ∧ p1 + p3 ≤ 16000) ∧ 0 ≤ p4 ∧ p2 + p4 ≤ 16000) ∧ (((e_PB Bk u) 0 13 ≠ 0 ∧ z1 = -2) ∨ ((e_PB Bk u) 0 13 = 0 ∧ (e_PB Bk u) 250 0 = 16 ∧ z1 = -3))))) ∨ ((((-16000 ≤ p1 ∧ p1 ≤ 16000) ∧ (-16000 ≤ p2 ∧ p2 ≤ 16000) ∧ (0 ≤ p3 ∧ p1 + p3 ≤ 16000) ∧ 0 ≤ p4 ∧ p2 + p4 ≤ 16000) ∧ (e_PB Bk u) 0 13 = 0 ∧ ¬ ((e_PB Bk u) 250 0 = 16)) ∧ z1 = (e_PB Bk u) 250 0 ∧ w1 = e_up (e_up (e_up (e_up (e_up (e_up (e_PB Bk u) (251) ((e_PB Bk u) 250 0) (p1)) (252) ((e_PB Bk u) 250 0) (p2)) (253) ((e_PB Bk u) 250 0) (p3)) (254) ((e_PB Bk u) 250 0) (p4)) (255) ((e_PB Bk u) 250 0) (-1)) (250) (0) ((e_PB Bk u) 250 0 + 1)))) (hf2 : e_Lf Bm v w2 v2) (x2 : (((e_PB Bm v) = w2 ∧ ((¬ ((-16000 ≤ p1 ∧ p1 ≤ 16000) ∧ (-16000 ≤ p2 ∧ p2 ≤ 16000) ∧ (0 ≤ p3 ∧ p1 + p3 ≤ 16000) ∧ 0 ≤ p4 ∧ p2 + p4 ≤ 16000) ∧ z2 = -1) ∨ (((-16000 ≤ p1 ∧ p1 ≤ 16000) ∧ (-16000 ≤ p2 ∧ p2 ≤ 16000) ∧ (0 ≤ p3 ∧ p1 + p3 ≤ 16000) ∧ 0 ≤ p4 ∧ p2 + p4 ≤ 16000) ∧ (((e_PB Bm v) 275 3 ≠ 0 ∧ z2 = -2) ∨ ((e_PB Bm v) 275 3 = 0 ∧ (e_PB Bm v) 275 23 = 16 ∧ z2 = -3))))) ∨ ((((-16000 ≤ p1 ∧ p1 ≤ 16000) ∧ (-16000 ≤ p2 ∧ p2 ≤ 16000) ∧ (0 ≤ p3 ∧ p1 + p3 ≤ 16000) ∧ 0 ≤ p4 ∧ p2 + p4 ≤ 16000) ∧ (e_PB Bm v) 275 3 = 0 ∧ ¬ ((e_PB Bm v) 275 23 = 16)) ∧ z2 = (e_PB Bm v) 275 23 ∧ w2 = e_up (e_up (e_up (e_up (e_up (e_up (e_PB Bm v) 294 ((e_PB Bm v) 275 23) (1)) 295 ((e_PB Bm v) 275 23) (p1)) 296 ((e_PB Bm v) 275 23) (p2)) 297 ((e_PB Bm v) 275 23) (p3)) 298 ((e_PB Bm v) 275 23) (p4)) 275 (23) ((e_PB Bm v) 275 23 + 1)))) : lw7 v2 := by
  have b13 : e_PB Bk u 0 13 = u 0 13 := S_kb (by omega)
  have b25 : e_PB Bk u 250 0 = u 250 0 := S_kb (by omega)
  have d3 : e_PB Bm v 275 3 = u 275 3 := S_mb hf1 (by omega)
  have d23 : e_PB Bm v 275 23 = u 275 23 := S_mb hf1 (by omega)
  obtain ⟨y9, y3, y10⟩ := h3
  have h71 := h7.1
  have hx := ex_pairN (m := 16) (Iff.rfl : ((-16000 ≤ p1 ∧ p1 ≤ 16000) ∧ (-16000 ≤ p2 ∧ p2 ≤ 16000) ∧ (0 ≤ p3 ∧ p1 + p3 ≤ 16000) ∧ 0 ≤ p4 ∧ p2 + p4 ≤ 16000) ↔ ((-16000 ≤ p1 ∧ p1 ≤ 16000) ∧ (-16000 ≤ p2 ∧ p2 ≤ 16000) ∧ (0 ≤ p3 ∧ p1 + p3 ≤ 16000) ∧ 0 ≤ p4 ∧ p2 + p4 ≤ 16000)) (o := e_PB Bk u 0 13) (o' := e_PB Bm v 275 3) (n := e_PB Bk u 250 0) (n' := e_PB Bm v 275 23) (by omega) (by omega) x1 x2
  rcases hx with ⟨e1, e2⟩ | ⟨e1, e2⟩
  · exact lw7_same h0 h7 hf1 (fun c k _ => by rw [← e1]) hf2 (fun c k _ => by rw [← e2])
  · refine lw7_solid h0 h7 hf1 hf2 (fun c k q nc => ?_) (by rw [e1, e_up_eq]) (fun c k q nc => ?_) (by rw [e2, e_up_eq])
    · unfold rK7 at q
      rw [e1, e_up_ne _ _ (by omega), e_up_ne _ _ (by omega), e_up_ne _ _ (by omega), e_up_ne _ _ (by omega), e_up_ne _ _ (by omega), e_up_ne _ _ (by omega)]
    · unfold rM7 at q
      rw [e2, e_up_ne _ _ (by omega), e_up_ne _ _ (by omega), e_up_ne _ _ (by omega), e_up_ne _ _ (by omega), e_up_ne _ _ (by omega), e_up_ne _ _ (by omega)]
theorem lw7_arm {u w1 v w2 v2 : eW} {p1 p2 p3 p4 : Int} (h0 : lw0 u) (h3 : lw3 u) (k3 : lw3 v2) (h7 : lw7 u) (hf1 : e_Lf Bk u w1 v) (x1 : (w1 = e_PB Bk u) ∨ (e_PB Bk u 0 11 ≤ 3 ∧ e_fr (kAa (e_PB Bk u 0 11) (e_PB Bk u (17 * e_PB Bk u 0 11 + 86) 7)) (e_PB Bk u) w1 ∧ w1 0 11 = e_PB Bk u 0 11 + 1 ∧ w1 (17 * e_PB Bk u 0 11 + 86) 8 = 0)) (s1 : w1 = e_PB Bk u ∨ ∀ k, 0 ≤ k → k < 7 → w1 (17 * e_PB Bk u 0 11 + 92) k = 0) (hf2 : e_Lf Bm v w2 v2) (x2 : (e_PB Bm v = w2) ∨ (w2 = e_up (e_up (e_up (e_up (e_up (e_PB Bm v) 282 (e_PB Bm v 275 10) (p1)) 283 (e_PB Bm v 275 10) (p2)) 284 (e_PB Bm v 275 10) (p3)) 285 (e_PB Bm v 275 10) (p4)) 275 (10) (e_PB Bm v 275 10 + 1))) : lw7 v2 := by
  have hn := (L_len h0).2.2
  have b11 : e_PB Bk u 0 11 = u 0 11 := S_kb (by omega)
  have d10 : e_PB Bm v 275 10 = u 275 10 := S_mb hf1 (by omega)
  obtain ⟨y9, y3, y10⟩ := h3
  obtain ⟨t9, t3, t10⟩ := k3
  rcases x1 with e1 | ⟨n3, f, e11, -⟩
  · have k11 : v2 0 11 = u 0 11 := S_ks h0 hf1 hf2 (by omega) (by rw [e1])
    rcases x2 with e2 | e2
    · exact lw7_same h0 h7 hf1 (fun c k _ => by rw [e1]) hf2 (fun c k _ => by rw [← e2])
    · exfalso
      have m10 : v2 275 10 = u 275 10 + 1 := S_mv hf2 (by omega) (by unfold kn1; omega) (by rw [e2, e_up_eq, d10])
      omega
  · have k11 : v2 0 11 = u 0 11 + 1 := S_kv hf1 hf2 (by omega) (by unfold kn1; omega) (by rw [e11, b11])
    have s2 : ∀ k, 0 ≤ k → k < 7 → w1 (17 * u 0 11 + 92) k = 0 := by
      rcases s1 with e1 | s1
      · exfalso
        rw [e1] at e11
        omega
      · rw [b11] at s1
        exact s1
    rcases x2 with e2 | e2
    · exfalso
      have m10 : v2 275 10 = u 275 10 := S_ms hf1 hf2 (by omega) (by rw [← e2])
      omega
    · rw [b11] at f n3
      have hcd : isCd (e_PB Bk u (17 * u 0 11 + 86) 7) := h0.2.2.2.2.1.hC (u 0 11) hn.1 n3
      unfold isCd at hcd
      generalize e_PB Bk u (17 * u 0 11 + 86) 7 = cd at hcd f
      have k250 : v2 250 0 = u 250 0 := S_ks h0 hf1 hf2 (by omega) (f _ _ (fun g => by
        unfold kAa kMk at g
        rcases hcd with rfl | rfl | rfl | rfl | rfl <;> omega))
      have K1 : ∀ a j, 0 ≤ a → a ≤ 3 → a ≠ u 0 11 → v2 (17 * a + 92) j = u (17 * a + 92) j := fun a j a0 a1 na => S_ks h0 hf1 hf2 (by omega) (f _ _ (fun g => by
        unfold kAa kMk at g
        rcases hcd with rfl | rfl | rfl | rfl | rfl <;> omega))
      have K2 : ∀ j, 0 ≤ j → j ≤ 6 → v2 (17 * u 0 11 + 92) j = 0 := fun j j0 j1 => S_kv hf1 hf2 (by omega) (by unfold kn1; omega) (s2 j j0 (by omega))
      have M1 : ∀ c k, (c = 299 ∨ (c = 275 ∧ k = 23)) → v2 c k = u c k := fun c k q => S_ms hf1 hf2 (by omega) (by rw [e2, e_up_ne _ _ (by omega), e_up_ne _ _ (by omega), e_up_ne _ _ (by omega), e_up_ne _ _ (by omega), e_up_ne _ _ (by omega)])
      refine ⟨by rw [k250, M1 275 23 (by decide)]; exact h7.1, fun a j a0 a1 a2 j0 j1 => ?_, fun a k a0 a1 q0 q1 => ?_⟩
      · rw [bs16_eq (fun s _ _ => M1 299 (112 * a + 16 * j + s) (Or.inl rfl))]
        by_cases ea : a = u 0 11
        · rw [ea, K2 j j0 j1, bs16_0 (fun s s0 s1 => by
            have z := h7.2.2 (u 0 11) (16 * j + s) (by omega) (by omega) (by omega) (by omega)
            rw [← Int.add_assoc] at z
            exact z)]
        · rw [K1 a j a0 a1 ea]
          exact h7.2.1 a j a0 a1 (by omega) j0 j1
      · rw [M1 299 _ (Or.inl rfl)]
        exact h7.2.2 a k (by omega) a1 q0 q1
theorem lw7_spare {u w1 v w2 v2 : eW} {z1 z2 p1 p2 p3 : Int} (h0 : lw0 u) (h3 : lw3 u) (h7 : lw7 u) (hf1 : e_Lf Bk u w1 v) (x1 : (((e_PB Bk u) = w1 ∧ ((¬ ((0 ≤ p1 ∧ p1 < (e_PB Bk u) 0 11) ∧ (0 ≤ p2 ∧ p2 ≤ 6) ∧ (0 ≤ p3 ∧ p3 < (e_PB Bk u) 250 0)) ∧ z1 = -1) ∨ (((0 ≤ p1 ∧ p1 < (e_PB Bk u) 0 11) ∧ (0 ≤ p2 ∧ p2 ≤ 6) ∧ (0 ≤ p3 ∧ p3 < (e_PB Bk u) 250 0)) ∧ (e_PB Bk u) 0 13 ≠ 0 ∧ z1 = -2))) ∨ ((((0 ≤ p1 ∧ p1 < (e_PB Bk u) 0 11) ∧ (0 ≤ p2 ∧ p2 ≤ 6) ∧ (0 ≤ p3 ∧ p3 < (e_PB Bk u) 250 0)) ∧ (e_PB Bk u) 0 13 = 0) ∧ ∃ n : Nat, p3 = n ∧ (((e_PB Bk u) (17 * p1 + 92) p2 / 2 ^ n % 2 = 1 ∧ z1 = 0 ∧ (e_PB Bk u) = w1) ∨ ((e_PB Bk u) (17 * p1 + 92) p2 / 2 ^ n % 2 = 0 ∧ z1 = 1 ∧ w1 = e_up (e_PB Bk u) (17 * p1 + 92) p2 ((e_PB Bk u) (17 * p1 + 92) p2 + 2 ^ n)))))) (hf2 : e_Lf Bm v w2 v2) (x2 : (((e_PB Bm v) = w2 ∧ ((¬ ((0 ≤ p1 ∧ p1 < (e_PB Bm v) 275 10) ∧ (0 ≤ p2 ∧ p2 ≤ 6) ∧ (0 ≤ p3 ∧ p3 < (e_PB Bm v) 275 23)) ∧ z2 = -1) ∨ (((0 ≤ p1 ∧ p1 < (e_PB Bm v) 275 10) ∧ (0 ≤ p2 ∧ p2 ≤ 6) ∧ (0 ≤ p3 ∧ p3 < (e_PB Bm v) 275 23)) ∧ (e_PB Bm v) 275 3 ≠ 0 ∧ z2 = -2))) ∨ ((((0 ≤ p1 ∧ p1 < (e_PB Bm v) 275 10) ∧ (0 ≤ p2 ∧ p2 ≤ 6) ∧ (0 ≤ p3 ∧ p3 < (e_PB Bm v) 275 23)) ∧ (e_PB Bm v) 275 3 = 0) ∧ z2 = 1 - (e_PB Bm v) 299 (112 * p1 + 16 * p2 + p3) ∧ w2 = e_up (e_PB Bm v) 299 (112 * p1 + 16 * p2 + p3) (1)))) : lw7 v2 ∧ z1 = z2 := by
  have hn := (L_len h0).2.2
  have b11 : e_PB Bk u 0 11 = u 0 11 := S_kb (by omega)
  have b13 : e_PB Bk u 0 13 = u 0 13 := S_kb (by omega)
  have b25 : e_PB Bk u 250 0 = u 250 0 := S_kb (by omega)
  have d3 : e_PB Bm v 275 3 = u 275 3 := S_mb hf1 (by omega)
  have d10 : e_PB Bm v 275 10 = u 275 10 := S_mb hf1 (by omega)
  have d23 : e_PB Bm v 275 23 = u 275 23 := S_mb hf1 (by omega)
  have dk : ∀ k, e_PB Bm v 299 k = u 299 k := fun k => S_mb hf1 (by omega)
  have r25 := e_Has.get h0.2.2.2.2.1.1 (c := 250) (k := 0) (lo := 0) (hi := 16) rfl (by decide)
  obtain ⟨y9, y3, y10⟩ := h3
  have h71 := h7.1
  have hc : ((0 ≤ p1 ∧ p1 < (e_PB Bk u) 0 11) ∧ (0 ≤ p2 ∧ p2 ≤ 6) ∧ (0 ≤ p3 ∧ p3 < (e_PB Bk u) 250 0)) ↔ ((0 ≤ p1 ∧ p1 < (e_PB Bm v) 275 10) ∧ (0 ≤ p2 ∧ p2 ≤ 6) ∧ (0 ≤ p3 ∧ p3 < (e_PB Bm v) 275 23)) := by
    constructor
    · rintro ⟨q1, q2, q3⟩
      exact ⟨by omega, q2, by omega⟩
    · rintro ⟨q1, q2, q3⟩
      exact ⟨by omega, q2, by omega⟩
  rcases x1 with ⟨e1, x1⟩ | ⟨⟨c1, o1⟩, n, en, x1⟩
  · rcases x2 with ⟨e2, x2⟩ | ⟨⟨c2, o2⟩, a2, e2⟩
    · refine ⟨lw7_same h0 h7 hf1 (fun c k _ => by rw [← e1]) hf2 (fun c k _ => by rw [← e2]), ?_⟩
      rcases x1 with ⟨c1, a1⟩ | ⟨c1, g1, a1⟩
      · rcases x2 with ⟨c2, a2⟩ | ⟨c2, g2, a2⟩
        · exact a1.trans a2.symm
        · exact absurd (hc.2 c2) c1
      · rcases x2 with ⟨c2, a2⟩ | ⟨c2, g2, a2⟩
        · exact absurd (hc.1 c1) c2
        · exact a1.trans a2.symm
    · exfalso
      rcases x1 with ⟨c1, a1⟩ | ⟨c1, g1, a1⟩
      · exact c1 (hc.2 c2)
      · omega
  · rcases x2 with ⟨e2, x2⟩ | ⟨⟨c2, o2⟩, a2, e2⟩
    · exfalso
      rcases x2 with ⟨c2, a2⟩ | ⟨c2, g2, a2⟩
      · exact c2 (hc.1 c1)
      · omega
    · obtain ⟨⟨q0, q1⟩, ⟨q2, q3⟩, q4, q5⟩ := c1
      have hn16 : n < 16 := by omega
      have qa : p1 < u 0 11 := by omega
      have hb := h7.2.1 p1 p2 q0 (by omega) qa q2 q3
      have b92 : e_PB Bk u (17 * p1 + 92) p2 = u (17 * p1 + 92) p2 := S_kb (by omega)
      have hbit := bs16_bit (f := fun s => u 299 (112 * p1 + 16 * p2 + s)) (fun s => lw7.b01 h0 _) hn16
      rw [← hb] at hbit
      rw [b92] at x1
      rw [en] at e2 a2
      rw [dk] at a2
      replace hbit : u (17 * p1 + 92) p2 / 2 ^ n % 2 = u 299 (112 * p1 + 16 * p2 + (n : Int)) := hbit
      have M1 : ∀ k, k ≠ 112 * p1 + 16 * p2 + (n : Int) → v2 299 k = u 299 k := fun k nk => S_ms hf1 hf2 (by omega) (by rw [e2, e_up_ne _ _ (by omega)])
      have M2 : v2 299 (112 * p1 + 16 * p2 + (n : Int)) = 1 := S_mv hf2 (by omega) (by unfold kn1; omega) (by rw [e2, e_up_eq])
      have M3 : v2 275 23 = u 275 23 := S_ms hf1 hf2 (by omega) (by rw [e2, e_up_ne _ _ (by omega)])
      rcases x1 with ⟨g1, a1, e1⟩ | ⟨g1, a1, e1⟩
      · have u1 : u 299 (112 * p1 + 16 * p2 + (n : Int)) = 1 := hbit.symm.trans g1
        refine ⟨?_, by omega⟩
        have K : ∀ c k, 0 ≤ c ∧ c ≤ 274 → v2 c k = u c k := fun c k hc => S_ks h0 hf1 hf2 hc (by rw [← e1])
        have N : ∀ k, v2 299 k = u 299 k := fun k => by
          by_cases e : k = 112 * p1 + 16 * p2 + (n : Int)
          · rw [e, M2, u1]
          · exact M1 k e
        refine ⟨by rw [K 250 0 (by omega), M3]; exact h71, fun a j a0 a1 a2 j0 j1 => ?_, fun a k a0 a1 k0 k1 => ?_⟩
        · have k11 := K 0 11 (by omega)
          rw [K (17 * a + 92) j (by omega), bs16_eq (fun s _ _ => N (112 * a + 16 * j + s))]
          exact h7.2.1 a j a0 a1 (by omega) j0 j1
        · have k11 := K 0 11 (by omega)
          rw [N]
          exact h7.2.2 a k (by omega) a1 k0 k1
      · have u0 : u 299 (112 * p1 + 16 * p2 + (n : Int)) = 0 := hbit.symm.trans g1
        refine ⟨?_, by omega⟩
        have rg := bs16_rng (f := fun s => u 299 (112 * p1 + 16 * p2 + s)) (fun s => lw7.b01 h0 _)
        rw [← hb] at rg
        have hp := p2_rng hn16
        have K : ∀ c k, 0 ≤ c ∧ c ≤ 274 → ¬ (c = 17 * p1 + 92 ∧ k = p2) → v2 c k = u c k := fun c k hc nk => S_ks h0 hf1 hf2 hc (by rw [e1, e_up_ne _ _ (by omega)])
        have Kn : v2 (17 * p1 + 92) p2 = u (17 * p1 + 92) p2 + 2 ^ n := S_kv hf1 hf2 (by omega) (by unfold kn1; omega) (by rw [e1, e_up_eq])
        have k11 := K 0 11 (by omega) (by omega)
        refine ⟨by rw [K 250 0 (by omega) (by omega), M3]; exact h71, fun a j a0 a1 a2 j0 j1 => ?_, fun a k a0 a1 k0 k1 => ?_⟩
        · by_cases e : a = p1 ∧ j = p2
          · rw [e.1, e.2, Kn, hb]
            exact (bs16_set (f := fun s => u 299 (112 * p1 + 16 * p2 + s)) (g := fun s => v2 299 (112 * p1 + 16 * p2 + s)) hn16 u0 M2 (fun s ns => M1 _ (by omega))).symm
          · rw [K (17 * a + 92) j (by omega) (by omega), bs16_eq (fun s s0 s1 => M1 (112 * a + 16 * j + s) (by omega))]
            exact h7.2.1 a j a0 a1 (by omega) j0 j1
        · rw [M1 _ (by omega)]
          exact h7.2.2 a k (by omega) a1 k0 k1
theorem lw7_zero {u w1 v w2 v2 : eW} (hf1 : e_Lf Bk u w1 v) (e1 : w1 0 11 = 0) (e0 : w1 250 0 = 0) (hf2 : e_Lf Bm v w2 v2) (e2 : w2 275 23 = 0) (e3 : ∀ k, 0 ≤ k → k < 448 → w2 299 k = 0) : lw7 v2 := by
  have k11 : v2 0 11 = 0 := S_kv hf1 hf2 (by omega) (by unfold kn1; omega) e1
  have k25 : v2 250 0 = 0 := S_kv hf1 hf2 (by omega) (by unfold kn1; omega) e0
  have m23 : v2 275 23 = 0 := S_mv hf2 (by omega) (by unfold kn1; omega) e2
  exact ⟨by rw [k25, m23], fun a j a0 a1 a2 j0 j1 => by exfalso; omega, fun a k a0 a1 k0 k1 => S_mv hf2 (by omega) (by unfold kn1; omega) (e3 _ (by omega) (by omega))⟩
theorem i0.lw7 {w u : eW} (h : i0 w u) : lw7 u := by
  have k11 : u 0 11 = 0 := h.vl (j := 0) (k := 11) (by decide +kernel)
  have k25 : u 250 0 = 0 := h.vl (j := 250) (k := 0) (by decide +kernel)
  have m23 : u 275 23 = 0 := h.vl (j := 275) (k := 23) (by decide +kernel)
  have k2 : ∀ p : Nat, p < 448 → pv 299 p = some 0 := by decide +kernel
  refine ⟨by rw [k25, m23], fun a j a0 a1 a2 j0 j1 => by exfalso; omega, fun a k a0 a1 k0 k1 => ?_⟩
  obtain ⟨n, e⟩ := Int.eq_ofNat_of_zero_le (show 0 ≤ 112 * a + k by omega)
  rw [e]
  exact h.vl (j := 299) (k := n) (k2 n (by omega))
def lwS (u : eW) : Prop := lwR u ∧ lw7 u
theorem i0.lwS {w u : eW} (h : i0 w u) (ha : e_all u) : lwS u := ⟨h.lwR ha, h.lw7⟩
theorem m_277s {d : Nat} (hd : 23 ≤ d) {w : eW} (h : mRel w) : e_Ok 20 elay ecode eI d 277 (0, [(0, (1, 275))], [], w) (fun _ w' => w' 275 23 = 0 ∧ ∀ k, 0 ≤ k → k < 448 → w' 299 k = 0) :=
  (e_Ok.both (c_277_h hd h.1 h.2.1) (c_277_s hd h.1)).imp (fun r w' q => by
    obtain ⟨⟨z, hr, q1, q2, q3, q4⟩, z', hr', p1, p2⟩ := q
    exact ⟨q4.1.2.2.1, p2⟩)
theorem ks7_190 {d : Nat} (hd : 460 ≤ d) {w : eW} (q : kRel w) (hAl : kAl w) {a : Int} (g_a : (-2147483648 ≤ a ∧ a ≤ 2147483647)) {b : Int} (g_b : (-2147483648 ≤ b ∧ b ≤ 2147483647)) {c : Int} (g_c : (-2147483648 ≤ c ∧ c ≤ 2147483647)) {e : Int} (g_e : (-2147483648 ≤ e ∧ e ≤ 2147483647)) {g : Int} (g_g : (-2147483648 ≤ g ∧ g ≤ 2147483647)) : e_Ok 20 elay kcode eI d 190 (0, [(0, (1, 0)), (1, (0, a)), (2, (0, b)), (3, (0, c)), (4, (0, e)), (5, (0, g))], [], w) (fun r w' => ∃ z : Int, r = [(0, z)] ∧ kRelF w' ∧ (((3980 < w 1 0 ∧ z = -3 ∧ km3 w w') ∨ (w 1 0 ≤ 3980 ∧ z = w 1 0 + 20 ∧ w' 0 13 = w 0 13 ∧ w' 1 0 = w 1 0 + 20 ∧ w' 0 11 = w 0 11))) ∧ rks7 w w') :=
  (e_Ok.both (k_190 hd q hAl g_a g_b g_c g_e g_g) (kq_190 hd q hAl g_a g_b g_c g_e g_g)).imp (fun r w' h => by
    obtain ⟨⟨z, h1, hF, e⟩, f⟩ := h
    exact ⟨z, h1, hF, e, f.r7⟩)
theorem ks7_191 {d : Nat} (hd : 460 ≤ d) {w : eW} (q : kRel w) (hAl : kAl w) {a : Int} (g_a : (-2147483648 ≤ a ∧ a ≤ 2147483647)) : e_Ok 20 elay kcode eI d 191 (0, [(0, (1, 0)), (1, (0, a))], [], w) (fun r w' => ∃ z : Int, r = [(0, z)] ∧ kRelF w' ∧ ((((a < 0 ∨ w 1 0 < a) ∧ z = -1 ∧ km3 w w') ∨ ((0 ≤ a ∧ a ≤ w 1 0) ∧ z = w 1 0 - a ∧ w' 0 13 = w 0 13 ∧ w' 1 0 = w 1 0 - a ∧ w' 0 11 = w 0 11))) ∧ rks7 w w') :=
  (e_Ok.both (k_191 hd q hAl g_a) (kq_191 hd q hAl g_a)).imp (fun r w' h => by
    obtain ⟨⟨z, h1, hF, e⟩, f⟩ := h
    exact ⟨z, h1, hF, e, f.r7⟩)
theorem ks7_194 {d : Nat} (hd : 460 ≤ d) {w : eW} (q : kRel w) (hAl : kAl w) {a : Int} (g_a : (-2147483648 ≤ a ∧ a ≤ 2147483647)) {kd : Int} (g_kd : (-2147483648 ≤ kd ∧ kd ≤ 2147483647)) {lo : Int} (g_lo : (-2147483648 ≤ lo ∧ lo ≤ 2147483647)) {hi : Int} (g_hi : (-2147483648 ≤ hi ∧ hi ≤ 2147483647)) {ln : Int} (g_ln : (-2147483648 ≤ ln ∧ ln ≤ 2147483647)) : e_Ok 20 elay kcode eI d 194 (0, [(0, (1, 0)), (1, (0, a)), (2, (0, kd)), (3, (0, lo)), (4, (0, hi)), (5, (0, ln))], [], w) (fun r w' => ∃ z : Int, r = [(0, z)] ∧ kRelF w' ∧ (km3 w w') ∧ rks7 w w') :=
  (e_Ok.both (k_194 hd q hAl g_a g_kd g_lo g_hi g_ln) (kq_194 hd q hAl g_a g_kd g_lo g_hi g_ln)).imp (fun r w' h => by
    obtain ⟨⟨z, h1, hF, e⟩, f⟩ := h
    exact ⟨z, h1, hF, e, fun c k y => by
      rcases f with rfl | ⟨ga, f⟩
      · rfl
      · exact f c k (fun g => by unfold rK7 at y; unfold kAj at g; omega)⟩)
theorem ks7_195 {d : Nat} (hd : 460 ≤ d) {w : eW} (q : kRel w) (hAl : kAl w) {a : Int} (g_a : (-2147483648 ≤ a ∧ a ≤ 2147483647)) {b : Int} (g_b : (-2147483648 ≤ b ∧ b ≤ 2147483647)) {c : Int} (g_c : (-2147483648 ≤ c ∧ c ≤ 2147483647)) {e : Int} (g_e : (-2147483648 ≤ e ∧ e ≤ 2147483647)) : e_Ok 20 elay kcode eI d 195 (0, [(0, (1, 0)), (1, (0, a)), (2, (0, b)), (3, (0, c)), (4, (0, e))], [], w) (fun r w' => ∃ z : Int, r = [(0, z)] ∧ kRelF w' ∧ (km3 w w') ∧ rks7 w w') :=
  (e_Ok.both (k_195 hd q hAl g_a g_b g_c g_e) (kq_195 hd q hAl g_a g_b g_c g_e)).imp (fun r w' h => by
    obtain ⟨⟨z, h1, hF, e⟩, f⟩ := h
    exact ⟨z, h1, hF, e, fun c k y => by
      rcases f with rfl | ⟨ga, gb, f⟩
      · rfl
      · exact f c k (fun g => by unfold rK7 at y; unfold kBj at g; omega)⟩)
theorem ks7_196 {d : Nat} (hd : 460 ≤ d) {w : eW} (q : kRel w) (hAl : kAl w) {a : Int} (g_a : (-2147483648 ≤ a ∧ a ≤ 2147483647)) {b : Int} (g_b : (-2147483648 ≤ b ∧ b ≤ 2147483647)) {c : Int} (g_c : (-2147483648 ≤ c ∧ c ≤ 2147483647)) : e_Ok 20 elay kcode eI d 196 (0, [(0, (1, 0)), (1, (0, a)), (2, (0, b)), (3, (0, c))], [], w) (fun r w' => ∃ z : Int, r = [(0, z)] ∧ kRelF w' ∧ (km3 w w') ∧ rks7 w w') :=
  (e_Ok.both (k_196 hd q hAl g_a g_b g_c) (kq_196 hd q hAl g_a g_b g_c)).imp (fun r w' h => by
    obtain ⟨⟨z, h1, hF, e⟩, f⟩ := h
    exact ⟨z, h1, hF, e, fun c k y => by
      rcases f with rfl | ⟨ga, gb, f⟩
      · rfl
      · exact f c k (fun g => by unfold rK7 at y; unfold kBr at g; omega)⟩)
theorem ks7_200 {d : Nat} (hd : 460 ≤ d) {w : eW} (q : kRel w) (hAl : kAl w) {a : Int} (g_a : (-2147483648 ≤ a ∧ a ≤ 2147483647)) {b : Int} (g_b : (-2147483648 ≤ b ∧ b ≤ 2147483647)) {c : Int} (g_c : (-2147483648 ≤ c ∧ c ≤ 2147483647)) {e : Int} (g_e : (-2147483648 ≤ e ∧ e ≤ 2147483647)) {g : Int} (g_g : (-2147483648 ≤ g ∧ g ≤ 2147483647)) : e_Ok 20 elay kcode eI d 200 (0, [(0, (1, 0)), (1, (0, a)), (2, (0, b)), (3, (0, c)), (4, (0, e)), (5, (0, g))], [], w) (fun r w' => ∃ z : Int, r = [(0, z)] ∧ kRelF w' ∧ (km3 w w') ∧ rks7 w w') :=
  (e_Ok.both (k_200 hd q hAl g_a g_b g_c g_e g_g) (kq_200 hd q hAl g_a g_b g_c g_e g_g)).imp (fun r w' h => by
    obtain ⟨⟨z, h1, hF, e⟩, f⟩ := h
    exact ⟨z, h1, hF, e, fun c k y => f c k (fun g => by unfold rK7 at y; unfold kAb at g; omega)⟩)
theorem ks7_201 {d : Nat} (hd : 460 ≤ d) {w : eW} (q : kRel w) (hAl : kAl w) {a : Int} (g_a : (-2147483648 ≤ a ∧ a ≤ 2147483647)) {b : Int} (g_b : (-2147483648 ≤ b ∧ b ≤ 2147483647)) : e_Ok 20 elay kcode eI d 201 (0, [(0, (1, 0)), (1, (0, a)), (2, (0, b))], [], w) (fun r w' => ∃ z : Int, r = [(0, z)] ∧ kRelF w' ∧ (km3 w w') ∧ rks7 w w') :=
  (e_Ok.both (k_201 hd q hAl g_a g_b) (kq_201 hd q hAl g_a g_b)).imp (fun r w' h => by
    obtain ⟨⟨z, h1, hF, e⟩, f⟩ := h
    exact ⟨z, h1, hF, e, fun c k y => f c k (fun g => by unfold rK7 at y; unfold kBd at g; omega)⟩)
theorem ks7_202 {d : Nat} (hd : 460 ≤ d) {w : eW} (q : kRel w) (hAl : kAl w) {a : Int} (g_a : (-2147483648 ≤ a ∧ a ≤ 2147483647)) {b : Int} (g_b : (-2147483648 ≤ b ∧ b ≤ 2147483647)) {c : Int} (g_c : (-2147483648 ≤ c ∧ c ≤ 2147483647)) {e : Int} (g_e : (-2147483648 ≤ e ∧ e ≤ 2147483647)) : e_Ok 20 elay kcode eI d 202 (0, [(0, (1, 0)), (1, (0, a)), (2, (0, b)), (3, (0, c)), (4, (0, e))], [], w) (fun r w' => ∃ z : Int, r = [(0, z)] ∧ kRelF w' ∧ (km3 w w') ∧ rks7 w w') :=
  (e_Ok.both (k_202 hd q hAl g_a g_b g_c g_e) (kq_202 hd q hAl g_a g_b g_c g_e)).imp (fun r w' h => by
    obtain ⟨⟨z, h1, hF, e⟩, f⟩ := h
    exact ⟨z, h1, hF, e, fun c k y => f c k (fun g => by unfold rK7 at y; unfold kBs at g; omega)⟩)
theorem ks7_203 {d : Nat} (hd : 460 ≤ d) {w : eW} (q : kRel w) (hAl : kAl w) {a : Int} (g_a : (-2147483648 ≤ a ∧ a ≤ 2147483647)) {b : Int} (g_b : (-2147483648 ≤ b ∧ b ≤ 2147483647)) {c : Int} (g_c : (-2147483648 ≤ c ∧ c ≤ 2147483647)) : e_Ok 20 elay kcode eI d 203 (0, [(0, (1, 0)), (1, (0, a)), (2, (0, b)), (3, (0, c))], [], w) (fun r w' => ∃ z : Int, r = [(0, z)] ∧ kRelF w' ∧ (km3 w w') ∧ rks7 w w') :=
  (e_Ok.both (k_203 hd q hAl g_a g_b g_c) (kq_203 hd q hAl g_a g_b g_c)).imp (fun r w' h => by
    obtain ⟨⟨z, h1, hF, e⟩, f⟩ := h
    exact ⟨z, h1, hF, e, fun c k y => f c k (fun g => by unfold rK7 at y; unfold kAp at g; omega)⟩)
theorem ks7_204 {d : Nat} (hd : 460 ≤ d) {w : eW} (q : kRel w) (hAl : kAl w) {a : Int} (g_a : (-2147483648 ≤ a ∧ a ≤ 2147483647)) {b : Int} (g_b : (-2147483648 ≤ b ∧ b ≤ 2147483647)) {c : Int} (g_c : (-2147483648 ≤ c ∧ c ≤ 2147483647)) : e_Ok 20 elay kcode eI d 204 (0, [(0, (1, 0)), (1, (0, a)), (2, (0, b)), (3, (0, c))], [], w) (fun r w' => ∃ z : Int, r = [(0, z)] ∧ kRelF w' ∧ (km3 w w') ∧ rks7 w w') :=
  (e_Ok.both (k_204 hd q hAl g_a g_b g_c) (kq_204 hd q hAl g_a g_b g_c)).imp (fun r w' h => by
    obtain ⟨⟨z, h1, hF, e⟩, f⟩ := h
    exact ⟨z, h1, hF, e, fun c k y => f c k (fun g => by unfold rK7 at y; unfold kAp at g; omega)⟩)
theorem ks7_205 {d : Nat} (hd : 460 ≤ d) {w : eW} (q : kRel w) (hAl : kAl w) {a : Int} (g_a : (-2147483648 ≤ a ∧ a ≤ 2147483647)) {b : Int} (g_b : (-2147483648 ≤ b ∧ b ≤ 2147483647)) {c : Int} (g_c : (-2147483648 ≤ c ∧ c ≤ 2147483647)) {e : Int} (g_e : (-2147483648 ≤ e ∧ e ≤ 2147483647)) {g : Int} (g_g : (-2147483648 ≤ g ∧ g ≤ 2147483647)) : e_Ok 20 elay kcode eI d 205 (0, [(0, (1, 0)), (1, (0, a)), (2, (0, b)), (3, (0, c)), (4, (0, e)), (5, (0, g))], [], w) (fun r w' => ∃ z : Int, r = [(0, z)] ∧ kRelF w' ∧ (km3 w w') ∧ rks7 w w') :=
  (e_Ok.both (k_205 hd q hAl g_a g_b g_c g_e g_g) (c_205_ex (by omega) q.1 q.2.2.1.1 g_a g_b g_c g_e g_g)).imp (fun r w' h => by
    obtain ⟨⟨z, h1, hF, e⟩, z', h1', x⟩ := h
    exact ⟨z, h1, hF, e, fun c k y => by
      rcases x with ⟨ew, -⟩ | ⟨-, -, ew⟩
      · rw [← ew]
      · unfold rK7 at y
        rw [ew, e_up_ne _ _ (by omega), e_up_ne _ _ (by omega), e_up_ne _ _ (by omega), e_up_ne _ _ (by omega), e_up_ne _ _ (by omega), e_up_ne _ _ (by omega), e_up_ne _ _ (by omega)]⟩)
theorem ks7_206 {d : Nat} (hd : 460 ≤ d) {w : eW} (q : kRel w) (hAl : kAl w) {a : Int} (g_a : (-2147483648 ≤ a ∧ a ≤ 2147483647)) {b : Int} (g_b : (-2147483648 ≤ b ∧ b ≤ 2147483647)) : e_Ok 20 elay kcode eI d 206 (0, [(0, (1, 0)), (1, (0, a)), (2, (0, b))], [], w) (fun r w' => ∃ z : Int, r = [(0, z)] ∧ kRelF w' ∧ (km3 w w') ∧ rks7 w w') :=
  (e_Ok.both (k_206 hd q hAl g_a g_b) (kq_206 hd q hAl g_a g_b)).imp (fun r w' h => by
    obtain ⟨⟨z, h1, hF, e⟩, f⟩ := h
    exact ⟨z, h1, hF, e, fun c k y => f c k (fun g => by unfold rK7 at y; unfold kBm0 at g; omega)⟩)
theorem ks7_207 {d : Nat} (hd : 460 ≤ d) {w : eW} (q : kRel w) (hAl : kAl w) {a : Int} (g_a : (-2147483648 ≤ a ∧ a ≤ 2147483647)) : e_Ok 20 elay kcode eI d 207 (0, [(0, (1, 0)), (1, (0, a))], [], w) (fun r w' => ∃ z : Int, r = [(0, z)] ∧ kRelF w' ∧ (km3 w w') ∧ rks7 w w') :=
  (e_Ok.both (k_207 hd q hAl g_a) (kq_207 hd q hAl g_a)).imp (fun r w' h => by
    obtain ⟨⟨z, h1, hF, e⟩, f⟩ := h
    exact ⟨z, h1, hF, e, fun c k y => f c k (fun g => by unfold rK7 at y; unfold kBi at g; omega)⟩)
theorem ks7_208 {d : Nat} (hd : 460 ≤ d) {w : eW} (q : kRel w) (hAl : kAl w) {a : Int} (g_a : (-2147483648 ≤ a ∧ a ≤ 2147483647)) {b : Int} (g_b : (0 ≤ b ∧ b ≤ 1)) : e_Ok 20 elay kcode eI d 208 (0, [(0, (1, 0)), (1, (0, a)), (2, (0, b))], [], w) (fun r w' => ∃ z : Int, r = [(0, z)] ∧ kRelF w' ∧ (km3 w w') ∧ rks7 w w') :=
  (e_Ok.both (k_208 hd q hAl g_a g_b) (kq_208 hd q hAl g_a g_b)).imp (fun r w' h => by
    obtain ⟨⟨z, h1, hF, e⟩, f⟩ := h
    exact ⟨z, h1, hF, e, fun c k y => f c k (fun g => by unfold rK7 at y; unfold kBp at g; omega)⟩)
theorem ks7_209 {d : Nat} (hd : 460 ≤ d) {w : eW} (q : kRel w) (hAl : kAl w) {a : Int} (g_a : (-2147483648 ≤ a ∧ a ≤ 2147483647)) {b : Int} (g_b : (-2147483648 ≤ b ∧ b ≤ 2147483647)) {c : Int} (g_c : (0 ≤ c ∧ c ≤ 1)) : e_Ok 20 elay kcode eI d 209 (0, [(0, (1, 0)), (1, (0, a)), (2, (0, b)), (3, (0, c))], [], w) (fun r w' => ∃ z : Int, r = [(0, z)] ∧ kRelF w' ∧ (km3 w w') ∧ rks7 w w') :=
  (e_Ok.both (k_209 hd q hAl g_a g_b g_c) (kq_209 hd q hAl g_a g_b g_c)).imp (fun r w' h => by
    obtain ⟨⟨z, h1, hF, e⟩, f⟩ := h
    exact ⟨z, h1, hF, e, fun c k y => f c k (fun g => by unfold rK7 at y; unfold kCn at g; omega)⟩)
theorem ks7_210 {d : Nat} (hd : 460 ≤ d) {w : eW} (q : kRel w) (hAl : kAl w) {a : Int} (g_a : (-2147483648 ≤ a ∧ a ≤ 2147483647)) : e_Ok 20 elay kcode eI d 210 (0, [(0, (1, 0)), (1, (0, a))], [], w) (fun r w' => ∃ z : Int, r = [(0, z)] ∧ kRelF w' ∧ (((km3 w w' ∧ (w 0 13 = 1 ∨ a < 0 ∨ w 0 11 ≤ a)) ∨ ((w 0 13 = 0 ∧ 0 ≤ a ∧ a < w 0 11) ∧ w' 0 13 = w 0 13 ∧ w' 1 0 = 0 ∧ w' 0 11 = w 0 11))) ∧ rks7 w w') :=
  (e_Ok.both (k_210 hd q hAl g_a) (kq_210 hd q hAl g_a)).imp (fun r w' h => by
    obtain ⟨⟨z, h1, hF, e⟩, f⟩ := h
    exact ⟨z, h1, hF, e, f.r7⟩)
theorem ks7_211 {d : Nat} (hd : 460 ≤ d) {w : eW} (q : kRel w) (hAl : kAl w) {a : Int} (g_a : (-2147483648 ≤ a ∧ a ≤ 2147483647)) : e_Ok 20 elay kcode eI d 211 (0, [(0, (1, 0)), (1, (0, a))], [], w) (fun r w' => ∃ z : Int, r = [(0, z)] ∧ kRelF w' ∧ (km3 w w') ∧ rks7 w w') :=
  (e_Ok.both (k_211 hd q hAl g_a) (kq_211 hd q hAl g_a)).imp (fun r w' h => by
    obtain ⟨⟨z, h1, hF, e⟩, f⟩ := h
    exact ⟨z, h1, hF, e, f.r7⟩)
theorem ks7_212 {d : Nat} (hd : 460 ≤ d) {w : eW} (q : kRel w) (hAl : kAl w) : e_Ok 20 elay kcode eI d 212 (0, [(0, (1, 0))], [], w) (fun r w' => ∃ z : Int, r = [(0, z)] ∧ kRelF w' ∧ (((w 0 13 = 1 ∧ km3 w w') ∨ (w 0 13 = 0 ∧ w' 0 13 = 1 ∧ w' 1 0 = w 1 0 ∧ w' 0 11 = w 0 11))) ∧ rks7 w w') :=
  (e_Ok.both (k_212 hd q hAl ) (kq_212 hd q hAl )).imp (fun r w' h => by
    obtain ⟨⟨z, h1, hF, e⟩, f⟩ := h
    exact ⟨z, h1, hF, e, f.r7⟩)
theorem ks7_213 {d : Nat} (hd : 460 ≤ d) {w : eW} (q : kRel w) (hAl : kAl w) {a : Int} (g_a : (-2147483648 ≤ a ∧ a ≤ 2147483647)) {b : Int} (g_b : (-2147483648 ≤ b ∧ b ≤ 2147483647)) : e_Ok 20 elay kcode eI d 213 (0, [(0, (1, 0)), (1, (0, a)), (2, (0, b))], [], w) (fun r w' => ∃ z : Int, r = [(0, z)] ∧ kRelF w' ∧ (km3 w w') ∧ rks7 w w') :=
  (e_Ok.both (k_213 hd q hAl g_a g_b) (kq_213 hd q hAl g_a g_b)).imp (fun r w' h => by
    obtain ⟨⟨z, h1, hF, e⟩, f⟩ := h
    exact ⟨z, h1, hF, e, f.r7⟩)
theorem ks7_214 {d : Nat} (hd : 460 ≤ d) {w : eW} (q : kRel w) (hAl : kAl w) {n : Int} (g_n : (-2147483648 ≤ n ∧ n ≤ 2147483647)) : e_Ok 20 elay kcode eI d 214 (0, [(0, (1, 0)), (1, (0, n))], [], w) (fun r w' => ∃ z : Int, r = [(0, z)] ∧ kRelF w' ∧ (km3 w w') ∧ rks7 w w') :=
  (e_Ok.both (k_214 hd q hAl g_n) (kq_214 hd q hAl g_n)).imp (fun r w' h => by
    obtain ⟨⟨z, h1, hF, e⟩, f⟩ := h
    exact ⟨z, h1, hF, e, f.r7⟩)
theorem ks7_215 {d : Nat} (hd : 460 ≤ d) {w : eW} (q : kRel w) (hAl : kAl w) {a : Int} (g_a : (-2147483648 ≤ a ∧ a ≤ 2147483647)) {b : Int} (g_b : (-2147483648 ≤ b ∧ b ≤ 2147483647)) : e_Ok 20 elay kcode eI d 215 (0, [(0, (1, 0)), (1, (0, a)), (2, (0, b))], [], w) (fun r w' => ∃ z : Int, r = [(0, z)] ∧ kRelF w' ∧ (km3 w w') ∧ rks7 w w') :=
  (e_Ok.both (k_215 hd q hAl g_a g_b) (kq_215 hd q hAl g_a g_b)).imp (fun r w' h => by
    obtain ⟨⟨z, h1, hF, e⟩, f⟩ := h
    exact ⟨z, h1, hF, e, f.r7⟩)
theorem ks7_216 {d : Nat} (hd : 460 ≤ d) {w : eW} (q : kRel w) (hAl : kAl w) {a : Int} (g_a : (-2147483648 ≤ a ∧ a ≤ 2147483647)) {b : Int} (g_b : (-2147483648 ≤ b ∧ b ≤ 2147483647)) {c : Int} (g_c : (0 ≤ c ∧ c ≤ 1)) : e_Ok 20 elay kcode eI d 216 (0, [(0, (1, 0)), (1, (0, a)), (2, (0, b)), (3, (0, c))], [], w) (fun r w' => ∃ z : Int, r = [(0, z)] ∧ kRelF w' ∧ (km3 w w') ∧ rks7 w w') :=
  (e_Ok.both (k_216 hd q hAl g_a g_b g_c) (kq_216 hd q hAl g_a g_b g_c)).imp (fun r w' h => by
    obtain ⟨⟨z, h1, hF, e⟩, f⟩ := h
    exact ⟨z, h1, hF, e, f.r7⟩)
theorem ks7_217 {d : Nat} (hd : 460 ≤ d) {w : eW} (q : kRel w) (hAl : kAl w) {a : Int} (g_a : (-2147483648 ≤ a ∧ a ≤ 2147483647)) {b : Int} (g_b : (0 ≤ b ∧ b ≤ 1)) {c : Int} (g_c : (0 ≤ c ∧ c ≤ 1)) : e_Ok 20 elay kcode eI d 217 (0, [(0, (1, 0)), (1, (0, a)), (2, (0, b)), (3, (0, c))], [], w) (fun r w' => ∃ z : Int, r = [(0, z)] ∧ kRelF w' ∧ (km3 w w') ∧ rks7 w w') :=
  (e_Ok.both (k_217 hd q hAl g_a g_b g_c) (kq_217 hd q hAl g_a g_b g_c)).imp (fun r w' h => by
    obtain ⟨⟨z, h1, hF, e⟩, f⟩ := h
    exact ⟨z, h1, hF, e, f.r7⟩)
theorem ks7_218 {d : Nat} (hd : 460 ≤ d) {w : eW} (q : kRel w) (hAl : kAl w) {a : Int} (g_a : (-2147483648 ≤ a ∧ a ≤ 2147483647)) : e_Ok 20 elay kcode eI d 218 (0, [(0, (1, 0)), (1, (0, a))], [], w) (fun r w' => ∃ z : Int, r = [(0, z)] ∧ kRelF w' ∧ (km3 w w') ∧ rks7 w w') :=
  (e_Ok.both (k_218 hd q hAl g_a) (kq_218 hd q hAl g_a)).imp (fun r w' h => by
    obtain ⟨⟨z, h1, hF, e⟩, f⟩ := h
    exact ⟨z, h1, hF, e, f.r7⟩)
theorem ks7_219 {d : Nat} (hd : 460 ≤ d) {w : eW} (q : kRel w) (hAl : kAl w) {a : Int} (g_a : (-2147483648 ≤ a ∧ a ≤ 2147483647)) : e_Ok 20 elay kcode eI d 219 (0, [(0, (1, 0)), (1, (0, a))], [], w) (fun r w' => ∃ z : Int, r = [(0, z)] ∧ kRelF w' ∧ (km3 w w') ∧ rks7 w w') :=
  (e_Ok.both (k_219 hd q hAl g_a) (kq_219 hd q hAl g_a)).imp (fun r w' h => by
    obtain ⟨⟨z, h1, hF, e⟩, f⟩ := h
    exact ⟨z, h1, hF, e, f.r7⟩)
theorem ks7_220 {d : Nat} (hd : 460 ≤ d) {w : eW} (q : kRel w) (hAl : kAl w) {a : Int} (g_a : (-2147483648 ≤ a ∧ a ≤ 2147483647)) : e_Ok 20 elay kcode eI d 220 (0, [(0, (1, 0)), (1, (0, a))], [], w) (fun r w' => ∃ z : Int, r = [(0, z)] ∧ kRelF w' ∧ (km3 w w') ∧ rks7 w w') :=
  (e_Ok.both (k_220 hd q hAl g_a) (kq_220 hd q hAl g_a)).imp (fun r w' h => by
    obtain ⟨⟨z, h1, hF, e⟩, f⟩ := h
    exact ⟨z, h1, hF, e, f.r7⟩)
theorem ks7_221 {d : Nat} (hd : 460 ≤ d) {w : eW} (q : kRel w) (hAl : kAl w) {a : Int} (g_a : (-2147483648 ≤ a ∧ a ≤ 2147483647)) {b : Int} (g_b : (-2147483648 ≤ b ∧ b ≤ 2147483647)) {c : Int} (g_c : (-2147483648 ≤ c ∧ c ≤ 2147483647)) : e_Ok 20 elay kcode eI d 221 (0, [(0, (1, 0)), (1, (0, a)), (2, (0, b)), (3, (0, c))], [], w) (fun r w' => ∃ z : Int, r = [(0, z)] ∧ kRelF w' ∧ (km3 w w') ∧ rks7 w w') :=
  (e_Ok.both (k_221 hd q hAl g_a g_b g_c) (kq_221 hd q hAl g_a g_b g_c)).imp (fun r w' h => by
    obtain ⟨⟨z, h1, hF, e⟩, f⟩ := h
    exact ⟨z, h1, hF, e, f.r7⟩)
theorem ks7_222 {d : Nat} (hd : 460 ≤ d) {w : eW} (q : kRel w) (hAl : kAl w) {a : Int} (g_a : (-2147483648 ≤ a ∧ a ≤ 2147483647)) {b : Int} (g_b : (-2147483648 ≤ b ∧ b ≤ 2147483647)) : e_Ok 20 elay kcode eI d 222 (0, [(0, (1, 0)), (1, (0, a)), (2, (0, b))], [], w) (fun r w' => ∃ z : Int, r = [(0, z)] ∧ kRelF w' ∧ (km3 w w') ∧ rks7 w w') :=
  (e_Ok.both (k_222 hd q hAl g_a g_b) (kq_222 hd q hAl g_a g_b)).imp (fun r w' h => by
    obtain ⟨⟨z, h1, hF, e⟩, f⟩ := h
    exact ⟨z, h1, hF, e, f.r7⟩)
theorem ks7_223 {d : Nat} (hd : 460 ≤ d) {w : eW} (q : kRel w) (hAl : kAl w) {a : Int} (g_a : (-2147483648 ≤ a ∧ a ≤ 2147483647)) {n : Int} (g_n : (-2147483648 ≤ n ∧ n ≤ 2147483647)) {e : Int} (g_e : (-2147483648 ≤ e ∧ e ≤ 2147483647)) : e_Ok 20 elay kcode eI d 223 (0, [(0, (1, 0)), (1, (0, a)), (2, (0, n)), (3, (0, e))], [], w) (fun r w' => ∃ z : Int, r = [(0, z)] ∧ kRelF w' ∧ (km3 w w') ∧ rks7 w w') :=
  (e_Ok.both (k_223 hd q hAl g_a g_n g_e) (kq_223 hd q hAl g_a g_n g_e)).imp (fun r w' h => by
    obtain ⟨⟨z, h1, hF, e⟩, f⟩ := h
    exact ⟨z, h1, hF, e, f.r7⟩)
theorem ks7_224 {d : Nat} (hd : 460 ≤ d) {w : eW} (q : kRel w) (hAl : kAl w) {a : Int} (g_a : (-2147483648 ≤ a ∧ a ≤ 2147483647)) : e_Ok 20 elay kcode eI d 224 (0, [(0, (1, 0)), (1, (0, a))], [], w) (fun r w' => ∃ z : Int, r = [(0, z)] ∧ kRelF w' ∧ (km3 w w') ∧ rks7 w w') :=
  (e_Ok.both (k_224 hd q hAl g_a) (kq_224 hd q hAl g_a)).imp (fun r w' h => by
    obtain ⟨⟨z, h1, hF, e⟩, f⟩ := h
    exact ⟨z, h1, hF, e, f.r7⟩)
theorem ks7_225 {d : Nat} (hd : 460 ≤ d) {w : eW} (q : kRel w) (hAl : kAl w) {n : Int} (g_n : (-2147483648 ≤ n ∧ n ≤ 2147483647)) : e_Ok 20 elay kcode eI d 225 (0, [(0, (1, 0)), (1, (0, n))], [], w) (fun r w' => ∃ z : Int, r = [(0, z)] ∧ kRelF w' ∧ (km3 w w') ∧ rks7 w w') :=
  (e_Ok.both (k_225 hd q hAl g_n) (kq_225 hd q hAl g_n)).imp (fun r w' h => by
    obtain ⟨⟨z, h1, hF, e⟩, f⟩ := h
    exact ⟨z, h1, hF, e, f.r7⟩)
theorem ks7_226 {d : Nat} (hd : 460 ≤ d) {w : eW} (q : kRel w) (hAl : kAl w) : e_Ok 20 elay kcode eI d 226 (0, [(0, (1, 0))], [], w) (fun r w' => ∃ z : Int, r = [(0, z)] ∧ kRelF w' ∧ (km3 w w') ∧ rks7 w w') :=
  (e_Ok.both (k_226 hd q hAl ) (kq_226 hd q hAl )).imp (fun r w' h => by
    obtain ⟨⟨z, h1, hF, e⟩, f⟩ := h
    exact ⟨z, h1, hF, e, f.r7⟩)
theorem ks7_227 {d : Nat} (hd : 460 ≤ d) {w : eW} (q : kRel w) (hAl : kAl w) {a : Int} (g_a : (-2147483648 ≤ a ∧ a ≤ 2147483647)) {b : Int} (g_b : (-2147483648 ≤ b ∧ b ≤ 2147483647)) : e_Ok 20 elay kcode eI d 227 (0, [(0, (1, 0)), (1, (0, a)), (2, (0, b))], [], w) (fun r w' => ∃ z : Int, r = [(0, z)] ∧ kRelF w' ∧ (km3 w w') ∧ rks7 w w') :=
  (e_Ok.both (k_227 hd q hAl g_a g_b) (kq_227 hd q hAl g_a g_b)).imp (fun r w' h => by
    obtain ⟨⟨z, h1, hF, e⟩, f⟩ := h
    exact ⟨z, h1, hF, e, f.r7⟩)
theorem ks7_228 {d : Nat} (hd : 460 ≤ d) {w : eW} (q : kRel w) (hAl : kAl w) {a : Int} (g_a : (-2147483648 ≤ a ∧ a ≤ 2147483647)) {b : Int} (g_b : (-2147483648 ≤ b ∧ b ≤ 2147483647)) : e_Ok 20 elay kcode eI d 228 (0, [(0, (1, 0)), (1, (0, a)), (2, (0, b))], [], w) (fun r w' => ∃ z : Int, r = [(0, z)] ∧ kRelF w' ∧ (km3 w w') ∧ rks7 w w') :=
  (e_Ok.both (k_228 hd q hAl g_a g_b) (kq_228 hd q hAl g_a g_b)).imp (fun r w' h => by
    obtain ⟨⟨z, h1, hF, e⟩, f⟩ := h
    exact ⟨z, h1, hF, e, f.r7⟩)
theorem ks7_229 {d : Nat} (hd : 460 ≤ d) {w : eW} (q : kRel w) (hAl : kAl w) {a : Int} (g_a : (-2147483648 ≤ a ∧ a ≤ 2147483647)) {b : Int} (g_b : (-2147483648 ≤ b ∧ b ≤ 2147483647)) {c : Int} (g_c : (-2147483648 ≤ c ∧ c ≤ 2147483647)) : e_Ok 20 elay kcode eI d 229 (0, [(0, (1, 0)), (1, (0, a)), (2, (0, b)), (3, (0, c))], [], w) (fun r w' => ∃ z : Int, r = [(0, z)] ∧ kRelF w' ∧ (km3 w w') ∧ rks7 w w') :=
  (e_Ok.both (k_229 hd q hAl g_a g_b g_c) (kq_229 hd q hAl g_a g_b g_c)).imp (fun r w' h => by
    obtain ⟨⟨z, h1, hF, e⟩, f⟩ := h
    exact ⟨z, h1, hF, e, f.r7⟩)
theorem ks7_230 {d : Nat} (hd : 460 ≤ d) {w : eW} (q : kRel w) (hAl : kAl w) {a : Int} (g_a : (-2147483648 ≤ a ∧ a ≤ 2147483647)) {b : Int} (g_b : (-2147483648 ≤ b ∧ b ≤ 2147483647)) : e_Ok 20 elay kcode eI d 230 (0, [(0, (1, 0)), (1, (0, a)), (2, (0, b))], [], w) (fun r w' => ∃ z : Int, r = [(0, z)] ∧ kRelF w' ∧ (km3 w w') ∧ rks7 w w') :=
  (e_Ok.both (k_230 hd q hAl g_a g_b) (kq_230 hd q hAl g_a g_b)).imp (fun r w' h => by
    obtain ⟨⟨z, h1, hF, e⟩, f⟩ := h
    exact ⟨z, h1, hF, e, f.r7⟩)
theorem ks7_231 {d : Nat} (hd : 460 ≤ d) {w : eW} (q : kRel w) (hAl : kAl w) {a : Int} (g_a : (-2147483648 ≤ a ∧ a ≤ 2147483647)) {b : Int} (g_b : (-2147483648 ≤ b ∧ b ≤ 2147483647)) : e_Ok 20 elay kcode eI d 231 (0, [(0, (1, 0)), (1, (0, a)), (2, (0, b))], [], w) (fun r w' => ∃ z : Int, r = [(0, z)] ∧ kRelF w' ∧ (km3 w w') ∧ rks7 w w') :=
  (e_Ok.both (k_231 hd q hAl g_a g_b) (kq_231 hd q hAl g_a g_b)).imp (fun r w' h => by
    obtain ⟨⟨z, h1, hF, e⟩, f⟩ := h
    exact ⟨z, h1, hF, e, f.r7⟩)
theorem ks7_232 {d : Nat} (hd : 460 ≤ d) {w : eW} (q : kRel w) (hAl : kAl w) {a : Int} (g_a : (-2147483648 ≤ a ∧ a ≤ 2147483647)) {b : Int} (g_b : (-2147483648 ≤ b ∧ b ≤ 2147483647)) : e_Ok 20 elay kcode eI d 232 (0, [(0, (1, 0)), (1, (0, a)), (2, (0, b))], [], w) (fun r w' => ∃ z : Int, r = [(0, z)] ∧ kRelF w' ∧ (km3 w w') ∧ rks7 w w') :=
  (e_Ok.both (k_232 hd q hAl g_a g_b) (kq_232 hd q hAl g_a g_b)).imp (fun r w' h => by
    obtain ⟨⟨z, h1, hF, e⟩, f⟩ := h
    exact ⟨z, h1, hF, e, f.r7⟩)
theorem ks7_233 {d : Nat} (hd : 460 ≤ d) {w : eW} (q : kRel w) (hAl : kAl w) {a : Int} (g_a : (-2147483648 ≤ a ∧ a ≤ 2147483647)) {b : Int} (g_b : (-2147483648 ≤ b ∧ b ≤ 2147483647)) : e_Ok 20 elay kcode eI d 233 (0, [(0, (1, 0)), (1, (0, a)), (2, (0, b))], [], w) (fun r w' => ∃ z : Int, r = [(0, z)] ∧ kRelF w' ∧ (km3 w w') ∧ rks7 w w') :=
  (e_Ok.both (k_233 hd q hAl g_a g_b) (kq_233 hd q hAl g_a g_b)).imp (fun r w' h => by
    obtain ⟨⟨z, h1, hF, e⟩, f⟩ := h
    exact ⟨z, h1, hF, e, f.r7⟩)
theorem ks7_234 {d : Nat} (hd : 460 ≤ d) {w : eW} (q : kRel w) (hAl : kAl w) {a : Int} (g_a : (-2147483648 ≤ a ∧ a ≤ 2147483647)) : e_Ok 20 elay kcode eI d 234 (0, [(0, (1, 0)), (1, (0, a))], [], w) (fun r w' => ∃ z : Int, r = [(0, z)] ∧ kRelF w' ∧ (km3 w w') ∧ rks7 w w') :=
  (e_Ok.both (k_234 hd q hAl g_a) (kq_234 hd q hAl g_a)).imp (fun r w' h => by
    obtain ⟨⟨z, h1, hF, e⟩, f⟩ := h
    exact ⟨z, h1, hF, e, f.r7⟩)
theorem ks7_235 {d : Nat} (hd : 460 ≤ d) {w : eW} (q : kRel w) (hAl : kAl w) {a : Int} (g_a : (-2147483648 ≤ a ∧ a ≤ 2147483647)) {b : Int} (g_b : (-2147483648 ≤ b ∧ b ≤ 2147483647)) : e_Ok 20 elay kcode eI d 235 (0, [(0, (1, 0)), (1, (0, a)), (2, (0, b))], [], w) (fun r w' => ∃ z : Int, r = [(0, z)] ∧ kRelF w' ∧ (km3 w w') ∧ rks7 w w') :=
  (e_Ok.both (k_235 hd q hAl g_a g_b) (kq_235 hd q hAl g_a g_b)).imp (fun r w' h => by
    obtain ⟨⟨z, h1, hF, e⟩, f⟩ := h
    exact ⟨z, h1, hF, e, f.r7⟩)
theorem ks7_236 {d : Nat} (hd : 460 ≤ d) {w : eW} (q : kRel w) (hAl : kAl w) {a : Int} (g_a : (-2147483648 ≤ a ∧ a ≤ 2147483647)) : e_Ok 20 elay kcode eI d 236 (0, [(0, (1, 0)), (1, (0, a))], [], w) (fun r w' => ∃ z : Int, r = [(0, z)] ∧ kRelF w' ∧ (km3 w w') ∧ rks7 w w') :=
  (e_Ok.both (k_236 hd q hAl g_a) (kq_236 hd q hAl g_a)).imp (fun r w' h => by
    obtain ⟨⟨z, h1, hF, e⟩, f⟩ := h
    exact ⟨z, h1, hF, e, f.r7⟩)
theorem ks7_237 {d : Nat} (hd : 460 ≤ d) {w : eW} (q : kRel w) (hAl : kAl w) : e_Ok 20 elay kcode eI d 237 (0, [(0, (1, 0))], [], w) (fun r w' => ∃ z : Int, r = [(0, z)] ∧ kRelF w' ∧ (km3 w w') ∧ rks7 w w') :=
  (e_Ok.both (k_237 hd q hAl ) (kq_237 hd q hAl )).imp (fun r w' h => by
    obtain ⟨⟨z, h1, hF, e⟩, f⟩ := h
    exact ⟨z, h1, hF, e, f.r7⟩)
theorem ks7_238 {d : Nat} (hd : 460 ≤ d) {w : eW} (q : kRel w) (hAl : kAl w) {a : Int} (g_a : (-2147483648 ≤ a ∧ a ≤ 2147483647)) {b : Int} (g_b : (-2147483648 ≤ b ∧ b ≤ 2147483647)) : e_Ok 20 elay kcode eI d 238 (0, [(0, (1, 0)), (1, (0, a)), (2, (0, b))], [], w) (fun r w' => ∃ z : Int, r = [(0, z)] ∧ kRelF w' ∧ (km3 w w') ∧ rks7 w w') :=
  (e_Ok.both (k_238 hd q hAl g_a g_b) (kq_238 hd q hAl g_a g_b)).imp (fun r w' h => by
    obtain ⟨⟨z, h1, hF, e⟩, f⟩ := h
    exact ⟨z, h1, hF, e, f.r7⟩)
theorem ks7_239 {d : Nat} (hd : 460 ≤ d) {w : eW} (q : kRel w) (hAl : kAl w) {a : Int} (g_a : (-2147483648 ≤ a ∧ a ≤ 2147483647)) {b : Int} (g_b : (-2147483648 ≤ b ∧ b ≤ 2147483647)) : e_Ok 20 elay kcode eI d 239 (0, [(0, (1, 0)), (1, (0, a)), (2, (0, b))], [], w) (fun r w' => ∃ z : Int, r = [(0, z)] ∧ kRelF w' ∧ (km3 w w') ∧ rks7 w w') :=
  (e_Ok.both (k_239 hd q hAl g_a g_b) (kq_239 hd q hAl g_a g_b)).imp (fun r w' h => by
    obtain ⟨⟨z, h1, hF, e⟩, f⟩ := h
    exact ⟨z, h1, hF, e, f.r7⟩)
theorem ks7_240 {d : Nat} (hd : 460 ≤ d) {w : eW} (q : kRel w) (hAl : kAl w) {a : Int} (g_a : (-2147483648 ≤ a ∧ a ≤ 2147483647)) : e_Ok 20 elay kcode eI d 240 (0, [(0, (1, 0)), (1, (0, a))], [], w) (fun r w' => ∃ z : Int, r = [(0, z)] ∧ kRelF w' ∧ (km3 w w') ∧ rks7 w w') :=
  (e_Ok.both (k_240 hd q hAl g_a) (kq_240 hd q hAl g_a)).imp (fun r w' h => by
    obtain ⟨⟨z, h1, hF, e⟩, f⟩ := h
    exact ⟨z, h1, hF, e, f.r7⟩)
theorem ks7_241 {d : Nat} (hd : 460 ≤ d) {w : eW} (q : kRel w) (hAl : kAl w) {a : Int} (g_a : (-2147483648 ≤ a ∧ a ≤ 2147483647)) : e_Ok 20 elay kcode eI d 241 (0, [(0, (1, 0)), (1, (0, a))], [], w) (fun r w' => ∃ z : Int, r = [(0, z)] ∧ kRelF w' ∧ (km3 w w') ∧ rks7 w w') :=
  (e_Ok.both (k_241 hd q hAl g_a) (kq_241 hd q hAl g_a)).imp (fun r w' h => by
    obtain ⟨⟨z, h1, hF, e⟩, f⟩ := h
    exact ⟨z, h1, hF, e, f.r7⟩)
theorem ms7_274 {d : Nat} (hd : 21 ≤ d) {w : eW} (h : mRel w) {a b c e f : Int} : e_Ok 20 elay ecode eI d 274 (0, [(0, (1, 275)), (1, (0, a)), (2, (0, b)), (3, (0, c)), (4, (0, e)), (5, (0, f))], [], w) (fun r w' => ∃ z : Int, r = [(0, z)] ∧ mRel w' ∧ (w' 275 3 = w 275 3 ∧ w' 275 10 = w 275 10 ∧ ((w 275 9 ≤ 3980 ∧ z = w 275 9 + 20 ∧ w' 275 9 = w 275 9 + 20) ∨ (3980 < w 275 9 ∧ z = -3 ∧ w' 275 9 = w 275 9))) ∧ rms7 w w') :=
  (e_Ok.both (m_274 hd h ) (mz_274 hd h )).imp (fun r w' q => by
    obtain ⟨⟨z, h1, hF, e⟩, f⟩ := q
    exact ⟨z, h1, hF, e, f.r7⟩)
theorem ms7_276 {d : Nat} (hd : 21 ≤ d) {w : eW} (h : mRel w) {a : Int} : e_Ok 20 elay ecode eI d 276 (0, [(0, (1, 275)), (1, (0, a))], [], w) (fun r w' => ∃ z : Int, r = [(0, z)] ∧ mRel w' ∧ (w' 275 3 = w 275 3 ∧ w' 275 10 = w 275 10 ∧ ((0 ≤ a ∧ a ≤ w 275 9 ∧ z = w 275 9 - a ∧ w' 275 9 = w 275 9 - a) ∨ ((a < 0 ∨ w 275 9 < a) ∧ z = -1 ∧ w' 275 9 = w 275 9))) ∧ rms7 w w') :=
  (e_Ok.both (m_276 hd h ) (mz_276 hd h )).imp (fun r w' q => by
    obtain ⟨⟨z, h1, hF, e⟩, f⟩ := q
    exact ⟨z, h1, hF, e, f.r7⟩)
theorem ms7_279 {d : Nat} (hd : 23 ≤ d) {w : eW} (h : mRel w) {p1 p2 p3 p4 p5 : Int} (g1 : -2147483648 ≤ p1 ∧ p1 ≤ 2147483647) (g2 : -2147483648 ≤ p2 ∧ p2 ≤ 2147483647) (g3 : -2147483648 ≤ p3 ∧ p3 ≤ 2147483647) (g4 : -2147483648 ≤ p4 ∧ p4 ≤ 2147483647) (g5 : -2147483648 ≤ p5 ∧ p5 ≤ 2147483647) : e_Ok 20 elay ecode eI d 279 (0, [(0, (1, 275)), (1, (0, p1)), (2, (0, p2)), (3, (0, p3)), (4, (0, p4)), (5, (0, p5))], [], w) (fun r w' => ∃ z : Int, r = [(0, z)] ∧ mRel w' ∧ (sm3 w w') ∧ rms7 w w') :=
  (e_Ok.both (m_279 hd h g1 g2 g3 g4 g5) (mz_279 hd h g1 g2 g3 g4 g5)).imp (fun r w' q => by
    obtain ⟨⟨z, h1, hF, e⟩, f⟩ := q
    exact ⟨z, h1, hF, e, fun c k y => f c k (fun g => by unfold rM7 at y; unfold mJo at g; omega)⟩)
theorem ms7_280 {d : Nat} (hd : 24 ≤ d) {w : eW} (h : mRel w) {p1 p2 p3 : Int} (g1 : -2147483648 ≤ p1 ∧ p1 ≤ 2147483647) (g2 : -2147483648 ≤ p2 ∧ p2 ≤ 2147483647) (g3 : -2147483648 ≤ p3 ∧ p3 ≤ 2147483647) : e_Ok 20 elay ecode eI d 280 (0, [(0, (1, 275)), (1, (0, p1)), (2, (0, p2)), (3, (0, p3))], [], w) (fun r w' => ∃ z : Int, r = [(0, z)] ∧ mRel w' ∧ (sm3 w w') ∧ rms7 w w') :=
  (e_Ok.both (m_280 hd h g1 g2 g3) (mz_280 hd h g1 g2 g3)).imp (fun r w' q => by
    obtain ⟨⟨z, h1, hF, e⟩, f⟩ := q
    exact ⟨z, h1, hF, e, fun c k y => f c k (fun g => by unfold rM7 at y; unfold mF at g; omega)⟩)
theorem ms7_281 {d : Nat} (hd : 24 ≤ d) {w : eW} (h : mRel w) {p1 p2 p3 p4 : Int} (g1 : -2147483648 ≤ p1 ∧ p1 ≤ 2147483647) (g2 : -2147483648 ≤ p2 ∧ p2 ≤ 2147483647) (g3 : -2147483648 ≤ p3 ∧ p3 ≤ 2147483647) (g4 : -2147483648 ≤ p4 ∧ p4 ≤ 2147483647) : e_Ok 20 elay ecode eI d 281 (0, [(0, (1, 275)), (1, (0, p1)), (2, (0, p2)), (3, (0, p3)), (4, (0, p4))], [], w) (fun r w' => ∃ z : Int, r = [(0, z)] ∧ mRel w' ∧ (sm3 w w') ∧ rms7 w w') :=
  (e_Ok.both (m_281 hd h g1 g2 g3 g4) (mz_281 hd h g1 g2 g3 g4)).imp (fun r w' q => by
    obtain ⟨⟨z, h1, hF, e⟩, f⟩ := q
    exact ⟨z, h1, hF, e, fun c k y => f c k (fun g => by unfold rM7 at y; unfold mF at g; omega)⟩)
theorem ms7_286 {d : Nat} (hd : 24 ≤ d) {w : eW} (h : mRel w) {p1 p2 p3 p4 p5 : Int} (g1 : -2147483648 ≤ p1 ∧ p1 ≤ 2147483647) (g2 : -2147483648 ≤ p2 ∧ p2 ≤ 2147483647) (g3 : -2147483648 ≤ p3 ∧ p3 ≤ 2147483647) (g4 : -2147483648 ≤ p4 ∧ p4 ≤ 2147483647) (g5 : -2147483648 ≤ p5 ∧ p5 ≤ 2147483647) : e_Ok 20 elay ecode eI d 286 (0, [(0, (1, 275)), (1, (0, p1)), (2, (0, p2)), (3, (0, p3)), (4, (0, p4)), (5, (0, p5))], [], w) (fun r w' => ∃ z : Int, r = [(0, z)] ∧ mRel w' ∧ (sm3 w w') ∧ rms7 w w') :=
  (e_Ok.both (m_286 hd h g1 g2 g3 g4 g5) (mz_286 hd h g1 g2 g3 g4 g5)).imp (fun r w' q => by
    obtain ⟨⟨z, h1, hF, e⟩, f⟩ := q
    exact ⟨z, h1, hF, e, fun c k y => f c k (fun g => by unfold rM7 at y; unfold mF at g; omega)⟩)
theorem ms7_287 {d : Nat} (hd : 24 ≤ d) {w : eW} (h : mRel w) {p1 p2 : Int} (g1 : -2147483648 ≤ p1 ∧ p1 ≤ 2147483647) (g2 : -2147483648 ≤ p2 ∧ p2 ≤ 2147483647) : e_Ok 20 elay ecode eI d 287 (0, [(0, (1, 275)), (1, (0, p1)), (2, (0, p2))], [], w) (fun r w' => ∃ z : Int, r = [(0, z)] ∧ mRel w' ∧ (sm3 w w') ∧ rms7 w w') :=
  (e_Ok.both (m_287 hd h g1 g2) (mz_287 hd h g1 g2)).imp (fun r w' q => by
    obtain ⟨⟨z, h1, hF, e⟩, f⟩ := q
    exact ⟨z, h1, hF, e, fun c k y => f c k (fun g => by unfold rM7 at y; unfold mF at g; omega)⟩)
theorem ms7_288 {d : Nat} (hd : 24 ≤ d) {w : eW} (h : mRel w) {p1 p2 p3 p4 : Int} (g1 : -2147483648 ≤ p1 ∧ p1 ≤ 2147483647) (g2 : -2147483648 ≤ p2 ∧ p2 ≤ 2147483647) (g3 : -2147483648 ≤ p3 ∧ p3 ≤ 2147483647) (g4 : -2147483648 ≤ p4 ∧ p4 ≤ 2147483647) : e_Ok 20 elay ecode eI d 288 (0, [(0, (1, 275)), (1, (0, p1)), (2, (0, p2)), (3, (0, p3)), (4, (0, p4))], [], w) (fun r w' => ∃ z : Int, r = [(0, z)] ∧ mRel w' ∧ (sm3 w w') ∧ rms7 w w') :=
  (e_Ok.both (m_288 hd h g1 g2 g3 g4) (mz_288 hd h g1 g2 g3 g4)).imp (fun r w' q => by
    obtain ⟨⟨z, h1, hF, e⟩, f⟩ := q
    exact ⟨z, h1, hF, e, fun c k y => f c k (fun g => by unfold rM7 at y; unfold mF at g; omega)⟩)
theorem ms7_289 {d : Nat} (hd : 24 ≤ d) {w : eW} (h : mRel w) {p1 p2 p3 : Int} (g1 : -2147483648 ≤ p1 ∧ p1 ≤ 2147483647) (g2 : -2147483648 ≤ p2 ∧ p2 ≤ 2147483647) (g3 : -2147483648 ≤ p3 ∧ p3 ≤ 2147483647) : e_Ok 20 elay ecode eI d 289 (0, [(0, (1, 275)), (1, (0, p1)), (2, (0, p2)), (3, (0, p3))], [], w) (fun r w' => ∃ z : Int, r = [(0, z)] ∧ mRel w' ∧ (sm3 w w') ∧ rms7 w w') :=
  (e_Ok.both (m_289 hd h g1 g2 g3) (mz_289 hd h g1 g2 g3)).imp (fun r w' q => by
    obtain ⟨⟨z, h1, hF, e⟩, f⟩ := q
    exact ⟨z, h1, hF, e, fun c k y => f c k (fun g => by unfold rM7 at y; unfold mPr at g; omega)⟩)
theorem ms7_290 {d : Nat} (hd : 24 ≤ d) {w : eW} (h : mRel w) {p1 p2 p3 : Int} (g1 : -2147483648 ≤ p1 ∧ p1 ≤ 2147483647) (g2 : -2147483648 ≤ p2 ∧ p2 ≤ 2147483647) (g3 : -2147483648 ≤ p3 ∧ p3 ≤ 2147483647) : e_Ok 20 elay ecode eI d 290 (0, [(0, (1, 275)), (1, (0, p1)), (2, (0, p2)), (3, (0, p3))], [], w) (fun r w' => ∃ z : Int, r = [(0, z)] ∧ mRel w' ∧ (sm3 w w') ∧ rms7 w w') :=
  (e_Ok.both (m_290 hd h g1 g2 g3) (mz_290 hd h g1 g2 g3)).imp (fun r w' q => by
    obtain ⟨⟨z, h1, hF, e⟩, f⟩ := q
    exact ⟨z, h1, hF, e, fun c k y => f c k (fun g => by unfold rM7 at y; unfold mPr at g; omega)⟩)
theorem ms7_291 {d : Nat} (hd : 24 ≤ d) {w : eW} (h : mRel w) {p1 p2 p3 p4 p5 : Int} (g1 : -2147483648 ≤ p1 ∧ p1 ≤ 2147483647) (g2 : -2147483648 ≤ p2 ∧ p2 ≤ 2147483647) (g3 : -2147483648 ≤ p3 ∧ p3 ≤ 2147483647) (g4 : -2147483648 ≤ p4 ∧ p4 ≤ 2147483647) (g5 : -2147483648 ≤ p5 ∧ p5 ≤ 2147483647) : e_Ok 20 elay ecode eI d 291 (0, [(0, (1, 275)), (1, (0, p1)), (2, (0, p2)), (3, (0, p3)), (4, (0, p4)), (5, (0, p5))], [], w) (fun r w' => ∃ z : Int, r = [(0, z)] ∧ mRel w' ∧ (sm3 w w') ∧ rms7 w w') :=
  (e_Ok.both (m_291 hd h g1 g2 g3 g4 g5) (mz_291 hd h g1 g2 g3 g4 g5)).imp (fun r w' q => by
    obtain ⟨⟨z, h1, hF, e⟩, f⟩ := q
    exact ⟨z, h1, hF, e, fun c k y => f c k (fun g => by unfold rM7 at y; unfold mF at g; omega)⟩)
theorem ms7_292 {d : Nat} (hd : 24 ≤ d) {w : eW} (h : mRel w) {p1 p2 : Int} (g1 : -2147483648 ≤ p1 ∧ p1 ≤ 2147483647) (g2 : -2147483648 ≤ p2 ∧ p2 ≤ 2147483647) : e_Ok 20 elay ecode eI d 292 (0, [(0, (1, 275)), (1, (0, p1)), (2, (0, p2))], [], w) (fun r w' => ∃ z : Int, r = [(0, z)] ∧ mRel w' ∧ (sm3 w w') ∧ rms7 w w') :=
  (e_Ok.both (m_292 hd h g1 g2) (mz_292 hd h g1 g2)).imp (fun r w' q => by
    obtain ⟨⟨z, h1, hF, e⟩, f⟩ := q
    exact ⟨z, h1, hF, e, fun c k y => f c k (fun g => by unfold rM7 at y; unfold mF at g; omega)⟩)
theorem ms7_293 {d : Nat} (hd : 24 ≤ d) {w : eW} (h : mRel w) {p1 : Int} (g1 : -2147483648 ≤ p1 ∧ p1 ≤ 2147483647) : e_Ok 20 elay ecode eI d 293 (0, [(0, (1, 275)), (1, (0, p1))], [], w) (fun r w' => ∃ z : Int, r = [(0, z)] ∧ mRel w' ∧ (sm3 w w') ∧ rms7 w w') :=
  (e_Ok.both (m_293 hd h g1) (mz_293 hd h g1)).imp (fun r w' q => by
    obtain ⟨⟨z, h1, hF, e⟩, f⟩ := q
    exact ⟨z, h1, hF, e, fun c k y => f c k (fun g => by unfold rM7 at y; unfold mF at g; omega)⟩)
theorem ms7_294 {d : Nat} (hd : 24 ≤ d) {w : eW} (h : mRel w) {p1 p2 : Int} (g1 : -2147483648 ≤ p1 ∧ p1 ≤ 2147483647) (g2 : 0 ≤ p2 ∧ p2 ≤ 1) : e_Ok 20 elay ecode eI d 294 (0, [(0, (1, 275)), (1, (0, p1)), (2, (0, p2))], [], w) (fun r w' => ∃ z : Int, r = [(0, z)] ∧ mRel w' ∧ (sm3 w w') ∧ rms7 w w') :=
  (e_Ok.both (m_294 hd h g1 g2) (mz_294 hd h g1 g2)).imp (fun r w' q => by
    obtain ⟨⟨z, h1, hF, e⟩, f⟩ := q
    exact ⟨z, h1, hF, e, fun c k y => f c k (fun g => by unfold rM7 at y; unfold mF at g; omega)⟩)
theorem ms7_295 {d : Nat} (hd : 22 ≤ d) {w : eW} (h : mRel w) {p1 p2 p3 : Int} (g1 : -2147483648 ≤ p1 ∧ p1 ≤ 2147483647) (g2 : -2147483648 ≤ p2 ∧ p2 ≤ 2147483647) (g3 : 0 ≤ p3 ∧ p3 ≤ 1) : e_Ok 20 elay ecode eI d 295 (0, [(0, (1, 275)), (1, (0, p1)), (2, (0, p2)), (3, (0, p3))], [], w) (fun r w' => ∃ z : Int, r = [(0, z)] ∧ mRel w' ∧ (sm3 w w') ∧ rms7 w w') :=
  (e_Ok.both (m_295 hd h g1 g2 g3) (mz_295 hd h g1 g2 g3)).imp (fun r w' q => by
    obtain ⟨⟨z, h1, hF, e⟩, f⟩ := q
    exact ⟨z, h1, hF, e, fun c k y => f c k (fun g => by unfold rM7 at y; unfold mF at g; omega)⟩)
theorem ms7_296 {d : Nat} (hd : 25 ≤ d) {w : eW} (h : mRel w) : e_Ok 20 elay ecode eI d 296 (0, [(0, (1, 275))], [], w) (fun r w' => ∃ z : Int, r = [(0, z)] ∧ mRel w' ∧ (w' 275 3 = 1 ∧ w' 275 9 = w 275 9 ∧ w' 275 10 = w 275 10) ∧ rms7 w w') :=
  (e_Ok.both (m_296 hd h ) (mz_296 hd h )).imp (fun r w' q => by
    obtain ⟨⟨z, h1, hF, e⟩, f⟩ := q
    exact ⟨z, h1, hF, e, f.r7⟩)
theorem ms7_318 {d : Nat} (hd : 27 ≤ d) {w : eW} (h : mRel w) {p1 p2 : Int} (g1 : -2147483648 ≤ p1 ∧ p1 ≤ 2147483647) (g2 : -2147483648 ≤ p2 ∧ p2 ≤ 2147483647) : e_Ok 20 elay ecode eI d 318 (0, [(0, (1, 275)), (1, (0, p1)), (2, (0, p2))], [], w) (fun r w' => ∃ z : Int, r = [(0, z)] ∧ mRel w' ∧ (sm3 w w') ∧ rms7 w w') :=
  (e_Ok.both (m_318 hd h g1 g2) (mz_318 hd h g1 g2)).imp (fun r w' q => by
    obtain ⟨⟨z, h1, hF, e⟩, f⟩ := q
    exact ⟨z, h1, hF, e, f.r7⟩)
theorem ms7_357 {d : Nat} (hd : 424 ≤ d) {w : eW} (h : mRel w) {p1 : Int} (g1 : -2147483648 ≤ p1 ∧ p1 ≤ 2147483647) : e_Ok 20 elay ecode eI d 357 (0, [(0, (1, 275)), (1, (0, p1))], [], w) (fun r w' => ∃ z : Int, r = [(0, z)] ∧ mRel w' ∧ (w' 275 3 = w 275 3 ∧ w' 275 10 = w 275 10 ∧ ((w = w' ∧ ¬ (w 275 3 = 0 ∧ 0 ≤ p1 ∧ p1 < w 275 10)) ∨ (w 275 3 = 0 ∧ (0 ≤ p1 ∧ p1 < w 275 10) ∧ w' 275 9 = 0))) ∧ rms7 w w') :=
  (e_Ok.both (m_357 hd h g1) (mz_357 hd h g1)).imp (fun r w' q => by
    obtain ⟨⟨z, h1, hF, e⟩, f⟩ := q
    exact ⟨z, h1, hF, e, f.r7⟩)
theorem ms7_358 {d : Nat} (hd : 23 ≤ d) {w : eW} (h : mRel w) {p1 : Int} (g1 : -2147483648 ≤ p1 ∧ p1 ≤ 2147483647) : e_Ok 20 elay ecode eI d 358 (0, [(0, (1, 275)), (1, (0, p1))], [], w) (fun r w' => ∃ z : Int, r = [(0, z)] ∧ mRel w' ∧ (sm3 w w') ∧ rms7 w w') :=
  (e_Ok.both (m_358 hd h g1) (mz_358 hd h g1)).imp (fun r w' q => by
    obtain ⟨⟨z, h1, hF, e⟩, f⟩ := q
    exact ⟨z, h1, hF, e, f.r7⟩)
theorem ms7_418 {d : Nat} (hd : 33 ≤ d) {w : eW} (h : mRel w) {p1 p2 p3 : Int} (g1 : -2147483648 ≤ p1 ∧ p1 ≤ 2147483647) (g2 : -2147483648 ≤ p2 ∧ p2 ≤ 2147483647) (g3 : -2147483648 ≤ p3 ∧ p3 ≤ 2147483647) : e_Ok 20 elay ecode eI d 418 (0, [(0, (1, 275)), (1, (0, p1)), (2, (0, p2)), (3, (0, p3))], [], w) (fun r w' => ∃ z : Int, r = [(0, z)] ∧ mRelF w' ∧ (sm3 w w') ∧ rms7 w w') :=
  (e_Ok.both (m_418 hd h g1 g2 g3) (mz_418 hd h g1 g2 g3)).imp (fun r w' q => by
    obtain ⟨⟨z, h1, hF, e⟩, f⟩ := q
    exact ⟨z, h1, hF, e, f.r7⟩)
theorem ms7_419 {d : Nat} (hd : 27 ≤ d) {w : eW} (h : mRel w) {p1 : Int} (g1 : -2147483648 ≤ p1 ∧ p1 ≤ 2147483647) : e_Ok 20 elay ecode eI d 419 (0, [(0, (1, 275)), (1, (0, p1))], [], w) (fun r w' => ∃ z : Int, r = [(0, z)] ∧ mRelF w' ∧ (sm3 w w') ∧ rms7 w w') :=
  (e_Ok.both (m_419 hd h g1) (mz_419 hd h g1)).imp (fun r w' q => by
    obtain ⟨⟨z, h1, hF, e⟩, f⟩ := q
    exact ⟨z, h1, hF, e, f.r7⟩)
theorem ms7_425 {d : Nat} (hd : 27 ≤ d) {w : eW} (h : mRel w) {p1 p2 : Int} (g1 : -2147483648 ≤ p1 ∧ p1 ≤ 2147483647) (g2 : -2147483648 ≤ p2 ∧ p2 ≤ 2147483647) : e_Ok 20 elay ecode eI d 425 (0, [(0, (1, 275)), (1, (0, p1)), (2, (0, p2))], [], w) (fun r w' => ∃ z : Int, r = [(0, z)] ∧ mRelF w' ∧ (sm3 w w') ∧ rms7 w w') :=
  (e_Ok.both (m_425 hd h g1 g2) (mz_425 hd h g1 g2)).imp (fun r w' q => by
    obtain ⟨⟨z, h1, hF, e⟩, f⟩ := q
    exact ⟨z, h1, hF, e, f.r7⟩)
theorem ms7_426 {d : Nat} (hd : 45 ≤ d) {w : eW} (h : mRel w) {p1 : Int} (g1 : -2147483648 ≤ p1 ∧ p1 ≤ 2147483647) : e_Ok 20 elay ecode eI d 426 (0, [(0, (1, 275)), (1, (0, p1))], [], w) (fun r w' => ∃ z : Int, r = [(0, z)] ∧ mRelF w' ∧ (sm3 w w') ∧ rms7 w w') :=
  (e_Ok.both (m_426 hd h g1) (mz_426 hd h g1)).imp (fun r w' q => by
    obtain ⟨⟨z, h1, hF, e⟩, f⟩ := q
    exact ⟨z, h1, hF, e, f.r7⟩)
theorem ms7_427 {d : Nat} (hd : 25 ≤ d) {w : eW} (h : mRel w) {p1 p2 : Int} (g1 : -2147483648 ≤ p1 ∧ p1 ≤ 2147483647) (g2 : -2147483648 ≤ p2 ∧ p2 ≤ 2147483647) : e_Ok 20 elay ecode eI d 427 (0, [(0, (1, 275)), (1, (0, p1)), (2, (0, p2))], [], w) (fun r w' => ∃ z : Int, r = [(0, z)] ∧ mRelF w' ∧ (sm3 w w') ∧ rms7 w w') :=
  (e_Ok.both (m_427 hd h g1 g2) (mz_427 hd h g1 g2)).imp (fun r w' q => by
    obtain ⟨⟨z, h1, hF, e⟩, f⟩ := q
    exact ⟨z, h1, hF, e, f.r7⟩)
theorem ms7_428 {d : Nat} (hd : 27 ≤ d) {w : eW} (h : mRel w) {p1 p2 p3 : Int} (g1 : -2147483648 ≤ p1 ∧ p1 ≤ 2147483647) (g2 : -2147483648 ≤ p2 ∧ p2 ≤ 2147483647) (g3 : -2147483648 ≤ p3 ∧ p3 ≤ 2147483647) (hz3 : 0 ≤ p3 ∧ p3 ≤ 1) : e_Ok 20 elay ecode eI d 428 (0, [(0, (1, 275)), (1, (0, p1)), (2, (0, p2)), (3, (0, p3))], [], w) (fun r w' => ∃ z : Int, r = [(0, z)] ∧ mRelF w' ∧ (sm3 w w') ∧ rms7 w w') :=
  (e_Ok.both (m_428 hd h g1 g2 g3 hz3) (mz_428 hd h g1 g2 g3 hz3)).imp (fun r w' q => by
    obtain ⟨⟨z, h1, hF, e⟩, f⟩ := q
    exact ⟨z, h1, hF, e, f.r7⟩)
theorem ms7_429 {d : Nat} (hd : 25 ≤ d) {w : eW} (h : mRel w) {p1 p2 p3 : Int} (g1 : -2147483648 ≤ p1 ∧ p1 ≤ 2147483647) (g2 : -2147483648 ≤ p2 ∧ p2 ≤ 2147483647) (g3 : -2147483648 ≤ p3 ∧ p3 ≤ 2147483647) (hz2 : 0 ≤ p2 ∧ p2 ≤ 1) (hz3 : 0 ≤ p3 ∧ p3 ≤ 1) : e_Ok 20 elay ecode eI d 429 (0, [(0, (1, 275)), (1, (0, p1)), (2, (0, p2)), (3, (0, p3))], [], w) (fun r w' => ∃ z : Int, r = [(0, z)] ∧ mRelF w' ∧ (sm3 w w') ∧ rms7 w w') :=
  (e_Ok.both (m_429 hd h g1 g2 g3 hz2 hz3) (mz_429 hd h g1 g2 g3 hz2 hz3)).imp (fun r w' q => by
    obtain ⟨⟨z, h1, hF, e⟩, f⟩ := q
    exact ⟨z, h1, hF, e, f.r7⟩)
theorem ms7_430 {d : Nat} (hd : 27 ≤ d) {w : eW} (h : mRel w) {p1 : Int} (g1 : -2147483648 ≤ p1 ∧ p1 ≤ 2147483647) : e_Ok 20 elay ecode eI d 430 (0, [(0, (1, 275)), (1, (0, p1))], [], w) (fun r w' => ∃ z : Int, r = [(0, z)] ∧ mRelF w' ∧ (sm3 w w') ∧ rms7 w w') :=
  (e_Ok.both (m_430 hd h g1) (mz_430 hd h g1)).imp (fun r w' q => by
    obtain ⟨⟨z, h1, hF, e⟩, f⟩ := q
    exact ⟨z, h1, hF, e, f.r7⟩)
theorem ms7_431 {d : Nat} (hd : 27 ≤ d) {w : eW} (h : mRel w) {p1 : Int} (g1 : -2147483648 ≤ p1 ∧ p1 ≤ 2147483647) : e_Ok 20 elay ecode eI d 431 (0, [(0, (1, 275)), (1, (0, p1))], [], w) (fun r w' => ∃ z : Int, r = [(0, z)] ∧ mRelF w' ∧ (sm3 w w') ∧ rms7 w w') :=
  (e_Ok.both (m_431 hd h g1) (mz_431 hd h g1)).imp (fun r w' q => by
    obtain ⟨⟨z, h1, hF, e⟩, f⟩ := q
    exact ⟨z, h1, hF, e, f.r7⟩)
theorem ms7_432 {d : Nat} (hd : 25 ≤ d) {w : eW} (h : mRel w) {p1 : Int} (g1 : -2147483648 ≤ p1 ∧ p1 ≤ 2147483647) : e_Ok 20 elay ecode eI d 432 (0, [(0, (1, 275)), (1, (0, p1))], [], w) (fun r w' => ∃ z : Int, r = [(0, z)] ∧ mRelF w' ∧ (sm3 w w') ∧ rms7 w w') :=
  (e_Ok.both (m_432 hd h g1) (mz_432 hd h g1)).imp (fun r w' q => by
    obtain ⟨⟨z, h1, hF, e⟩, f⟩ := q
    exact ⟨z, h1, hF, e, f.r7⟩)
theorem ms7_433 {d : Nat} (hd : 27 ≤ d) {w : eW} (h : mRel w) {p1 p2 p3 : Int} (g1 : -2147483648 ≤ p1 ∧ p1 ≤ 2147483647) (g2 : -2147483648 ≤ p2 ∧ p2 ≤ 2147483647) (g3 : -2147483648 ≤ p3 ∧ p3 ≤ 2147483647) : e_Ok 20 elay ecode eI d 433 (0, [(0, (1, 275)), (1, (0, p1)), (2, (0, p2)), (3, (0, p3))], [], w) (fun r w' => ∃ z : Int, r = [(0, z)] ∧ mRelF w' ∧ (sm3 w w') ∧ rms7 w w') :=
  (e_Ok.both (m_433 hd h g1 g2 g3) (mz_433 hd h g1 g2 g3)).imp (fun r w' q => by
    obtain ⟨⟨z, h1, hF, e⟩, f⟩ := q
    exact ⟨z, h1, hF, e, f.r7⟩)
theorem ms7_434 {d : Nat} (hd : 25 ≤ d) {w : eW} (h : mRel w) {p1 p2 : Int} (g1 : -2147483648 ≤ p1 ∧ p1 ≤ 2147483647) (g2 : -2147483648 ≤ p2 ∧ p2 ≤ 2147483647) : e_Ok 20 elay ecode eI d 434 (0, [(0, (1, 275)), (1, (0, p1)), (2, (0, p2))], [], w) (fun r w' => ∃ z : Int, r = [(0, z)] ∧ mRelF w' ∧ (sm3 w w') ∧ rms7 w w') :=
  (e_Ok.both (m_434 hd h g1 g2) (mz_434 hd h g1 g2)).imp (fun r w' q => by
    obtain ⟨⟨z, h1, hF, e⟩, f⟩ := q
    exact ⟨z, h1, hF, e, f.r7⟩)
theorem ms7_436 {d : Nat} (hd : 49 ≤ d) {w : eW} (h : mRel w) {p1 : Int} (g1 : -2147483648 ≤ p1 ∧ p1 ≤ 2147483647) : e_Ok 20 elay ecode eI d 436 (0, [(0, (1, 275)), (1, (0, p1))], [], w) (fun r w' => ∃ z : Int, r = [(0, z)] ∧ mRelF w' ∧ (sm3 w w') ∧ rms7 w w') :=
  (e_Ok.both (m_436 hd h g1) (mz_436 hd h g1)).imp (fun r w' q => by
    obtain ⟨⟨z, h1, hF, e⟩, f⟩ := q
    exact ⟨z, h1, hF, e, f.r7⟩)
theorem ms7_437 {d : Nat} (hd : 23 ≤ d) {w : eW} (h : mRel w) : e_Ok 20 elay ecode eI d 437 (0, [(0, (1, 275))], [], w) (fun r w' => ∃ z : Int, r = [(0, z)] ∧ mRel w' ∧ (sm3 w w') ∧ rms7 w w') :=
  (e_Ok.both (m_437 hd h ) (mz_437 hd h )).imp (fun r w' q => by
    obtain ⟨⟨z, h1, hF, e⟩, f⟩ := q
    exact ⟨z, h1, hF, e, f.r7⟩)
theorem ms7_438 {d : Nat} (hd : 23 ≤ d) {w : eW} (h : mRel w) {p1 p2 : Int} (g1 : -2147483648 ≤ p1 ∧ p1 ≤ 2147483647) (g2 : -2147483648 ≤ p2 ∧ p2 ≤ 2147483647) : e_Ok 20 elay ecode eI d 438 (0, [(0, (1, 275)), (1, (0, p1)), (2, (0, p2))], [], w) (fun r w' => ∃ z : Int, r = [(0, z)] ∧ mRel w' ∧ (sm3 w w') ∧ rms7 w w') :=
  (e_Ok.both (m_438 hd h g1 g2) (mz_438 hd h g1 g2)).imp (fun r w' q => by
    obtain ⟨⟨z, h1, hF, e⟩, f⟩ := q
    exact ⟨z, h1, hF, e, f.r7⟩)
theorem ms7_439 {d : Nat} (hd : 23 ≤ d) {w : eW} (h : mRel w) {p1 p2 : Int} (g1 : -2147483648 ≤ p1 ∧ p1 ≤ 2147483647) (g2 : -2147483648 ≤ p2 ∧ p2 ≤ 2147483647) : e_Ok 20 elay ecode eI d 439 (0, [(0, (1, 275)), (1, (0, p1)), (2, (0, p2))], [], w) (fun r w' => ∃ z : Int, r = [(0, z)] ∧ mRel w' ∧ (sm3 w w') ∧ rms7 w w') :=
  (e_Ok.both (m_439 hd h g1 g2) (mz_439 hd h g1 g2)).imp (fun r w' q => by
    obtain ⟨⟨z, h1, hF, e⟩, f⟩ := q
    exact ⟨z, h1, hF, e, f.r7⟩)
theorem ms7_440 {d : Nat} (hd : 24 ≤ d) {w : eW} (h : mRel w) {p1 p2 p3 : Int} (g1 : -2147483648 ≤ p1 ∧ p1 ≤ 2147483647) (g2 : -2147483648 ≤ p2 ∧ p2 ≤ 2147483647) (g3 : -2147483648 ≤ p3 ∧ p3 ≤ 2147483647) : e_Ok 20 elay ecode eI d 440 (0, [(0, (1, 275)), (1, (0, p1)), (2, (0, p2)), (3, (0, p3))], [], w) (fun r w' => ∃ z : Int, r = [(0, z)] ∧ mRel w' ∧ (sm3 w w') ∧ rms7 w w') :=
  (e_Ok.both (m_440 hd h g1 g2 g3) (mz_440 hd h g1 g2 g3)).imp (fun r w' q => by
    obtain ⟨⟨z, h1, hF, e⟩, f⟩ := q
    exact ⟨z, h1, hF, e, f.r7⟩)
theorem ms7_441 {d : Nat} (hd : 23 ≤ d) {w : eW} (h : mRel w) {p1 p2 : Int} (g1 : -2147483648 ≤ p1 ∧ p1 ≤ 2147483647) (g2 : -2147483648 ≤ p2 ∧ p2 ≤ 2147483647) : e_Ok 20 elay ecode eI d 441 (0, [(0, (1, 275)), (1, (0, p1)), (2, (0, p2))], [], w) (fun r w' => ∃ z : Int, r = [(0, z)] ∧ mRel w' ∧ (sm3 w w') ∧ rms7 w w') :=
  (e_Ok.both (m_441 hd h g1 g2) (mz_441 hd h g1 g2)).imp (fun r w' q => by
    obtain ⟨⟨z, h1, hF, e⟩, f⟩ := q
    exact ⟨z, h1, hF, e, f.r7⟩)
theorem ms7_442 {d : Nat} (hd : 23 ≤ d) {w : eW} (h : mRel w) {p1 p2 : Int} (g1 : -2147483648 ≤ p1 ∧ p1 ≤ 2147483647) (g2 : -2147483648 ≤ p2 ∧ p2 ≤ 2147483647) : e_Ok 20 elay ecode eI d 442 (0, [(0, (1, 275)), (1, (0, p1)), (2, (0, p2))], [], w) (fun r w' => ∃ z : Int, r = [(0, z)] ∧ mRel w' ∧ (sm3 w w') ∧ rms7 w w') :=
  (e_Ok.both (m_442 hd h g1 g2) (mz_442 hd h g1 g2)).imp (fun r w' q => by
    obtain ⟨⟨z, h1, hF, e⟩, f⟩ := q
    exact ⟨z, h1, hF, e, f.r7⟩)
theorem ms7_443 {d : Nat} (hd : 23 ≤ d) {w : eW} (h : mRel w) {p1 p2 : Int} (g1 : -2147483648 ≤ p1 ∧ p1 ≤ 2147483647) (g2 : -2147483648 ≤ p2 ∧ p2 ≤ 2147483647) : e_Ok 20 elay ecode eI d 443 (0, [(0, (1, 275)), (1, (0, p1)), (2, (0, p2))], [], w) (fun r w' => ∃ z : Int, r = [(0, z)] ∧ mRel w' ∧ (sm3 w w') ∧ rms7 w w') :=
  (e_Ok.both (m_443 hd h g1 g2) (mz_443 hd h g1 g2)).imp (fun r w' q => by
    obtain ⟨⟨z, h1, hF, e⟩, f⟩ := q
    exact ⟨z, h1, hF, e, f.r7⟩)
theorem ms7_444 {d : Nat} (hd : 23 ≤ d) {w : eW} (h : mRel w) {p1 p2 : Int} (g1 : -2147483648 ≤ p1 ∧ p1 ≤ 2147483647) (g2 : -2147483648 ≤ p2 ∧ p2 ≤ 2147483647) : e_Ok 20 elay ecode eI d 444 (0, [(0, (1, 275)), (1, (0, p1)), (2, (0, p2))], [], w) (fun r w' => ∃ z : Int, r = [(0, z)] ∧ mRel w' ∧ (sm3 w w') ∧ rms7 w w') :=
  (e_Ok.both (m_444 hd h g1 g2) (mz_444 hd h g1 g2)).imp (fun r w' q => by
    obtain ⟨⟨z, h1, hF, e⟩, f⟩ := q
    exact ⟨z, h1, hF, e, f.r7⟩)
theorem ms7_445 {d : Nat} (hd : 23 ≤ d) {w : eW} (h : mRel w) {p1 : Int} (g1 : -2147483648 ≤ p1 ∧ p1 ≤ 2147483647) : e_Ok 20 elay ecode eI d 445 (0, [(0, (1, 275)), (1, (0, p1))], [], w) (fun r w' => ∃ z : Int, r = [(0, z)] ∧ mRel w' ∧ (sm3 w w') ∧ rms7 w w') :=
  (e_Ok.both (m_445 hd h g1) (mz_445 hd h g1)).imp (fun r w' q => by
    obtain ⟨⟨z, h1, hF, e⟩, f⟩ := q
    exact ⟨z, h1, hF, e, f.r7⟩)
theorem ms7_446 {d : Nat} (hd : 27 ≤ d) {w : eW} (h : mRel w) {p1 p2 : Int} (g1 : -2147483648 ≤ p1 ∧ p1 ≤ 2147483647) (g2 : -2147483648 ≤ p2 ∧ p2 ≤ 2147483647) : e_Ok 20 elay ecode eI d 446 (0, [(0, (1, 275)), (1, (0, p1)), (2, (0, p2))], [], w) (fun r w' => ∃ z : Int, r = [(0, z)] ∧ mRel w' ∧ (sm3 w w') ∧ rms7 w w') :=
  (e_Ok.both (m_446 hd h g1 g2) (mz_446 hd h g1 g2)).imp (fun r w' q => by
    obtain ⟨⟨z, h1, hF, e⟩, f⟩ := q
    exact ⟨z, h1, hF, e, f.r7⟩)
theorem ms7_447 {d : Nat} (hd : 23 ≤ d) {w : eW} (h : mRel w) {p1 : Int} (g1 : -2147483648 ≤ p1 ∧ p1 ≤ 2147483647) : e_Ok 20 elay ecode eI d 447 (0, [(0, (1, 275)), (1, (0, p1))], [], w) (fun r w' => ∃ z : Int, r = [(0, z)] ∧ mRel w' ∧ (sm3 w w') ∧ rms7 w w') :=
  (e_Ok.both (m_447 hd h g1) (mz_447 hd h g1)).imp (fun r w' q => by
    obtain ⟨⟨z, h1, hF, e⟩, f⟩ := q
    exact ⟨z, h1, hF, e, f.r7⟩)
theorem ms7_448 {d : Nat} (hd : 23 ≤ d) {w : eW} (h : mRel w) : e_Ok 20 elay ecode eI d 448 (0, [(0, (1, 275))], [], w) (fun r w' => ∃ z : Int, r = [(0, z)] ∧ mRel w' ∧ (sm3 w w') ∧ rms7 w w') :=
  (e_Ok.both (m_448 hd h ) (mz_448 hd h )).imp (fun r w' q => by
    obtain ⟨⟨z, h1, hF, e⟩, f⟩ := q
    exact ⟨z, h1, hF, e, f.r7⟩)
theorem ms7_449 {d : Nat} (hd : 23 ≤ d) {w : eW} (h : mRel w) {p1 p2 : Int} (g1 : -2147483648 ≤ p1 ∧ p1 ≤ 2147483647) (g2 : -2147483648 ≤ p2 ∧ p2 ≤ 2147483647) : e_Ok 20 elay ecode eI d 449 (0, [(0, (1, 275)), (1, (0, p1)), (2, (0, p2))], [], w) (fun r w' => ∃ z : Int, r = [(0, z)] ∧ mRel w' ∧ (sm3 w w') ∧ rms7 w w') :=
  (e_Ok.both (m_449 hd h g1 g2) (mz_449 hd h g1 g2)).imp (fun r w' q => by
    obtain ⟨⟨z, h1, hF, e⟩, f⟩ := q
    exact ⟨z, h1, hF, e, f.r7⟩)
theorem ms7_450 {d : Nat} (hd : 23 ≤ d) {w : eW} (h : mRel w) {p1 : Int} (g1 : -2147483648 ≤ p1 ∧ p1 ≤ 2147483647) : e_Ok 20 elay ecode eI d 450 (0, [(0, (1, 275)), (1, (0, p1))], [], w) (fun r w' => ∃ z : Int, r = [(0, z)] ∧ mRel w' ∧ (sm3 w w') ∧ rms7 w w') :=
  (e_Ok.both (m_450 hd h g1) (mz_450 hd h g1)).imp (fun r w' q => by
    obtain ⟨⟨z, h1, hF, e⟩, f⟩ := q
    exact ⟨z, h1, hF, e, f.r7⟩)
theorem ms7_451 {d : Nat} (hd : 23 ≤ d) {w : eW} (h : mRel w) {p1 : Int} (g1 : -2147483648 ≤ p1 ∧ p1 ≤ 2147483647) : e_Ok 20 elay ecode eI d 451 (0, [(0, (1, 275)), (1, (0, p1))], [], w) (fun r w' => ∃ z : Int, r = [(0, z)] ∧ mRel w' ∧ (sm3 w w') ∧ rms7 w w') :=
  (e_Ok.both (m_451 hd h g1) (mz_451 hd h g1)).imp (fun r w' q => by
    obtain ⟨⟨z, h1, hF, e⟩, f⟩ := q
    exact ⟨z, h1, hF, e, f.r7⟩)
end
