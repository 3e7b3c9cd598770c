noncomputable section
/-! the model: what each call leaves of what was told -/
def mCfg (c k : Int) : Prop := (c = 275 ∧ (k = 10 ∨ k = 23 ∨ k = 30 ∨ k = 40 ∨ k = 42 ∨ k = 49)) ∨ (282 ≤ c ∧ c ≤ 319)
def mcs (w w' : eW) : Prop := ∀ c k, mCfg c k → w' c k = w c k
theorem mcs.refl (w : eW) : mcs w w := fun _ _ _ => rfl
theorem opS.cs {w w' : eW} {G : Int → Gh} {x a b c : Int} {s : Int → Int} (h : opS w w' G x a b c s) (h6 : w 275 6 = 0) : mcs w w' := by
  obtain ⟨-, -, wm, m1, -, m3⟩ := h
  rcases m3 with ⟨m3, -⟩ | ⟨-, m3⟩
  · omega
  · exact fun c k y => (m3.2.2.1 c k (by unfold mCfg at y; unfold mWr mKw mSo; omega)).trans (m1 c k (by unfold mCfg at y; unfold mTi; omega))
theorem mcs.op {w w' : eW} {G : Int → Gh} {x a b c : Int} {s : Int → Int} {C N : Prop} (h : mRel w) (q : (w = w' ∧ N) ∨ (C ∧ ¬ mBk w ∧ opS w w' G x a b c s ∧ evG w w')) : mcs w w' := by
  rcases q with ⟨rfl, -⟩ | ⟨q1, q2, q3, q4⟩
  · exact mcs.refl _
  · exact q3.cs h.2.2.1.1
theorem mz_280 {d : Nat} (hd : 24 ≤ d) {w : eW} (h : mRel w) {p1 p2 p3 : Int} (g1 : -2147483648 ≤ p1 ∧ p1 ≤ 2147483647) (g2 : -2147483648 ≤ p2 ∧ p2 ≤ 2147483647) (g3 : -2147483648 ≤ p3 ∧ p3 ≤ 2147483647) : e_Ok 20 elay ecode eI d 280 (0, [(0, (1, 275)), (1, (0, p1)), (2, (0, p2)), (3, (0, p3))], [], w) (fun _ w' => e_fr (mF (-1) 293 293) w w') := (c_280_b hd h.1 g1 g2 g3).imp (fun r w' q => by
    obtain ⟨z, hr, q⟩ := q
    rcases q with rfl | ⟨q1, q2, -⟩
    · exact e_fr.refl _
    · exact q2)
theorem mz_281 {d : Nat} (hd : 24 ≤ d) {w : eW} (h : mRel w) {p1 p2 p3 p4 : Int} (g1 : -2147483648 ≤ p1 ∧ p1 ≤ 2147483647) (g2 : -2147483648 ≤ p2 ∧ p2 ≤ 2147483647) (g3 : -2147483648 ≤ p3 ∧ p3 ≤ 2147483647) (g4 : -2147483648 ≤ p4 ∧ p4 ≤ 2147483647) : e_Ok 20 elay ecode eI d 281 (0, [(0, (1, 275)), (1, (0, p1)), (2, (0, p2)), (3, (0, p3)), (4, (0, p4))], [], w) (fun _ w' => e_fr (mF (-1) 290 291) w w') := (c_281_b hd h.1 g1 g2 g3 g4).imp (fun r w' q => by
    obtain ⟨z, hr, q⟩ := q
    rcases q with rfl | ⟨q1, q2, -⟩
    · exact e_fr.refl _
    · exact q2)
theorem mz_286 {d : Nat} (hd : 24 ≤ d) {w : eW} (h : mRel w) {p1 p2 p3 p4 p5 : Int} (g1 : -2147483648 ≤ p1 ∧ p1 ≤ 2147483647) (g2 : -2147483648 ≤ p2 ∧ p2 ≤ 2147483647) (g3 : -2147483648 ≤ p3 ∧ p3 ≤ 2147483647) (g4 : -2147483648 ≤ p4 ∧ p4 ≤ 2147483647) (g5 : -2147483648 ≤ p5 ∧ p5 ≤ 2147483647) : e_Ok 20 elay ecode eI d 286 (0, [(0, (1, 275)), (1, (0, p1)), (2, (0, p2)), (3, (0, p3)), (4, (0, p4)), (5, (0, p5))], [], w) (fun _ w' => e_fr (mF 30 300 306) w w') := (c_286_b hd h.1 g1 g2 g3 g4 g5).imp (fun r w' q => by
    obtain ⟨z, hr, q⟩ := q
    rcases q with rfl | ⟨q1, q2, -⟩
    · exact e_fr.refl _
    · exact q2)
theorem mz_287 {d : Nat} (hd : 24 ≤ d) {w : eW} (h : mRel w) {p1 p2 : Int} (g1 : -2147483648 ≤ p1 ∧ p1 ≤ 2147483647) (g2 : -2147483648 ≤ p2 ∧ p2 ≤ 2147483647) : e_Ok 20 elay ecode eI d 287 (0, [(0, (1, 275)), (1, (0, p1)), (2, (0, p2))], [], w) (fun _ w' => e_fr (mF (-1) 304 304) w w') := (c_287_b hd h.1 g1 g2).imp (fun r w' q => by
    obtain ⟨z, hr, q⟩ := q
    rcases q with rfl | ⟨q1, q2, -⟩
    · exact e_fr.refl _
    · exact q2)
theorem mz_288 {d : Nat} (hd : 24 ≤ d) {w : eW} (h : mRel w) {p1 p2 p3 p4 : Int} (g1 : -2147483648 ≤ p1 ∧ p1 ≤ 2147483647) (g2 : -2147483648 ≤ p2 ∧ p2 ≤ 2147483647) (g3 : -2147483648 ≤ p3 ∧ p3 ≤ 2147483647) (g4 : -2147483648 ≤ p4 ∧ p4 ≤ 2147483647) : e_Ok 20 elay ecode eI d 288 (0, [(0, (1, 275)), (1, (0, p1)), (2, (0, p2)), (3, (0, p3)), (4, (0, p4))], [], w) (fun _ w' => e_fr (mF (-1) 306 308) w w') := (c_288_b hd h.1 g1 g2 g3 g4).imp (fun r w' q => by
    obtain ⟨z, hr, q⟩ := q
    rcases q with rfl | ⟨q1, q2, -⟩
    · exact e_fr.refl _
    · exact q2)
theorem mz_291 {d : Nat} (hd : 24 ≤ d) {w : eW} (h : mRel w) {p1 p2 p3 p4 p5 : Int} (g1 : -2147483648 ≤ p1 ∧ p1 ≤ 2147483647) (g2 : -2147483648 ≤ p2 ∧ p2 ≤ 2147483647) (g3 : -2147483648 ≤ p3 ∧ p3 ≤ 2147483647) (g4 : -2147483648 ≤ p4 ∧ p4 ≤ 2147483647) (g5 : -2147483648 ≤ p5 ∧ p5 ≤ 2147483647) : e_Ok 20 elay ecode eI d 291 (0, [(0, (1, 275)), (1, (0, p1)), (2, (0, p2)), (3, (0, p3)), (4, (0, p4)), (5, (0, p5))], [], w) (fun _ w' => e_fr (mF 42 310 315) w w') := (c_291_b hd h.1 g1 g2 g3 g4 g5).imp (fun r w' q => by
    obtain ⟨z, hr, q⟩ := q
    rcases q with rfl | ⟨q1, q2, -⟩
    · exact e_fr.refl _
    · exact q2)
theorem mz_292 {d : Nat} (hd : 24 ≤ d) {w : eW} (h : mRel w) {p1 p2 : Int} (g1 : -2147483648 ≤ p1 ∧ p1 ≤ 2147483647) (g2 : -2147483648 ≤ p2 ∧ p2 ≤ 2147483647) : e_Ok 20 elay ecode eI d 292 (0, [(0, (1, 275)), (1, (0, p1)), (2, (0, p2))], [], w) (fun _ w' => e_fr (mF (-1) 315 315) w w') := (c_292_b hd h.1 g1 g2).imp (fun r w' q => by
    obtain ⟨z, hr, q⟩ := q
    rcases q with rfl | ⟨q1, q2, -⟩
    · exact e_fr.refl _
    · exact q2)
theorem mz_293 {d : Nat} (hd : 24 ≤ d) {w : eW} (h : mRel w) {p1 : Int} (g1 : -2147483648 ≤ p1 ∧ p1 ≤ 2147483647) : e_Ok 20 elay ecode eI d 293 (0, [(0, (1, 275)), (1, (0, p1))], [], w) (fun _ w' => e_fr (mF 49 316 316) w w') := (c_293_b hd h.1 g1).imp (fun r w' q => by
    obtain ⟨z, hr, q⟩ := q
    rcases q with rfl | ⟨q1, q2, -⟩
    · exact e_fr.refl _
    · exact q2)
theorem mz_294 {d : Nat} (hd : 24 ≤ d) {w : eW} (h : mRel w) {p1 p2 : Int} (g1 : -2147483648 ≤ p1 ∧ p1 ≤ 2147483647) (g2 : 0 ≤ p2 ∧ p2 ≤ 1) : e_Ok 20 elay ecode eI d 294 (0, [(0, (1, 275)), (1, (0, p1)), (2, (0, p2))], [], w) (fun _ w' => e_fr (mF (-1) 317 317) w w') := (c_294_b hd h.1 g1 g2).imp (fun r w' q => by
    obtain ⟨z, hr, q⟩ := q
    rcases q with rfl | ⟨q1, q2, -⟩
    · exact e_fr.refl _
    · exact q2)
theorem mz_357 {d : Nat} (hd : 424 ≤ d) {w : eW} (h : mRel w) {p1 : Int} (g1 : -2147483648 ≤ p1 ∧ p1 ≤ 2147483647) : e_Ok 20 elay ecode eI d 357 (0, [(0, (1, 275)), (1, (0, p1))], [], w) (fun _ w' => mcs w w') := (c_357 hd h.1 h.2.1 g1).imp (fun r w' q => by
    have h10 := e_Has.get h.1 (c := 275) (k := 10) (lo := 0) (hi := 4) rfl (by decide)
    obtain ⟨z, hr, q⟩ := q
    rcases q with ⟨rfl, q⟩ | ⟨q1, q2, q3, -⟩
    · exact mcs.refl _
    · exact fun c k y => q3 c k (fun g => by unfold mCfg at y; unfold mPg mPs at g; omega))
theorem mz_437 {d : Nat} (hd : 23 ≤ d) {w : eW} (h : mRel w) : e_Ok 20 elay ecode eI d 437 (0, [(0, (1, 275))], [], w) (fun _ w' => mcs w w') := (c_437 hd h.1 h.2.1).imp (fun r w' q => by obtain ⟨z, hr, rfl⟩ := q; exact mcs.refl _)
theorem mz_448 {d : Nat} (hd : 23 ≤ d) {w : eW} (h : mRel w) : e_Ok 20 elay ecode eI d 448 (0, [(0, (1, 275))], [], w) (fun _ w' => mcs w w') := (c_448 hd h.1 h.2.1).imp (fun r w' q => by obtain ⟨z, hr, rfl⟩ := q; exact mcs.refl _)
theorem mz_445 {d : Nat} (hd : 23 ≤ d) {w : eW} (h : mRel w) {p1 : Int} (g1 : -2147483648 ≤ p1 ∧ p1 ≤ 2147483647) : e_Ok 20 elay ecode eI d 445 (0, [(0, (1, 275)), (1, (0, p1))], [], w) (fun _ w' => mcs w w') := (c_445 hd h.1 h.2.1 g1).imp (fun r w' q => by obtain ⟨z, hr, rfl⟩ := q; exact mcs.refl _)
theorem mz_439 {d : Nat} (hd : 23 ≤ d) {w : eW} (h : mRel w) {p1 p2 : Int} (g1 : -2147483648 ≤ p1 ∧ p1 ≤ 2147483647) (g2 : -2147483648 ≤ p2 ∧ p2 ≤ 2147483647) : e_Ok 20 elay ecode eI d 439 (0, [(0, (1, 275)), (1, (0, p1)), (2, (0, p2))], [], w) (fun _ w' => mcs w w') := (c_439 hd h.1 h.2.1 g1 g2).imp (fun r w' q => by obtain ⟨z, hr, rfl⟩ := q; exact mcs.refl _)
theorem mz_443 {d : Nat} (hd : 23 ≤ d) {w : eW} (h : mRel w) {p1 p2 : Int} (g1 : -2147483648 ≤ p1 ∧ p1 ≤ 2147483647) (g2 : -2147483648 ≤ p2 ∧ p2 ≤ 2147483647) : e_Ok 20 elay ecode eI d 443 (0, [(0, (1, 275)), (1, (0, p1)), (2, (0, p2))], [], w) (fun _ w' => mcs w w') := (c_443 hd h.1 h.2.1 g1 g2).imp (fun r w' q => by obtain ⟨z, hr, rfl⟩ := q; exact mcs.refl _)
theorem mz_438 {d : Nat} (hd : 23 ≤ d) {w : eW} (h : mRel w) {p1 p2 : Int} (g1 : -2147483648 ≤ p1 ∧ p1 ≤ 2147483647) (g2 : -2147483648 ≤ p2 ∧ p2 ≤ 2147483647) : e_Ok 20 elay ecode eI d 438 (0, [(0, (1, 275)), (1, (0, p1)), (2, (0, p2))], [], w) (fun _ w' => mcs w w') := (c_438 hd h.1 h.2.1 g1 g2).imp (fun r w' q => by obtain ⟨z, hr, rfl⟩ := q; exact mcs.refl _)
theorem mz_441 {d : Nat} (hd : 23 ≤ d) {w : eW} (h : mRel w) {p1 p2 : Int} (g1 : -2147483648 ≤ p1 ∧ p1 ≤ 2147483647) (g2 : -2147483648 ≤ p2 ∧ p2 ≤ 2147483647) : e_Ok 20 elay ecode eI d 441 (0, [(0, (1, 275)), (1, (0, p1)), (2, (0, p2))], [], w) (fun _ w' => mcs w w') := (c_441 hd h.1 h.2.1 g1 g2).imp (fun r w' q => by obtain ⟨z, hr, rfl⟩ := q; exact mcs.refl _)
theorem mz_449 {d : Nat} (hd : 23 ≤ d) {w : eW} (h : mRel w) {p1 p2 : Int} (g1 : -2147483648 ≤ p1 ∧ p1 ≤ 2147483647) (g2 : -2147483648 ≤ p2 ∧ p2 ≤ 2147483647) : e_Ok 20 elay ecode eI d 449 (0, [(0, (1, 275)), (1, (0, p1)), (2, (0, p2))], [], w) (fun _ w' => mcs w w') := (c_449 hd h.1 h.2.1 g1 g2).imp (fun r w' q => by obtain ⟨z, hr, rfl⟩ := q; exact mcs.refl _)
theorem mz_451 {d : Nat} (hd : 23 ≤ d) {w : eW} (h : mRel w) {p1 : Int} (g1 : -2147483648 ≤ p1 ∧ p1 ≤ 2147483647) : e_Ok 20 elay ecode eI d 451 (0, [(0, (1, 275)), (1, (0, p1))], [], w) (fun _ w' => mcs w w') := (c_451 hd h.1 h.2.1 g1).imp (fun r w' q => by obtain ⟨z, hr, rfl⟩ := q; exact mcs.refl _)
theorem mz_442 {d : Nat} (hd : 23 ≤ d) {w : eW} (h : mRel w) {p1 p2 : Int} (g1 : -2147483648 ≤ p1 ∧ p1 ≤ 2147483647) (g2 : -2147483648 ≤ p2 ∧ p2 ≤ 2147483647) : e_Ok 20 elay ecode eI d 442 (0, [(0, (1, 275)), (1, (0, p1)), (2, (0, p2))], [], w) (fun _ w' => mcs w w') := (c_442 hd h.1 h.2.1 g1 g2).imp (fun r w' q => by obtain ⟨z, hr, rfl⟩ := q; exact mcs.refl _)
theorem mz_447 {d : Nat} (hd : 23 ≤ d) {w : eW} (h : mRel w) {p1 : Int} (g1 : -2147483648 ≤ p1 ∧ p1 ≤ 2147483647) : e_Ok 20 elay ecode eI d 447 (0, [(0, (1, 275)), (1, (0, p1))], [], w) (fun _ w' => mcs w w') := (c_447 hd h.1 h.2.1 g1).imp (fun r w' q => by obtain ⟨z, hr, rfl⟩ := q; exact mcs.refl _)
theorem mz_358 {d : Nat} (hd : 23 ≤ d) {w : eW} (h : mRel w) {p1 : Int} (g1 : -2147483648 ≤ p1 ∧ p1 ≤ 2147483647) : e_Ok 20 elay ecode eI d 358 (0, [(0, (1, 275)), (1, (0, p1))], [], w) (fun _ w' => mcs w w') := (c_358 hd h.1 h.2.1 g1).imp (fun r w' q => by obtain ⟨z, hr, rfl⟩ := q; exact mcs.refl _)
theorem mz_450 {d : Nat} (hd : 23 ≤ d) {w : eW} (h : mRel w) {p1 : Int} (g1 : -2147483648 ≤ p1 ∧ p1 ≤ 2147483647) : e_Ok 20 elay ecode eI d 450 (0, [(0, (1, 275)), (1, (0, p1))], [], w) (fun _ w' => mcs w w') := (c_450 hd h.1 h.2.1 g1).imp (fun r w' q => by obtain ⟨z, hr, rfl⟩ := q; exact mcs.refl _)
theorem mz_444 {d : Nat} (hd : 23 ≤ d) {w : eW} (h : mRel w) {p1 p2 : Int} (g1 : -2147483648 ≤ p1 ∧ p1 ≤ 2147483647) (g2 : -2147483648 ≤ p2 ∧ p2 ≤ 2147483647) : e_Ok 20 elay ecode eI d 444 (0, [(0, (1, 275)), (1, (0, p1)), (2, (0, p2))], [], w) (fun _ w' => mcs w w') := (c_444 hd h.1 h.2.1 g1 g2 h.ac).imp (fun r w' q => by obtain ⟨z, hr, q⟩ := q; exact fun c k y => q c k (fun g => by unfold mCfg at y; unfold mQ at g; omega))
theorem mz_440 {d : Nat} (hd : 24 ≤ d) {w : eW} (h : mRel w) {p1 p2 p3 : Int} (g1 : -2147483648 ≤ p1 ∧ p1 ≤ 2147483647) (g2 : -2147483648 ≤ p2 ∧ p2 ≤ 2147483647) (g3 : -2147483648 ≤ p3 ∧ p3 ≤ 2147483647) : e_Ok 20 elay ecode eI d 440 (0, [(0, (1, 275)), (1, (0, p1)), (2, (0, p2)), (3, (0, p3))], [], w) (fun _ w' => mcs w w') := (c_440 hd h.1 h.2.1 g1 g2 g3).imp (fun r w' q => by obtain ⟨z, hr, q⟩ := q; exact fun c k y => q c k (fun g => by unfold mCfg at y; unfold mP at g; omega))
theorem mz_318 {d : Nat} (hd : 27 ≤ d) {w : eW} (h : mRel w) {p1 p2 : Int} (g1 : -2147483648 ≤ p1 ∧ p1 ≤ 2147483647) (g2 : -2147483648 ≤ p2 ∧ p2 ≤ 2147483647) : e_Ok 20 elay ecode eI d 318 (0, [(0, (1, 275)), (1, (0, p1)), (2, (0, p2))], [], w) (fun _ w' => mcs w w') := (c_318 hd h.1 h.2.1 g1 g2).imp (fun r w' q => by obtain ⟨z, hr, q⟩ := q; exact fun c k y => q c k (fun g => by unfold mCfg at y; unfold mPL at g; omega))
theorem mz_446 {d : Nat} (hd : 27 ≤ d) {w : eW} (h : mRel w) {p1 p2 : Int} (g1 : -2147483648 ≤ p1 ∧ p1 ≤ 2147483647) (g2 : -2147483648 ≤ p2 ∧ p2 ≤ 2147483647) : e_Ok 20 elay ecode eI d 446 (0, [(0, (1, 275)), (1, (0, p1)), (2, (0, p2))], [], w) (fun _ w' => mcs w w') := (c_446 hd h.1 h.2.1 g1 g2).imp (fun r w' q => by obtain ⟨z, hr, q⟩ := q; exact fun c k y => q c k (fun g => by unfold mCfg at y; unfold mP at g; omega))
theorem mz_274 {d : Nat} (hd : 21 ≤ d) {w : eW} (h : mRel w) {a b c e f : Int} : e_Ok 20 elay ecode eI d 274 (0, [(0, (1, 275)), (1, (0, a)), (2, (0, b)), (3, (0, c)), (4, (0, e)), (5, (0, f))], [], w) (fun _ w' => mcs w w') := (c_274 hd h.1 h.2.1).imp (fun r w' q => by obtain ⟨z, hr, q1, q2, q3, q4⟩ := q; exact fun c k y => q1 c k (fun g => by unfold mCfg at y; unfold mTape at g; omega))
theorem mz_276 {d : Nat} (hd : 21 ≤ d) {w : eW} (h : mRel w) {a : Int} : e_Ok 20 elay ecode eI d 276 (0, [(0, (1, 275)), (1, (0, a))], [], w) (fun _ w' => mcs w w') := (c_276 hd h.1 h.2.1).imp (fun r w' q => by obtain ⟨z, hr, q1, q2, q3, q4⟩ := q; exact fun c k y => q1 c k (fun g => by unfold mCfg at y; unfold mTape at g; omega))
theorem mz_279 {d : Nat} (hd : 23 ≤ d) {w : eW} (h : mRel w) {p1 p2 p3 p4 p5 : Int} (g1 : -2147483648 ≤ p1 ∧ p1 ≤ 2147483647) (g2 : -2147483648 ≤ p2 ∧ p2 ≤ 2147483647) (g3 : -2147483648 ≤ p3 ∧ p3 ≤ 2147483647) (g4 : -2147483648 ≤ p4 ∧ p4 ≤ 2147483647) (g5 : -2147483648 ≤ p5 ∧ p5 ≤ 2147483647) : e_Ok 20 elay ecode eI d 279 (0, [(0, (1, 275)), (1, (0, p1)), (2, (0, p2)), (3, (0, p3)), (4, (0, p4)), (5, (0, p5))], [], w) (fun _ w' => e_fr (mJo p1 (w 286 p1)) w w') := (c_279 hd h.1 g1 g2 g3 g4 g5).imp (fun r w' q => by
    obtain ⟨z, hr, hT, q⟩ := q
    rcases q with rfl | ⟨q1, q2, q3, -⟩
    · exact e_fr.refl _
    · exact q3)
theorem mz_295 {d : Nat} (hd : 22 ≤ d) {w : eW} (h : mRel w) {p1 p2 p3 : Int} (g1 : -2147483648 ≤ p1 ∧ p1 ≤ 2147483647) (g2 : -2147483648 ≤ p2 ∧ p2 ≤ 2147483647) (g3 : 0 ≤ p3 ∧ p3 ≤ 1) : e_Ok 20 elay ecode eI d 295 (0, [(0, (1, 275)), (1, (0, p1)), (2, (0, p2)), (3, (0, p3))], [], w) (fun _ w' => e_fr (mF (-1) 318 319) w w') := (c_295 hd h.1 h.ac g1 g2 g3).imp (fun r w' q => by
    obtain ⟨z, hr, hT, q, hA⟩ := q
    rcases q with rfl | ⟨q1, q2⟩
    · exact e_fr.refl _
    · exact q2)
theorem mz_289 {d : Nat} (hd : 24 ≤ d) {w : eW} (h : mRel w) {p1 p2 p3 : Int} (g1 : -2147483648 ≤ p1 ∧ p1 ≤ 2147483647) (g2 : -2147483648 ≤ p2 ∧ p2 ≤ 2147483647) (g3 : -2147483648 ≤ p3 ∧ p3 ≤ 2147483647) : e_Ok 20 elay ecode eI d 289 (0, [(0, (1, 275)), (1, (0, p1)), (2, (0, p2)), (3, (0, p3))], [], w) (fun _ w' => e_fr mPr w w') := (c_289 hd h.1 g1 g2 g3 h.or).imp (fun r w' q => by
    obtain ⟨z, hr, q⟩ := q
    rcases q with rfl | ⟨q1, q2, -⟩
    · exact e_fr.refl _
    · exact q2)
theorem mz_290 {d : Nat} (hd : 24 ≤ d) {w : eW} (h : mRel w) {p1 p2 p3 : Int} (g1 : -2147483648 ≤ p1 ∧ p1 ≤ 2147483647) (g2 : -2147483648 ≤ p2 ∧ p2 ≤ 2147483647) (g3 : -2147483648 ≤ p3 ∧ p3 ≤ 2147483647) : e_Ok 20 elay ecode eI d 290 (0, [(0, (1, 275)), (1, (0, p1)), (2, (0, p2)), (3, (0, p3))], [], w) (fun _ w' => e_fr mPr w w') := (c_290 hd h.1 g1 g2 g3 h.or).imp (fun r w' q => by
    obtain ⟨z, hr, q⟩ := q
    rcases q with rfl | ⟨q1, q2, -⟩
    · exact e_fr.refl _
    · exact q2)
theorem mz_296 {d : Nat} (hd : 25 ≤ d) {w : eW} (h : mRel w) : e_Ok 20 elay ecode eI d 296 (0, [(0, (1, 275))], [], w) (fun _ w' => mcs w w') := by
  have hI : ∃ G, mInv w G := by
    rcases h.2.2.2 with ⟨-, G, g⟩ | ⟨-, G, S, g⟩
    · exact ⟨G, g.1.inv⟩
    · exact ⟨G, g.inv⟩
  obtain ⟨G, hG⟩ := hI
  refine (c_296 hd hG).imp (fun r w' q => ?_)
  obtain ⟨z, hr, q⟩ := q
  rcases q with ⟨rfl, q⟩ | ⟨q1, q2, q3, q4, q5, q7⟩
  · exact mcs.refl _
  · exact fun c k y => q5 c k (fun g => by unfold mCfg at y; unfold mOp mK at g; omega)
theorem mz_425 {d : Nat} (hd : 27 ≤ d) {w : eW} (h : mRel w) {p1 p2 : Int} (g1 : -2147483648 ≤ p1 ∧ p1 ≤ 2147483647) (g2 : -2147483648 ≤ p2 ∧ p2 ≤ 2147483647) : e_Ok 20 elay ecode eI d 425 (0, [(0, (1, 275)), (1, (0, p1)), (2, (0, p2))], [], w) (fun _ w' => mcs w w') := by
  obtain ⟨G, hI, hB, hE, hb⟩ := h.base
  refine (e_Ok.outN (c_425 hd hI hB hE g1 g2)).imp (fun r w' q => ?_)
  obtain ⟨⟨z, hr, q⟩, ho⟩ := q
  exact mcs.op h q
theorem mz_426 {d : Nat} (hd : 45 ≤ d) {w : eW} (h : mRel w) {p1 : Int} (g1 : -2147483648 ≤ p1 ∧ p1 ≤ 2147483647) : e_Ok 20 elay ecode eI d 426 (0, [(0, (1, 275)), (1, (0, p1))], [], w) (fun _ w' => mcs w w') := by
  obtain ⟨G, hI, hB, hE, hb⟩ := h.base
  refine (e_Ok.outN (c_426 hd hI hB hE g1)).imp (fun r w' q => ?_)
  obtain ⟨⟨z, hr, q⟩, ho⟩ := q
  exact mcs.op h q
theorem mz_427 {d : Nat} (hd : 25 ≤ d) {w : eW} (h : mRel w) {p1 p2 : Int} (g1 : -2147483648 ≤ p1 ∧ p1 ≤ 2147483647) (g2 : -2147483648 ≤ p2 ∧ p2 ≤ 2147483647) : e_Ok 20 elay ecode eI d 427 (0, [(0, (1, 275)), (1, (0, p1)), (2, (0, p2))], [], w) (fun _ w' => mcs w w') := by
  obtain ⟨G, hI, hB, hE, hb⟩ := h.base
  refine (e_Ok.outN (c_427 hd hI hB hE g1 g2)).imp (fun r w' q => ?_)
  obtain ⟨⟨z, hr, q⟩, ho⟩ := q
  exact mcs.op h q
theorem mz_428 {d : Nat} (hd : 27 ≤ d) {w : eW} (h : mRel w) {p1 p2 p3 : Int} (g1 : -2147483648 ≤ p1 ∧ p1 ≤ 2147483647) (g2 : -2147483648 ≤ p2 ∧ p2 ≤ 2147483647) (g3 : -2147483648 ≤ p3 ∧ p3 ≤ 2147483647) (hz3 : 0 ≤ p3 ∧ p3 ≤ 1) : e_Ok 20 elay ecode eI d 428 (0, [(0, (1, 275)), (1, (0, p1)), (2, (0, p2)), (3, (0, p3))], [], w) (fun _ w' => mcs w w') := by
  obtain ⟨G, hI, hB, hE, hb⟩ := h.base
  refine (e_Ok.outN (c_428 hd hI hB hE g1 g2 g3 hz3)).imp (fun r w' q => ?_)
  obtain ⟨⟨z, hr, q⟩, ho⟩ := q
  exact mcs.op h q
theorem mz_429 {d : Nat} (hd : 25 ≤ d) {w : eW} (h : mRel w) {p1 p2 p3 : Int} (g1 : -2147483648 ≤ p1 ∧ p1 ≤ 2147483647) (g2 : -2147483648 ≤ p2 ∧ p2 ≤ 2147483647) (g3 : -2147483648 ≤ p3 ∧ p3 ≤ 2147483647) (hz2 : 0 ≤ p2 ∧ p2 ≤ 1) (hz3 : 0 ≤ p3 ∧ p3 ≤ 1) : e_Ok 20 elay ecode eI d 429 (0, [(0, (1, 275)), (1, (0, p1)), (2, (0, p2)), (3, (0, p3))], [], w) (fun _ w' => mcs w w') := by
  obtain ⟨G, hI, hB, hE, hb⟩ := h.base
  refine (e_Ok.outN (c_429 hd hI hB hE g1 g2 g3 hz2 hz3)).imp (fun r w' q => ?_)
  obtain ⟨⟨z, hr, q⟩, ho⟩ := q
  exact mcs.op h q
theorem mz_430 {d : Nat} (hd : 27 ≤ d) {w : eW} (h : mRel w) {p1 : Int} (g1 : -2147483648 ≤ p1 ∧ p1 ≤ 2147483647) : e_Ok 20 elay ecode eI d 430 (0, [(0, (1, 275)), (1, (0, p1))], [], w) (fun _ w' => mcs w w') := by
  obtain ⟨G, hI, hB, hE, hb⟩ := h.base
  refine (e_Ok.outN (c_430 hd hI hB hE g1)).imp (fun r w' q => ?_)
  obtain ⟨⟨z, hr, q⟩, ho⟩ := q
  exact mcs.op h q
theorem mz_431 {d : Nat} (hd : 27 ≤ d) {w : eW} (h : mRel w) {p1 : Int} (g1 : -2147483648 ≤ p1 ∧ p1 ≤ 2147483647) : e_Ok 20 elay ecode eI d 431 (0, [(0, (1, 275)), (1, (0, p1))], [], w) (fun _ w' => mcs w w') := by
  obtain ⟨G, hI, hB, hE, hb⟩ := h.base
  refine (e_Ok.outN (c_431 hd hI hB hE g1)).imp (fun r w' q => ?_)
  obtain ⟨⟨z, hr, q⟩, ho⟩ := q
  exact mcs.op h q
theorem mz_432 {d : Nat} (hd : 25 ≤ d) {w : eW} (h : mRel w) {p1 : Int} (g1 : -2147483648 ≤ p1 ∧ p1 ≤ 2147483647) : e_Ok 20 elay ecode eI d 432 (0, [(0, (1, 275)), (1, (0, p1))], [], w) (fun _ w' => mcs w w') := by
  obtain ⟨G, hI, hB, hE, hb⟩ := h.base
  refine (e_Ok.outN (c_432 hd hI hB hE g1)).imp (fun r w' q => ?_)
  obtain ⟨⟨z, hr, q⟩, ho⟩ := q
  exact mcs.op h q
theorem mz_433 {d : Nat} (hd : 27 ≤ d) {w : eW} (h : mRel w) {p1 p2 p3 : Int} (g1 : -2147483648 ≤ p1 ∧ p1 ≤ 2147483647) (g2 : -2147483648 ≤ p2 ∧ p2 ≤ 2147483647) (g3 : -2147483648 ≤ p3 ∧ p3 ≤ 2147483647) : e_Ok 20 elay ecode eI d 433 (0, [(0, (1, 275)), (1, (0, p1)), (2, (0, p2)), (3, (0, p3))], [], w) (fun _ w' => mcs w w') := by
  obtain ⟨G, hI, hB, hE, hb⟩ := h.base
  refine (e_Ok.outN (c_433 hd hI hB hE g1 g2 g3)).imp (fun r w' q => ?_)
  obtain ⟨⟨z, hr, q⟩, ho⟩ := q
  exact mcs.op h q
theorem mz_434 {d : Nat} (hd : 25 ≤ d) {w : eW} (h : mRel w) {p1 p2 : Int} (g1 : -2147483648 ≤ p1 ∧ p1 ≤ 2147483647) (g2 : -2147483648 ≤ p2 ∧ p2 ≤ 2147483647) : e_Ok 20 elay ecode eI d 434 (0, [(0, (1, 275)), (1, (0, p1)), (2, (0, p2))], [], w) (fun _ w' => mcs w w') := by
  obtain ⟨G, hI, hB, hE, hb⟩ := h.base
  refine (e_Ok.outN (c_434 hd hI hB hE g1 g2)).imp (fun r w' q => ?_)
  obtain ⟨⟨z, hr, q⟩, ho⟩ := q
  exact mcs.op h q
theorem mz_419 {d : Nat} (hd : 27 ≤ d) {w : eW} (h : mRel w) {p1 : Int} (g1 : -2147483648 ≤ p1 ∧ p1 ≤ 2147483647) : e_Ok 20 elay ecode eI d 419 (0, [(0, (1, 275)), (1, (0, p1))], [], w) (fun _ w' => mcs w w') := by
  obtain ⟨G, hI, hB, hE, hb⟩ := h.base
  refine (e_Ok.outN (c_419 hd hI hB hE g1)).imp (fun r w' q => ?_)
  obtain ⟨⟨z, hr, q⟩, ho⟩ := q
  exact mcs.op h q
theorem mz_418 {d : Nat} (hd : 33 ≤ d) {w : eW} (h : mRel w) {p1 p2 p3 : Int} (g1 : -2147483648 ≤ p1 ∧ p1 ≤ 2147483647) (g2 : -2147483648 ≤ p2 ∧ p2 ≤ 2147483647) (g3 : -2147483648 ≤ p3 ∧ p3 ≤ 2147483647) : e_Ok 20 elay ecode eI d 418 (0, [(0, (1, 275)), (1, (0, p1)), (2, (0, p2)), (3, (0, p3))], [], w) (fun _ w' => mcs w w') := by
  obtain ⟨G, hI, hB, hE, hb⟩ := h.base
  have h118 := e_Has.get h.2.1 (c := 275) (k := 118) (lo := 0) (hi := 60) rfl (by decide)
  refine (c_418 hd hI hB g1 g2 g3 h118 h.2.2.1.1).imp (fun r w' q => ?_)
  obtain ⟨z, hr, q⟩ := q
  rcases q with ⟨q1, q2, q3, q4⟩ | ⟨q1, q2, q3⟩
  · exact fun c k y => q1 c k (fun g => by unfold mCfg at y; unfold mPm at g; omega)
  · obtain ⟨z', f, wm, z1, z2, z3, z4, z5, hw, z7, z8⟩ := q3
    exact fun c k y => (hw.2.2.1 c k (by unfold mCfg at y; unfold mWr mKw mSo; omega)).trans (z2 c k (by unfold mCfg at y; unfold mPm; omega))
theorem mz_436 {d : Nat} (hd : 49 ≤ d) {w : eW} (h : mRel w) {p1 : Int} (g1 : -2147483648 ≤ p1 ∧ p1 ≤ 2147483647) : e_Ok 20 elay ecode eI d 436 (0, [(0, (1, 275)), (1, (0, p1))], [], w) (fun _ w' => mcs w w') := by
  rcases h.2.2.2 with ⟨g0, G, g⟩ | ⟨g0, G, S, g⟩
  · refine (c_436_0 (e_dq0 hd rfl) h.1 h.2.1 g1 g0).imp (fun r w' q => ?_)
    obtain ⟨z, hr, rfl⟩ := q
    exact mcs.refl _
  · refine (c_436 hd g g1).imp (fun r w' q => ?_)
    obtain ⟨z, hr, q⟩ := q
    rcases q with rfl | ⟨q1, q2⟩
    · exact mcs.refl _
    · exact fun c k y => q2 c k (fun g => by unfold mCfg at y; unfold mBb mTi mPm at g; omega)
end
