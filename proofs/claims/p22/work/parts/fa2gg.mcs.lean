noncomputable section
/-! the model: what each call leaves of what was told -/
def mCfg (c k : Int) : Prop := (c = 275 ∧ (k = 10 ∨ k = 23 ∨ k = 30 ∨ k = 40 ∨ k = 42 ∨ k = 49)) ∨ (282 ≤ c ∧ c ≤ 319)
def mcs (w w' : eW) : Prop := ∀ c k, mCfg c k → w' c k = w c k
theorem mcs.refl (w : eW) : mcs w w := fun _ _ _ => rfl
theorem opS.cs {w w' : eW} {G : Int → Gh} {x a b c : Int} {s : Int → Int} (h : opS w w' G x a b c s) (h6 : w 275 6 = 0) : mcs w w' := by
  obtain ⟨-, -, wm, m1, -, m3⟩ := h
  rcases m3 with ⟨m3, -⟩ | ⟨-, m3⟩
  · omega
  · exact fun c k y => (m3.2.2.1 c k (by unfold mCfg at y; unfold mWr mKw mSo; omega)).trans (m1 c k (by unfold mCfg at y; unfold mTi; omega))
theorem mcs.op {w w' : eW} {G : Int → Gh} {x a b c : Int} {s : Int → Int} {C N : Prop} (h : mRel w) (q : (w = w' ∧ N) ∨ (C ∧ ¬ mBk w ∧ opS w w' G x a b c s ∧ evG w w')) : mcs w w' := by
  rcases q with ⟨rfl, -⟩ | ⟨q1, q2, q3, q4⟩
  · exact mcs.refl _
  · exact q3.cs h.2.2.1.1
theorem mz_280 {d : Nat} (hd : 24 ≤ d) {w : eW} (h : mRel w) {p1 p2 p3 : Int} (g1 : -2147483648 ≤ p1 ∧ p1 ≤ 2147483647) (g2 : -2147483648 ≤ p2 ∧ p2 ≤ 2147483647) (g3 : -2147483648 ≤ p3 ∧ p3 ≤ 2147483647) : e_Ok 20 elay ecode eI d 280 (0, [(0, (1, 275)), (1, (0, p1)), (2, (0, p2)), (3, (0, p3))], [], w) (fun _ w' => e_fr (mF (-1) 293 293) w w') := (c_280_b hd h.1 g1 g2 g3).imp (fun r w' q => by
    obtain ⟨z, hr, q⟩ := q
    rcases q with rfl | ⟨q1, q2, -⟩
    · exact e_fr.refl _
    · exact q2)
theorem mz_281 {d : Nat} (hd : 24 ≤ d) {w : eW} (h : mRel w) {p1 p2 p3 p4 : Int} (g1 : -2147483648 ≤ p1 ∧ p1 ≤ 2147483647) (g2 : -2147483648 ≤ p2 ∧ p2 ≤ 2147483647) (g3 : -2147483648 ≤ p3 ∧ p3 ≤ 2147483647) (g4 : -2147483648 ≤ p4 ∧ p4 ≤ 2147483647) : e_Ok 20 elay ecode eI d 281 (0, [(0, (1, 275)), (1, (0, p1)), (2, (0, p2)), (3, (0, p3)), (4, (0, p4))], [], w) (fun _ w' => e_fr (mF (-1) 290 291) w w') := (c_281_b hd h.1 g1 g2 g3 g4).imp (fun r w' q => by
    obtain ⟨z, hr, q⟩ := q
    rcases q with rfl | ⟨q1, q2, -⟩
    · exact e_fr.refl _
    · exact q2)
theorem mz_285 {d : Nat} (hd : 24 ≤ d) {w : eW} (h : mRel w) {p1 p2 p3 : Int} (g1 : -2147483648 ≤ p1 ∧ p1 ≤ 2147483647) (g2 : -2147483648 ≤ p2 ∧ p2 ≤ 2147483647) (g3 : -2147483648 ≤ p3 ∧ p3 ≤ 2147483647) : e_Ok 20 elay ecode eI d 285 (0, [(0, (1, 275)), (1, (0, p1)), (2, (0, p2)), (3, (0, p3))], [], w) (fun _ w' => e_fr (mF (-1) 299 299) w w') := (c_285_b hd h.1 g1 g2 g3).imp (fun r w' q => by
    obtain ⟨z, hr, q⟩ := q
    rcases q with rfl | ⟨q1, q2, -⟩
    · exact e_fr.refl _
    · exact q2)
theorem mz_286 {d : Nat} (hd : 24 ≤ d) {w : eW} (h : mRel w) {p1 p2 p3 p4 p5 : Int} (g1 : -2147483648 ≤ p1 ∧ p1 ≤ 2147483647) (g2 : -2147483648 ≤ p2 ∧ p2 ≤ 2147483647) (g3 : -2147483648 ≤ p3 ∧ p3 ≤ 2147483647) (g4 : -2147483648 ≤ p4 ∧ p4 ≤ 2147483647) (g5 : -2147483648 ≤ p5 ∧ p5 ≤ 2147483647) : e_Ok 20 elay ecode eI d 286 (0, [(0, (1, 275)), (1, (0, p1)), (2, (0, p2)), (3, (0, p3)), (4, (0, p4)), (5, (0, p5))], [], w) (fun _ w' => e_fr (mF 30 300 306) w w') := (c_286_b hd h.1 g1 g2 g3 g4 g5).imp (fun r w' q => by
    obtain ⟨z, hr, q⟩ := q
    rcases q with rfl | ⟨q1, q2, -⟩
    · exact e_fr.refl _
    · exact q2)
theorem mz_287 {d : Nat} (hd : 24 ≤ d) {w : eW} (h : mRel w) {p1 p2 : Int} (g1 : -2147483648 ≤ p1 ∧ p1 ≤ 2147483647) (g2 : -2147483648 ≤ p2 ∧ p2 ≤ 2147483647) : e_Ok 20 elay ecode eI d 287 (0, [(0, (1, 275)), (1, (0, p1)), (2, (0, p2))], [], w) (fun _ w' => e_fr (mF (-1) 304 304) w w') := (c_287_b hd h.1 g1 g2).imp (fun r w' q => by
    obtain ⟨z, hr, q⟩ := q
    rcases q with rfl | ⟨q1, q2, -⟩
    · exact e_fr.refl _
    · exact q2)
theorem mz_288 {d : Nat} (hd : 24 ≤ d) {w : eW} (h : mRel w) {p1 p2 p3 p4 : Int} (g1 : -2147483648 ≤ p1 ∧ p1 ≤ 2147483647) (g2 : -2147483648 ≤ p2 ∧ p2 ≤ 2147483647) (g3 : -2147483648 ≤ p3 ∧ p3 ≤ 2147483647) (g4 : -2147483648 ≤ p4 ∧ p4 ≤ 2147483647) : e_Ok 20 elay ecode eI d 288 (0, [(0, (1, 275)), (1, (0, p1)), (2, (0, p2)), (3, (0, p3)), (4, (0, p4))], [], w) (fun _ w' => e_fr (mF (-1) 306 308) w w') := (c_288_b hd h.1 g1 g2 g3 g4).imp (fun r w' q => by
    obtain ⟨z, hr, q⟩ := q
    rcases q with rfl | ⟨q1, q2, -⟩
    · exact e_fr.refl _
    · exact q2)
theorem mz_291 {d : Nat} (hd : 24 ≤ d) {w : eW} (h : mRel w) {p1 p2 p3 p4 p5 : Int} (g1 : -2147483648 ≤ p1 ∧ p1 ≤ 2147483647) (g2 : -2147483648 ≤ p2 ∧ p2 ≤ 2147483647) (g3 : -2147483648 ≤ p3 ∧ p3 ≤ 2147483647) (g4 : -2147483648 ≤ p4 ∧ p4 ≤ 2147483647) (g5 : -2147483648 ≤ p5 ∧ p5 ≤ 2147483647) : e_Ok 20 elay ecode eI d 291 (0, [(0, (1, 275)), (1, (0, p1)), (2, (0, p2)), (3, (0, p3)), (4, (0, p4)), (5, (0, p5))], [], w) (fun _ w' => e_fr (mF 42 310 315) w w') := (c_291_b hd h.1 g1 g2 g3 g4 g5).imp (fun r w' q => by
    obtain ⟨z, hr, q⟩ := q
    rcases q with rfl | ⟨q1, q2, -⟩
    · exact e_fr.refl _
    · exact q2)
theorem mz_292 {d : Nat} (hd : 24 ≤ d) {w : eW} (h : mRel w) {p1 p2 : Int} (g1 : -2147483648 ≤ p1 ∧ p1 ≤ 2147483647) (g2 : -2147483648 ≤ p2 ∧ p2 ≤ 2147483647) : e_Ok 20 elay ecode eI d 292 (0, [(0, (1, 275)), (1, (0, p1)), (2, (0, p2))], [], w) (fun _ w' => e_fr (mF (-1) 315 315) w w') := (c_292_b hd h.1 g1 g2).imp (fun r w' q => by
    obtain ⟨z, hr, q⟩ := q
    rcases q with rfl | ⟨q1, q2, -⟩
    · exact e_fr.refl _
    · exact q2)
theorem mz_293 {d : Nat} (hd : 24 ≤ d) {w : eW} (h : mRel w) {p1 : Int} (g1 : -2147483648 ≤ p1 ∧ p1 ≤ 2147483647) : e_Ok 20 elay ecode eI d 293 (0, [(0, (1, 275)), (1, (0, p1))], [], w) (fun _ w' => e_fr (mF 49 316 316) w w') := (c_293_b hd h.1 g1).imp (fun r w' q => by
    obtain ⟨z, hr, q⟩ := q
    rcases q with rfl | ⟨q1, q2, -⟩
    · exact e_fr.refl _
    · exact q2)
theorem mz_294 {d : Nat} (hd : 24 ≤ d) {w : eW} (h : mRel w) {p1 p2 : Int} (g1 : -2147483648 ≤ p1 ∧ p1 ≤ 2147483647) (g2 : 0 ≤ p2 ∧ p2 ≤ 1) : e_Ok 20 elay ecode eI d 294 (0, [(0, (1, 275)), (1, (0, p1)), (2, (0, p2))], [], w) (fun _ w' => e_fr (mF (-1) 317 317) w w') := (c_294_b hd h.1 g1 g2).imp (fun r w' q => by
    obtain ⟨z, hr, q⟩ := q
    rcases q with rfl | ⟨q1, q2, -⟩
    · exact e_fr.refl _
    · exact q2)
theorem mz_283 {d : Nat} (hd : 26 ≤ d) {w : eW} (h : mRel w) {p1 p2 p3 : Int} (g1 : -2147483648 ≤ p1 ∧ p1 ≤ 2147483647) (g2 : -2147483648 ≤ p2 ∧ p2 ≤ 2147483647) (g3 : -2147483648 ≤ p3 ∧ p3 ≤ 2147483647) : e_Ok 20 elay ecode eI d 283 (0, [(0, (1, 275)), (1, (0, p1)), (2, (0, p2)), (3, (0, p3))], [], w) (fun _ w' => e_fr (mF 23 294 298) w w') := (c_283_b hd h.1 g1 g2 g3).imp (fun r w' q => by
    obtain ⟨z, hr, q⟩ := q
    rcases q with rfl | ⟨q1, q2, -⟩
    · exact e_fr.refl _
    · exact q2)
theorem mz_284 {d : Nat} (hd : 26 ≤ d) {w : eW} (h : mRel w) {p1 p2 p3 p4 : Int} (g1 : -2147483648 ≤ p1 ∧ p1 ≤ 2147483647) (g2 : -2147483648 ≤ p2 ∧ p2 ≤ 2147483647) (g3 : -2147483648 ≤ p3 ∧ p3 ≤ 2147483647) (g4 : -2147483648 ≤ p4 ∧ p4 ≤ 2147483647) : e_Ok 20 elay ecode eI d 284 (0, [(0, (1, 275)), (1, (0, p1)), (2, (0, p2)), (3, (0, p3)), (4, (0, p4))], [], w) (fun _ w' => e_fr (mF 23 294 298) w w') := (c_284_b hd h.1 g1 g2 g3 g4).imp (fun r w' q => by
    obtain ⟨z, hr, q⟩ := q
    rcases q with rfl | ⟨q1, q2, -⟩
    · exact e_fr.refl _
    · exact q2)
theorem mz_278 {d : Nat} (hd : 24 ≤ d) {w : eW} (h : mRel w) {p1 p2 p3 p4 : Int} (g1 : -2147483648 ≤ p1 ∧ p1 ≤ 2147483647) (g2 : -2147483648 ≤ p2 ∧ p2 ≤ 2147483647) (g3 : -2147483648 ≤ p3 ∧ p3 ≤ 2147483647) (g4 : -2147483648 ≤ p4 ∧ p4 ≤ 2147483647) : e_Ok 20 elay ecode eI d 278 (0, [(0, (1, 275)), (1, (0, p1)), (2, (0, p2)), (3, (0, p3)), (4, (0, p4))], [], w) (fun _ w' => e_fr (mF 10 282 285) w w') := (c_278_b hd h.1 g1 g2 g3 g4).imp (fun r w' q => by
    obtain ⟨z, hr, q⟩ := q
    rcases q with rfl | ⟨q1, q2, -⟩
    · exact e_fr.refl _
    · exact q2)
theorem mz_279 {d : Nat} (hd : 23 ≤ d) {w : eW} (h : mRel w) {p1 p2 p3 p4 p5 : Int} (g1 : -2147483648 ≤ p1 ∧ p1 ≤ 2147483647) (g2 : -2147483648 ≤ p2 ∧ p2 ≤ 2147483647) (g3 : -2147483648 ≤ p3 ∧ p3 ≤ 2147483647) (g4 : -2147483648 ≤ p4 ∧ p4 ≤ 2147483647) (g5 : -2147483648 ≤ p5 ∧ p5 ≤ 2147483647) : e_Ok 20 elay ecode eI d 279 (0, [(0, (1, 275)), (1, (0, p1)), (2, (0, p2)), (3, (0, p3)), (4, (0, p4)), (5, (0, p5))], [], w) (fun _ w' => e_fr (mJo p1 (w 286 p1)) w w') := (c_279 hd h.1 g1 g2 g3 g4 g5).imp (fun r w' q => by
    obtain ⟨z, hr, hT, q⟩ := q
    rcases q with rfl | ⟨q1, q2, q3, -⟩
    · exact e_fr.refl _
    · exact q3)
theorem mz_295 {d : Nat} (hd : 22 ≤ d) {w : eW} (h : mRel w) {p1 p2 p3 : Int} (g1 : -2147483648 ≤ p1 ∧ p1 ≤ 2147483647) (g2 : -2147483648 ≤ p2 ∧ p2 ≤ 2147483647) (g3 : 0 ≤ p3 ∧ p3 ≤ 1) : e_Ok 20 elay ecode eI d 295 (0, [(0, (1, 275)), (1, (0, p1)), (2, (0, p2)), (3, (0, p3))], [], w) (fun _ w' => e_fr (mF (-1) 318 319) w w') := (c_295 hd h.1 h.ac g1 g2 g3).imp (fun r w' q => by
    obtain ⟨z, hr, hT, q, hA⟩ := q
    rcases q with rfl | ⟨q1, q2⟩
    · exact e_fr.refl _
    · exact q2)
theorem mz_289 {d : Nat} (hd : 24 ≤ d) {w : eW} (h : mRel w) {p1 p2 p3 : Int} (g1 : -2147483648 ≤ p1 ∧ p1 ≤ 2147483647) (g2 : -2147483648 ≤ p2 ∧ p2 ≤ 2147483647) (g3 : -2147483648 ≤ p3 ∧ p3 ≤ 2147483647) : e_Ok 20 elay ecode eI d 289 (0, [(0, (1, 275)), (1, (0, p1)), (2, (0, p2)), (3, (0, p3))], [], w) (fun _ w' => e_fr mPr w w') := (c_289 hd h.1 g1 g2 g3 h.or).imp (fun r w' q => by
    obtain ⟨z, hr, q⟩ := q
    rcases q with rfl | ⟨q1, q2, -⟩
    · exact e_fr.refl _
    · exact q2)
theorem mz_290 {d : Nat} (hd : 24 ≤ d) {w : eW} (h : mRel w) {p1 p2 p3 : Int} (g1 : -2147483648 ≤ p1 ∧ p1 ≤ 2147483647) (g2 : -2147483648 ≤ p2 ∧ p2 ≤ 2147483647) (g3 : -2147483648 ≤ p3 ∧ p3 ≤ 2147483647) : e_Ok 20 elay ecode eI d 290 (0, [(0, (1, 275)), (1, (0, p1)), (2, (0, p2)), (3, (0, p3))], [], w) (fun _ w' => e_fr mPr w w') := (c_290 hd h.1 g1 g2 g3 h.or).imp (fun r w' q => by
    obtain ⟨z, hr, q⟩ := q
    rcases q with rfl | ⟨q1, q2, -⟩
    · exact e_fr.refl _
    · exact q2)
end
