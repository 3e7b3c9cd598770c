noncomputable section
/-! the numbers that the model's cells hold; (1, 0): nothing is said -/
def x_nthP (l : List (Int × Int)) (k : Nat) : Int × Int := match x_at l k with
  | some x => x
  | none => (1, 0)
def mFld : List (Int × Int) := [(276, 276), (277, 277), (278, 278), (0, 1), (279, 279), (1, 0), (1, 0), (280, 280), (281, 281), (1, 0), (0, 4), (282, 282), (283, 283), (284, 284), (285, 285), (286, 286), (287, 287), (288, 288), (289, 289), (290, 290), (291, 291), (292, 292), (293, 293), (0, 16), (294, 294), (295, 295), (296, 296), (297, 297), (298, 298), (299, 299), (0, 4), (300, 300), (301, 301), (302, 302), (303, 303), (304, 304), (305, 305), (306, 306), (307, 307), (308, 308), (0, 32), (309, 309), (0, 8), (310, 310), (311, 311), (312, 312), (313, 313), (314, 314), (315, 315), (0, 8), (316, 316), (317, 317), (318, 318), (319, 319), (320, 320), (321, 321), (322, 322), (323, 323), (1, 0), (1, 0), (1, 0), (324, 324), (325, 325), (326, 326), (327, 327), (328, 328), (329, 329), (330, 330), (331, 331), (332, 332), (333, 333), (334, 334), (335, 335), (336, 336), (337, 337), (338, 338), (339, 339), (340, 340), (1, 0), (1, 0), (1, 0), (1, 0), (1, 0), (1, 0), (1, 0), (1, 0), (1, 0), (1, 0), (1, 0), (1, 0), (341, 341), (342, 342), (343, 343), (344, 344), (1, 0), (1, 0), (1, 0), (1, 0), (1, 0), (1, 0), (1, 0), (345, 345), (1, 0), (346, 346), (347, 347), (348, 348), (349, 349), (350, 350), (351, 351), (352, 352), (1, 0), (1, 0), (1, 0), (353, 353), (354, 354), (355, 355), (356, 356), (1, 0), (1, 0)]
def mArr : List (Int × Int) := [(1, 0), (1, 0), (1, 0), (1, 0), (1, 0), (-8000, 8000), (-8000, 8000), (0, 4095), (0, 800), (0, 6), (0, 1), (-100000, 0), (0, 100000), (0, 2000), (0, 2000), (0, 8000), (0, 800), (0, 1), (-16000, 16000), (-16000, 16000), (-2147483648, 2147483647), (-2147483648, 2147483647), (0, 1), (-16000, 16000), (-16000, 16000), (0, 3), (0, 16000), (0, 100), (0, 2000), (-1, 63), (-2147483648, 2147483647), (-2147483648, 2147483647), (0, 800), (0, 3), (-16000, 16000), (-16000, 16000), (0, 32000), (0, 32000), (-2147483648, 2147483647), (0, 1000), (0, 1), (-1, 63), (0, 1), (-2147483648, 2147483647), (1, 0), (1, 0), (1, 0), (1, 0), (1, 0), (1, 0), (1, 0), (-2147483648, 2147483647), (-2147483648, 2147483647), (-2147483648, 2147483647), (-2147483648, 2147483647), (-2147483648, 2147483647), (-2147483648, 2147483647), (-2147483648, 2147483647), (-2147483648, 2147483647), (-2147483648, 2147483647), (-2147483648, 2147483647), (0, 32), (0, 32), (0, 1), (1, 0), (1, 0), (1, 0), (1, 0), (1, 0), (1, 0), (1, 0), (1, 0), (1, 0), (1, 0), (1, 0), (1, 0), (1, 0), (1, 0), (1, 0), (1, 0)]
def hFld : List (Int × Int) := [(1, 0), (1, 0), (1, 0), (1, 0), (1, 0), (0, 2000), (0, 1), (1, 0), (1, 0), (0, 4000), (1, 0), (1, 0), (1, 0), (1, 0), (1, 0), (1, 0), (1, 0), (1, 0), (1, 0), (1, 0), (1, 0), (1, 0), (1, 0), (1, 0), (1, 0), (1, 0), (1, 0), (1, 0), (1, 0), (1, 0), (1, 0), (1, 0), (1, 0), (1, 0), (1, 0), (1, 0), (1, 0), (1, 0), (1, 0), (1, 0), (1, 0), (1, 0), (1, 0), (1, 0), (1, 0), (1, 0), (1, 0), (1, 0), (1, 0), (1, 0), (1, 0), (1, 0), (1, 0), (1, 0), (1, 0), (1, 0), (1, 0), (1, 0), (1, 0), (1, 0), (1, 0), (1, 0), (1, 0), (1, 0), (1, 0), (1, 0), (1, 0), (1, 0), (1, 0), (1, 0), (1, 0), (1, 0), (1, 0), (1, 0), (1, 0), (1, 0), (1, 0), (1, 0), (1, 0), (1, 0), (1, 0), (1, 0), (1, 0), (1, 0), (1, 0), (1, 0), (1, 0), (1, 0), (0, 7), (-2147483648, 2147483647), (1, 0), (1, 0), (1, 0), (1, 0), (1, 0), (0, 1), (1, 0), (1, 0), (1, 0), (1, 0), (1, 0), (1, 0), (1, 0), (1, 0), (1, 0), (1, 0), (1, 0), (1, 0), (1, 0), (1, 0), (1, 0), (1, 0), (1, 0), (1, 0), (1, 0), (1, 0), (1, 0), (-2147483648, 2147483647), (0, 60)]
def hArr : List (Int × Int) := [(-2147483648, 2147483647), (-2147483648, 2147483647), (-2147483648, 2147483647), (-2147483648, 2147483647), (-128, 127), (1, 0), (1, 0), (1, 0), (1, 0), (1, 0), (1, 0), (1, 0), (1, 0), (1, 0), (1, 0), (1, 0), (1, 0), (1, 0), (1, 0), (1, 0), (1, 0), (1, 0), (1, 0), (1, 0), (1, 0), (1, 0), (1, 0), (1, 0), (1, 0), (1, 0), (1, 0), (1, 0), (1, 0), (1, 0), (1, 0), (1, 0), (1, 0), (1, 0), (1, 0), (1, 0), (1, 0), (1, 0), (1, 0), (1, 0), (1, 0), (1, 0), (1, 0), (1, 0), (1, 0), (1, 0), (1, 0), (1, 0), (1, 0), (1, 0), (1, 0), (1, 0), (1, 0), (1, 0), (1, 0), (1, 0), (1, 0), (1, 0), (1, 0), (1, 0), (1, 0), (1, 0), (1, 0), (1, 0), (1, 0), (1, 0), (1, 0), (1, 0), (1, 0), (1, 0), (1, 0), (1, 0), (1, 0), (-2147483648, 2147483647), (-2147483648, 2147483647), (-2147483648, 2147483647)]
def nHead : List (Int × Int) := [(0, 6000), (0, 1), (0, 4), (-2147483648, 2147483647), (0, 6000), (0, 2147483647), (-2147483648, 2147483647), (-2147483648, 2147483647), (-2147483648, 2147483647), (-2147483648, 2147483647), (-2147483648, 2147483647), (-2147483648, 2147483647), (-2147483648, 2147483647), (-2147483648, 2147483647), (-2147483648, 2147483647), (-2147483648, 2147483647)]
def nArm : List (Int × Int) := [(0, 2), (-1, 31), (-1, 15), (-1, 999), (0, 1), (0, 1), (0, 1), (0, 1000), (-2147483648, 2147483647), (-1, 15), (0, 16), (-2147483648, 2147483647), (-2147483648, 2147483647), (-2147483648, 2147483647), (-2147483648, 2147483647), (-2147483648, 2147483647), (-100000, 100000), (-100000, 100000), (-100000, 100000), (-100000, 100000), (-100000, 100000), (-100000, 100000), (-2000, 2000), (-2000, 2000), (-2000, 2000), (-2000, 2000), (-2000, 2000), (-2000, 2000), (-100000, 100000), (-100000, 100000), (-100000, 100000), (-100000, 100000), (-100000, 100000), (-100000, 100000), (-2147483648, 2147483647), (-2147483648, 2147483647)]
def nTask (f : Int) : Int × Int := if f < 20 then x_nthP [(0, 7), (-1, 3), (-2147483648, 2147483647), (-2147483648, 2147483647), (-2147483648, 2147483647), (0, 7), (-2147483648, 2147483647), (0, 1), (-1, 63), (0, 31), (-2147483648, 2147483647), (0, 6001), (0, 20), (0, 600), (-2147483648, 2147483647), (-2147483648, 2147483647), (-2147483648, 2147483647), (-2147483648, 2147483647), (-2147483648, 2147483647), (-2147483648, 2147483647)] f.toNat else if f < 60 then (if f % 2 = 0 then (0, 9999) else (0, 1)) else (-2147483648, 2147483647)
def nowR (k : Int) : Int × Int :=
  if k < 16 then x_nthP nHead k.toNat else
  if k < 160 then x_nthP nArm ((k - 16) % 36).toNat else
  if k < 224 then (-2147483648, 2147483647) else
  if k < 288 then (0, 1) else
  if k < 416 then (-2147483648, 2147483647) else
  if k < 20576 then nTask ((k - 416) % 1260) else
  if k < 20704 then (if (k - 20576) % 4 = 0 then (0, 8) else (-2147483648, 2147483647)) else
  if k < 20836 then (if (k - 20704) % 33 = 0 then (0, 32) else (0, 31)) else
  if k < 20868 then (if (k - 20836) % 4 = 2 then (-2147483648, 2147483647) else (0, 1)) else
  if k < 20876 then (-1, 15) else
  if k < 21060 then (-2147483648, 2147483647) else
  if k < 25060 then (0, 11) else (-2147483648, 2147483647)
def mTy (c k : Int) : Int × Int := match c.toNat - 275 with
  | 0 => if c = 275 then x_nthP mFld k.toNat else (1, 0)
  | 1 => nowR k
  | n + 2 => x_nthP mArr n
def hTy (c k : Int) : Int × Int := match c.toNat - 275 with
  | 0 => if c = 275 then x_nthP hFld k.toNat else (1, 0)
  | 1 => (1, 0)
  | n + 2 => x_nthP hArr n
/-- w keeps to the types ty -/
def e_Has (ty : Int → Int → Int × Int) (w : eW) : Prop := ∀ c k : Int, (ty c k).1 ≤ (ty c k).2 → (ty c k).1 ≤ w c k ∧ w c k ≤ (ty c k).2
theorem e_Has.get {ty : Int → Int → Int × Int} {w : eW} {c k lo hi : Int} (h : e_Has ty w) (e : ty c k = (lo, hi)) (hl : lo ≤ hi) : lo ≤ w c k ∧ w c k ≤ hi := by
  have := h c k
  rw [e] at this
  exact this hl
theorem e_Has.eq {ty : Int → Int → Int × Int} {w : eW} {c k v : Int} (h : e_Has ty w) (e : ty c k = (v, v)) : w c k = v := by
  have := h.get e (Int.le_refl v)
  omega
theorem e_Has.up {ty : Int → Int → Int × Int} {w w' : eW} {c k z : Int} (h : e_Has ty w) (hw : e_up w c k z = w') (hz : (ty c k).1 ≤ (ty c k).2 → (ty c k).1 ≤ z ∧ z ≤ (ty c k).2) : e_Has ty w' := by
  subst hw
  intro c' k' hl
  by_cases e : c' = c ∧ k' = k
  · rw [e.1, e.2] at hl ⊢
    rw [e_up_eq]
    exact hz hl
  · rw [e_up_ne _ _ (by by_cases e1 : c' = c; exact Or.inr (fun e2 => e ⟨e1, e2⟩); exact Or.inl e1)]
    exact h c' k' hl
theorem e_Has.upr {ty : Int → Int → Int × Int} {w w' : eW} {c k z lo hi : Int} (h : e_Has ty w) (hw : e_up w c k z = w') (e : ty c k = (lo, hi)) (hz : lo ≤ z ∧ z ≤ hi) : e_Has ty w' := h.up hw (fun _ => by rw [e]; exact hz)
theorem e_Has.ups {ty : Int → Int → Int × Int} {w w' : eW} {c k z : Int} (h : e_Has ty w) (hw : e_up w c k z = w') (e : ty c k = (1, 0)) : e_Has ty w' := h.up hw (fun q => by rw [e] at q; exact absurd q (by decide))
theorem nR_STATE {a : Int} (h : 0 ≤ a ∧ a ≤ 3) : mTy 276 (36 * a + 16) = (0, 2) := by
  show nowR _ = _
  unfold nowR
  rw [if_neg (by omega), if_pos (by omega)]
  rw [show (36 * a + 16 - 16) % 36 = 0 by omega]
  rfl
theorem nR_HOLDS {a : Int} (h : 0 ≤ a ∧ a ≤ 3) : mTy 276 (36 * a + 17) = (-1, 31) := by
  show nowR _ = _
  unfold nowR
  rw [if_neg (by omega), if_pos (by omega)]
  rw [show (36 * a + 17 - 16) % 36 = 1 by omega]
  rfl
theorem nR_STUCK {a : Int} (h : 0 ≤ a ∧ a ≤ 3) : mTy 276 (36 * a + 18) = (-1, 15) := by
  show nowR _ = _
  unfold nowR
  rw [if_neg (by omega), if_pos (by omega)]
  rw [show (36 * a + 18 - 16) % 36 = 2 by omega]
  rfl
theorem nR_WAY_SIZE {a : Int} (h : 0 ≤ a ∧ a ≤ 3) : mTy 276 (36 * a + 19) = (-1, 999) := by
  show nowR _ = _
  unfold nowR
  rw [if_neg (by omega), if_pos (by omega)]
  rw [show (36 * a + 19 - 16) % 36 = 3 by omega]
  rfl
theorem nR_FRESH {a : Int} (h : 0 ≤ a ∧ a ≤ 3) : mTy 276 (36 * a + 20) = (0, 1) := by
  show nowR _ = _
  unfold nowR
  rw [if_neg (by omega), if_pos (by omega)]
  rw [show (36 * a + 20 - 16) % 36 = 4 by omega]
  rfl
theorem nR_BUT_OWN {a : Int} (h : 0 ≤ a ∧ a ≤ 3) : mTy 276 (36 * a + 21) = (0, 1) := by
  show nowR _ = _
  unfold nowR
  rw [if_neg (by omega), if_pos (by omega)]
  rw [show (36 * a + 21 - 16) % 36 = 5 by omega]
  rfl
theorem nR_TRAVELS {a : Int} (h : 0 ≤ a ∧ a ≤ 3) : mTy 276 (36 * a + 22) = (0, 1) := by
  show nowR _ = _
  unfold nowR
  rw [if_neg (by omega), if_pos (by omega)]
  rw [show (36 * a + 22 - 16) % 36 = 6 by omega]
  rfl
theorem nR_TRAVEL_AT {a : Int} (h : 0 ≤ a ∧ a ≤ 3) : mTy 276 (36 * a + 23) = (0, 1000) := by
  show nowR _ = _
  unfold nowR
  rw [if_neg (by omega), if_pos (by omega)]
  rw [show (36 * a + 23 - 16) % 36 = 7 by omega]
  rfl
theorem nR_TICKS {a : Int} (h : 0 ≤ a ∧ a ≤ 3) : mTy 276 (36 * a + 24) = (-2147483648, 2147483647) := by
  show nowR _ = _
  unfold nowR
  rw [if_neg (by omega), if_pos (by omega)]
  rw [show (36 * a + 24 - 16) % 36 = 8 by omega]
  rfl
theorem nR_MOVER {a : Int} (h : 0 ≤ a ∧ a ≤ 3) : mTy 276 (36 * a + 25) = (-1, 15) := by
  show nowR _ = _
  unfold nowR
  rw [if_neg (by omega), if_pos (by omega)]
  rw [show (36 * a + 25 - 16) % 36 = 9 by omega]
  rfl
theorem nR_WIDE {a : Int} (h : 0 ≤ a ∧ a ≤ 3) : mTy 276 (36 * a + 26) = (0, 16) := by
  show nowR _ = _
  unfold nowR
  rw [if_neg (by omega), if_pos (by omega)]
  rw [show (36 * a + 26 - 16) % 36 = 10 by omega]
  rfl
theorem nR_FEWEST {a : Int} (h : 0 ≤ a ∧ a ≤ 3) : mTy 276 (36 * a + 27) = (-2147483648, 2147483647) := by
  show nowR _ = _
  unfold nowR
  rw [if_neg (by omega), if_pos (by omega)]
  rw [show (36 * a + 27 - 16) % 36 = 11 by omega]
  rfl
theorem nR_VALUE {a j : Int} (h : 0 ≤ a ∧ a ≤ 3) (hj : 0 ≤ j ∧ j ≤ 5) : mTy 276 (36 * a + j + 32) = (-100000, 100000) := by
  show nowR _ = _
  unfold nowR
  rw [if_neg (by omega), if_pos (by omega)]
  rw [show (36 * a + j + 32 - 16) % 36 = j + 16 by omega]
  obtain rfl | rfl | rfl | rfl | rfl | rfl : j = 0 ∨ j = 1 ∨ j = 2 ∨ j = 3 ∨ j = 4 ∨ j = 5 := by omega
  all_goals rfl
theorem nR_STEP {a j : Int} (h : 0 ≤ a ∧ a ≤ 3) (hj : 0 ≤ j ∧ j ≤ 5) : mTy 276 (36 * a + j + 38) = (-2000, 2000) := by
  show nowR _ = _
  unfold nowR
  rw [if_neg (by omega), if_pos (by omega)]
  rw [show (36 * a + j + 38 - 16) % 36 = j + 22 by omega]
  obtain rfl | rfl | rfl | rfl | rfl | rfl : j = 0 ∨ j = 1 ∨ j = 2 ∨ j = 3 ∨ j = 4 ∨ j = 5 := by omega
  all_goals rfl
theorem nR_GOAL {a j : Int} (h : 0 ≤ a ∧ a ≤ 3) (hj : 0 ≤ j ∧ j ≤ 5) : mTy 276 (36 * a + j + 44) = (-100000, 100000) := by
  show nowR _ = _
  unfold nowR
  rw [if_neg (by omega), if_pos (by omega)]
  rw [show (36 * a + j + 44 - 16) % 36 = j + 28 by omega]
  obtain rfl | rfl | rfl | rfl | rfl | rfl : j = 0 ∨ j = 1 ∨ j = 2 ∨ j = 3 ∨ j = 4 ∨ j = 5 := by omega
  all_goals rfl
theorem nR_TSTATE {t : Int} (h : 0 ≤ t ∧ t ≤ 15) : mTy 276 (1260 * t + 416) = (0, 7) := by
  show nowR _ = _
  unfold nowR
  rw [if_neg (by omega), if_neg (by omega), if_neg (by omega), if_neg (by omega), if_neg (by omega), if_pos (by omega)]
  rw [show (1260 * t + 416 - 416) % 1260 = 0 by omega]
  rfl
theorem nR_TASK_ARM {t : Int} (h : 0 ≤ t ∧ t ≤ 15) : mTy 276 (1260 * t + 417) = (-1, 3) := by
  show nowR _ = _
  unfold nowR
  rw [if_neg (by omega), if_neg (by omega), if_neg (by omega), if_neg (by omega), if_neg (by omega), if_pos (by omega)]
  rw [show (1260 * t + 417 - 416) % 1260 = 1 by omega]
  rfl
theorem nR_FAULT {t : Int} (h : 0 ≤ t ∧ t ≤ 15) : mTy 276 (1260 * t + 418) = (-2147483648, 2147483647) := by
  show nowR _ = _
  unfold nowR
  rw [if_neg (by omega), if_neg (by omega), if_neg (by omega), if_neg (by omega), if_neg (by omega), if_pos (by omega)]
  rw [show (1260 * t + 418 - 416) % 1260 = 2 by omega]
  rfl
theorem nR_CAUGHT {t : Int} (h : 0 ≤ t ∧ t ≤ 15) : mTy 276 (1260 * t + 419) = (-2147483648, 2147483647) := by
  show nowR _ = _
  unfold nowR
  rw [if_neg (by omega), if_neg (by omega), if_neg (by omega), if_neg (by omega), if_neg (by omega), if_pos (by omega)]
  rw [show (1260 * t + 419 - 416) % 1260 = 3 by omega]
  rfl
theorem nR_WAKE {t : Int} (h : 0 ≤ t ∧ t ≤ 15) : mTy 276 (1260 * t + 420) = (-2147483648, 2147483647) := by
  show nowR _ = _
  unfold nowR
  rw [if_neg (by omega), if_neg (by omega), if_neg (by omega), if_neg (by omega), if_neg (by omega), if_pos (by omega)]
  rw [show (1260 * t + 420 - 416) % 1260 = 4 by omega]
  rfl
theorem nR_WANT {t : Int} (h : 0 ≤ t ∧ t ≤ 15) : mTy 276 (1260 * t + 421) = (0, 7) := by
  show nowR _ = _
  unfold nowR
  rw [if_neg (by omega), if_neg (by omega), if_neg (by omega), if_neg (by omega), if_neg (by omega), if_pos (by omega)]
  rw [show (1260 * t + 421 - 416) % 1260 = 5 by omega]
  rfl
theorem nR_ORDER_IN {t : Int} (h : 0 ≤ t ∧ t ≤ 15) : mTy 276 (1260 * t + 422) = (-2147483648, 2147483647) := by
  show nowR _ = _
  unfold nowR
  rw [if_neg (by omega), if_neg (by omega), if_neg (by omega), if_neg (by omega), if_neg (by omega), if_pos (by omega)]
  rw [show (1260 * t + 422 - 416) % 1260 = 6 by omega]
  rfl
theorem nR_BROKEN {t : Int} (h : 0 ≤ t ∧ t ≤ 15) : mTy 276 (1260 * t + 423) = (0, 1) := by
  show nowR _ = _
  unfold nowR
  rw [if_neg (by omega), if_neg (by omega), if_neg (by omega), if_neg (by omega), if_neg (by omega), if_pos (by omega)]
  rw [show (1260 * t + 423 - 416) % 1260 = 7 by omega]
  rfl
theorem nR_WATCHED {t : Int} (h : 0 ≤ t ∧ t ≤ 15) : mTy 276 (1260 * t + 424) = (-1, 63) := by
  show nowR _ = _
  unfold nowR
  rw [if_neg (by omega), if_neg (by omega), if_neg (by omega), if_neg (by omega), if_neg (by omega), if_pos (by omega)]
  rw [show (1260 * t + 424 - 416) % 1260 = 8 by omega]
  rfl
theorem nR_WATCHER {t : Int} (h : 0 ≤ t ∧ t ≤ 15) : mTy 276 (1260 * t + 425) = (0, 31) := by
  show nowR _ = _
  unfold nowR
  rw [if_neg (by omega), if_neg (by omega), if_neg (by omega), if_neg (by omega), if_neg (by omega), if_pos (by omega)]
  rw [show (1260 * t + 425 - 416) % 1260 = 9 by omega]
  rfl
theorem nR_KEPT {t : Int} (h : 0 ≤ t ∧ t ≤ 15) : mTy 276 (1260 * t + 426) = (-2147483648, 2147483647) := by
  show nowR _ = _
  unfold nowR
  rw [if_neg (by omega), if_neg (by omega), if_neg (by omega), if_neg (by omega), if_neg (by omega), if_pos (by omega)]
  rw [show (1260 * t + 426 - 416) % 1260 = 10 by omega]
  rfl
theorem nR_ACTS {t : Int} (h : 0 ≤ t ∧ t ≤ 15) : mTy 276 (1260 * t + 427) = (0, 6001) := by
  show nowR _ = _
  unfold nowR
  rw [if_neg (by omega), if_neg (by omega), if_neg (by omega), if_neg (by omega), if_neg (by omega), if_pos (by omega)]
  rw [show (1260 * t + 427 - 416) % 1260 = 11 by omega]
  rfl
theorem nR_FRAMES {t : Int} (h : 0 ≤ t ∧ t ≤ 15) : mTy 276 (1260 * t + 428) = (0, 20) := by
  show nowR _ = _
  unfold nowR
  rw [if_neg (by omega), if_neg (by omega), if_neg (by omega), if_neg (by omega), if_neg (by omega), if_pos (by omega)]
  rw [show (1260 * t + 428 - 416) % 1260 = 12 by omega]
  rfl
theorem nR_PENDS {t : Int} (h : 0 ≤ t ∧ t ≤ 15) : mTy 276 (1260 * t + 429) = (0, 600) := by
  show nowR _ = _
  unfold nowR
  rw [if_neg (by omega), if_neg (by omega), if_neg (by omega), if_neg (by omega), if_neg (by omega), if_pos (by omega)]
  rw [show (1260 * t + 429 - 416) % 1260 = 13 by omega]
  rfl
theorem nR_IN_WATCH {t : Int} (h : 0 ≤ t ∧ t ≤ 15) : mTy 276 (1260 * t + 430) = (-2147483648, 2147483647) := by
  show nowR _ = _
  unfold nowR
  rw [if_neg (by omega), if_neg (by omega), if_neg (by omega), if_neg (by omega), if_neg (by omega), if_pos (by omega)]
  rw [show (1260 * t + 430 - 416) % 1260 = 14 by omega]
  rfl
theorem nR_FRAME {t i : Int} (h : 0 ≤ t ∧ t ≤ 15) (hi : 0 ≤ i ∧ i ≤ 19) : mTy 276 (1260 * t + 2 * i + 436) = (0, 9999) := by
  show nowR _ = _
  unfold nowR
  rw [if_neg (by omega), if_neg (by omega), if_neg (by omega), if_neg (by omega), if_neg (by omega), if_pos (by omega)]
  rw [show (1260 * t + 2 * i + 436 - 416) % 1260 = 2 * i + 20 by omega]
  unfold nTask
  rw [if_neg (by omega), if_pos (by omega), if_pos (by omega)]
theorem nR_FRAMEW {t i : Int} (h : 0 ≤ t ∧ t ≤ 15) (hi : 0 ≤ i ∧ i ≤ 19) : mTy 276 (1260 * t + 2 * i + 437) = (0, 1) := by
  show nowR _ = _
  unfold nowR
  rw [if_neg (by omega), if_neg (by omega), if_neg (by omega), if_neg (by omega), if_neg (by omega), if_pos (by omega)]
  rw [show (1260 * t + 2 * i + 437 - 416) % 1260 = 2 * i + 21 by omega]
  unfold nTask
  rw [if_neg (by omega), if_pos (by omega), if_neg (by omega)]
theorem nR_PEND {t i : Int} (h : 0 ≤ t ∧ t ≤ 15) (hi : 0 ≤ i ∧ i ≤ 1199) : mTy 276 (1260 * t + i + 476) = (-2147483648, 2147483647) := by
  show nowR _ = _
  unfold nowR
  rw [if_neg (by omega), if_neg (by omega), if_neg (by omega), if_neg (by omega), if_neg (by omega), if_pos (by omega)]
  rw [show (1260 * t + i + 476 - 416) % 1260 = i + 60 by omega]
  unfold nTask
  rw [if_neg (by omega), if_neg (by omega)]
end
