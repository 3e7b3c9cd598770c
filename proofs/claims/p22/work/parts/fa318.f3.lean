noncomputable section
/-! the readers: what stands between the pairs -/
def mfr (v v' : eW) : Prop := e_fr mEm v v'
theorem mfr.r {v : eW} : mfr v v := e_fr.refl v
theorem mfr.tr {v v1 v2 : eW} (h : mfr v v1) (h' : mfr v1 v2) : mfr v v2 := e_fr.trans h h'
theorem mfr.rf {v v1 : eW} (h : mfr v v1) (g : mRw v) : mRw v1 := mRw.fr2 h (fun k q => by unfold mEm at q; omega) g
theorem mfr.up {v v1 v2 : eW} {c k z : Int} (h : mfr v v1) (hv : e_up v1 c k z = v2) (hs : mEm c k) : mfr v v2 := e_fr.up h hv hs

theorem x_336 {n d : Nat} {w : eW} (hR : mRw w) {x : Int} {y : Int} : e_Pn 20 elay ecode eI n d 336 (0, [(0, (1, 275)), (1, (0, x)), (2, (0, y))], [], w) (fun r w' => (∃ z : Int, r = [(0, z)]) ∧ mfr w w') := by
  refine e_Pn.run (t' := (4, [(0, (1, 275)), (1, (0, x)), (2, (0, y))], [(1, 275), (0, 40000)], w)) eAlk 2 rfl ?_
  refine e_Pn.getf (z := w 275 78) eAlk rfl rfl rfl (fun b1 => ?_)
  refine e_Pn.bin0 eAlk rfl (fun z2 hz2 => ?_)
  refine e_Pn.run (t' := (10, [(3, (0, z2)), (0, (1, 275)), (1, (0, x)), (2, (0, y))], [(1, 275)], w)) eAlk 2 rfl ?_
  refine e_Pn.getr (z := 328) eAlk rfl rfl (mfr.r.rf hR (65, 328) (by decide)) (by omega) ?_
  refine e_Pn.run (t' := (15, [(3, (0, z2)), (0, (1, 275)), (1, (0, x)), (2, (0, y))], [(0, x), (0, z2), (1, 328)], w)) eAlk 2 rfl ?_
  refine e_Pn.ast eAlk rfl rfl rfl (fun b3 b4 => ?_)
  generalize hw5 : e_up w 328 z2 x = w5
  have q6 : mfr w w5 := mfr.up mfr.r hw5 (by unfold mEm; omega)
  refine e_Pn.run (t' := (17, [(3, (0, z2)), (0, (1, 275)), (1, (0, x)), (2, (0, y))], [(1, 275)], w5)) eAlk 1 rfl ?_
  refine e_Pn.getr (z := 329) eAlk rfl rfl (q6.rf hR (66, 329) (by decide)) (by omega) ?_
  refine e_Pn.run (t' := (22, [(3, (0, z2)), (0, (1, 275)), (1, (0, x)), (2, (0, y))], [(0, y), (0, z2), (1, 329)], w5)) eAlk 2 rfl ?_
  refine e_Pn.ast eAlk rfl rfl rfl (fun b7 b8 => ?_)
  generalize hw9 : e_up w5 329 z2 y = w9
  have q10 : mfr w w9 := mfr.up q6 hw9 (by unfold mEm; omega)
  refine e_Pn.run (t' := (24, [(3, (0, z2)), (0, (1, 275)), (1, (0, x)), (2, (0, y))], [(1, 275)], w9)) eAlk 1 rfl ?_
  refine e_Pn.getr (z := 330) eAlk rfl rfl (q10.rf hR (67, 330) (by decide)) (by omega) ?_
  refine e_Pn.run (t' := (29, [(3, (0, z2)), (0, (1, 275)), (1, (0, x)), (2, (0, y))], [(1, 275), (0, z2), (1, 330)], w9)) eAlk 2 rfl ?_
  refine e_Pn.getf (z := w9 275 81) eAlk rfl rfl rfl (fun b11 => ?_)
  refine e_Pn.ast eAlk rfl rfl rfl (fun b12 b13 => ?_)
  generalize hw14 : e_up w9 330 z2 (w9 275 81) = w14
  have q15 : mfr w w14 := mfr.up q10 hw14 (by unfold mEm; omega)
  refine e_Pn.run (t' := (35, [(3, (0, z2)), (0, (1, 275)), (1, (0, x)), (2, (0, y))], [(1, 275), (1, 275)], w14)) eAlk 2 rfl ?_
  refine e_Pn.getf (z := w14 275 78) eAlk rfl rfl rfl (fun b16 => ?_)
  refine e_Pn.run (t' := (39, [(3, (0, z2)), (0, (1, 275)), (1, (0, x)), (2, (0, y))], [(0, 1), (0, w14 275 78), (1, 275)], w14)) eAlk 1 rfl ?_
  refine e_Pn.bin0 eAlk rfl (fun z17 hz17 => ?_)
  refine e_Pn.putf eAlk rfl rfl ?_
  generalize hw18 : e_up w14 275 78 z17 = w18
  have q19 : mfr w w18 := mfr.up q15 hw18 (by unfold mEm; omega)
  refine e_Pn.run (t' := (44, [(3, (0, z2)), (0, (1, 275)), (1, (0, x)), (2, (0, y))], [(1, 275)], w18)) eAlk 1 rfl ?_
  refine e_Pn.getf (z := w18 275 78) eAlk rfl rfl rfl (fun b20 => ?_)
  refine e_Pn.run (t' := (48, [(3, (0, z2)), (0, (1, 275)), (1, (0, x)), (2, (0, y))], [(0, 1), (0, w18 275 78)], w18)) eAlk 1 rfl ?_
  refine e_Pn.bin0 eAlk rfl (fun z21 hz21 => ?_)
  exact e_Pn.ret1 rfl ⟨⟨_, rfl⟩, q19⟩
theorem x_337 {n d : Nat} {w : eW} (hR : mRw w) {x : Int} : e_Pn 20 elay ecode eI n d 337 (0, [(0, (1, 275)), (1, (0, x))], [], w) (fun r w' => r = [] ∧ mfr w w') := by
  refine e_Pn.run (t' := (1, [(0, (1, 275)), (1, (0, x))], [(1, 275)], w)) eAlk 1 rfl ?_
  refine e_Pn.getr (z := 329) eAlk rfl rfl (mfr.r.rf hR (66, 329) (by decide)) (by omega) ?_
  refine e_Pn.run (t' := (8, [(0, (1, 275)), (1, (0, x))], [(0, x), (0, 40000), (1, 329)], w)) eAlk 2 rfl ?_
  refine e_Pn.bin0 eAlk rfl (fun z1 hz1 => ?_)
  refine e_Pn.run (t' := (10, [(0, (1, 275)), (1, (0, x))], [(1, 275), (0, z1), (1, 329)], w)) eAlk 1 rfl ?_
  refine e_Pn.getf (z := w 275 78) eAlk rfl rfl rfl (fun b2 => ?_)
  refine e_Pn.ast eAlk rfl rfl rfl (fun b3 b4 => ?_)
  generalize hw5 : e_up w 329 z1 (w 275 78) = w5
  have q6 : mfr w w5 := mfr.up mfr.r hw5 (by unfold mEm; omega)
  exact e_Pn.ret0 rfl ⟨rfl, q6⟩
theorem x_341 {n d : Nat} {w : eW} (hR : mRw w) {x : Int} : e_Pn 20 elay ecode eI n d 341 (0, [(0, (1, 275)), (1, (0, x))], [], w) (fun r w' => r = [] ∧ mfr w w') := by
  refine e_Pn.run (t' := (1, [(0, (1, 275)), (1, (0, x))], [(0, x)], w)) eAlk 1 rfl ?_
  refine e_Pn.if1 eAlk rfl (fun h1 => ?_) (fun h1 => ?_)
  · show e_Pn 20 elay ecode eI n d 341 (5, [(0, (1, 275)), (1, (0, x))], [], w) _
    refine e_Pn.run (t' := (9, [(0, (1, 275)), (1, (0, x))], [(0, 0), (0, 24), (1, 275)], w)) eAlk 3 rfl ?_
    refine e_Pn.callA rfl (fun n9 d9 => x_336 (mfr.r.rf hR)) (fun r3 w4 h2 => ?_)
    obtain ⟨⟨z5, rfl⟩, h2⟩ := h2
    have q6 := mfr.r.tr h2
    show e_Pn 20 elay ecode eI n d 341 (12, [(0, (1, 275)), (1, (0, x))], [(0, z5)], w4) _
    refine e_Pn.run (t' := (15, [(2, (0, x)), (0, (1, 275)), (1, (0, x))], [], w4)) eAlk 3 rfl ?_
    have hL7 : ∀ nn9 : Nat, nn9 ≤ n → ∀ (tl10 : eL) (y13 : Int) (y14 : Int) (w11 : eW), mfr w w11 → e_Pn 20 elay ecode eI nn9 d 341 (15, (0, (1, 275)) :: (1, (0, y13)) :: (2, (0, y14)) :: tl10, [], w11) (fun r w' => r = [] ∧ mfr w w') := by
      intro nn9
      induction nn9 with
      | zero => intro _ tl10 y13 y14 w11 _; exact e_Pn.zero
      | succ nn9 ih8 =>
        intro hnnn9 tl10 y13 y14 w11 q12
        refine e_Pn.runS (t' := (16, (0, (1, 275)) :: (1, (0, y13)) :: (2, (0, y14)) :: tl10, [(0, y14)], w11)) eAlk 0 rfl ?_
        refine e_Pn.if1 eAlk rfl (fun h15 => ?_) (fun h15 => ?_)
        · show e_Pn 20 elay ecode eI nn9 d 341 (40, (0, (1, 275)) :: (1, (0, y13)) :: (2, (0, y14)) :: tl10, [], w11) _
          exact e_Pn.ret0 rfl ⟨rfl, q12⟩
        · show e_Pn 20 elay ecode eI nn9 d 341 (19, (0, (1, 275)) :: (1, (0, y13)) :: (2, (0, y14)) :: tl10, [], w11) _
          refine e_Pn.run (t' := (20, (0, (1, 275)) :: (1, (0, y13)) :: (2, (0, y14)) :: tl10, [(1, 275)], w11)) eAlk 1 rfl ?_
          refine e_Pn.getr (z := 329) eAlk rfl rfl (q12.rf hR (66, 329) (by decide)) (by omega) ?_
          refine e_Pn.run (t' := (27, (0, (1, 275)) :: (1, (0, y13)) :: (2, (0, y14)) :: tl10, [(0, y14), (0, 40000), (1, 329)], w11)) eAlk 2 rfl ?_
          refine e_Pn.bin0 eAlk rfl (fun z16 hz16 => ?_)
          refine e_Pn.ald (z := w11 329 z16) eAlk rfl rfl (fun b17 b18 => ?_)
          refine e_Pn.run (t' := (32, (3, (0, w11 329 z16)) :: (0, (1, 275)) :: (1, (0, y13)) :: (2, (0, y14)) :: List.filter (e_flt 0 3) tl10, [(0, y14), (1, 275)], w11)) eAlk 3 rfl ?_
          refine e_Pn.callA rfl (fun n9 d9 => x_337 (q12.rf hR)) (fun r20 w21 h19 => ?_)
          obtain ⟨rfl, h19⟩ := h19
          have q22 := q12.tr h19
          show e_Pn 20 elay ecode eI nn9 d 341 (35, (3, (0, w11 329 z16)) :: (0, (1, 275)) :: (1, (0, y13)) :: (2, (0, y14)) :: List.filter (e_flt 0 3) tl10, [], w21) _
          refine e_Pn.run (t' := (15, (2, (0, w11 329 z16)) :: (3, (0, w11 329 z16)) :: (0, (1, 275)) :: (1, (0, y13)) :: List.filter (e_flt 0 2) (List.filter (e_flt 0 3) tl10), [], w21)) eAlk 3 rfl ?_
          exact e_Pn.ord eAlk [0, 1, 2] rfl rfl ((ih8 (by omega) _ y13 (w11 329 z16) w21 q22).le (by omega))
    exact e_Pn.ord eAlk [0, 1, 2] rfl rfl (hL7 n (Nat.le_refl _) _ x x w4 q6)
  · show e_Pn 20 elay ecode eI n d 341 (4, [(0, (1, 275)), (1, (0, x))], [], w) _
    exact e_Pn.ret0 rfl ⟨rfl, mfr.r⟩
theorem l_331 {n d : Nat} {w : eW} {x : Int} : e_Pn 20 elay ecode eI n d 331 (0, [(0, (1, 275)), (1, (0, x))], [], w) (fun r w' => ∃ z : Int, r = [(0, z)] ∧ w = w' ∧ ((z = 1 ∧ w 275 84 = 3 ∧ w 275 85 = x) ∨ (z = 0 ∧ ¬ (w 275 84 = 3 ∧ w 275 85 = x)))) := by
  refine e_Pn.run (t' := (1, [(0, (1, 275)), (1, (0, x))], [(1, 275)], w)) eAlk 1 rfl ?_
  refine e_Pn.getf (z := w 275 84) eAlk rfl rfl rfl (fun b1 => ?_)
  refine e_Pn.run (t' := (5, [(0, (1, 275)), (1, (0, x))], [(0, 3), (0, w 275 84)], w)) eAlk 1 rfl ?_
  refine e_Pn.if2 eAlk rfl (fun h2 => ?_) (fun h2 => ?_)
  · replace h2 : (w 275 84 : Int) ≠ 3 := h2
    show e_Pn 20 elay ecode eI n d 331 (20, [(0, (1, 275)), (1, (0, x))], [], w) _
    refine e_Pn.run (t' := (21, [(0, (1, 275)), (1, (0, x))], [(0, 0)], w)) eAlk 1 rfl ?_
    refine e_Pn.ret4 rfl ?_
    exact ⟨_, rfl, rfl, by first | exact Or.inl ⟨rfl, by omega, by omega⟩ | exact Or.inr ⟨rfl, by omega⟩⟩
  · replace h2 : (w 275 84 : Int) = 3 := by have q : ¬ ((w 275 84 : Int) ≠ 3) := h2; omega
    show e_Pn 20 elay ecode eI n d 331 (8, [(0, (1, 275)), (1, (0, x))], [], w) _
    refine e_Pn.run (t' := (9, [(0, (1, 275)), (1, (0, x))], [(1, 275)], w)) eAlk 1 rfl ?_
    refine e_Pn.getf (z := w 275 85) eAlk rfl rfl rfl (fun b3 => ?_)
    refine e_Pn.run (t' := (13, [(0, (1, 275)), (1, (0, x))], [(0, x), (0, w 275 85)], w)) eAlk 1 rfl ?_
    refine e_Pn.if2 eAlk rfl (fun h4 => ?_) (fun h4 => ?_)
    · replace h4 : (w 275 85 : Int) ≠ x := h4
      show e_Pn 20 elay ecode eI n d 331 (20, [(0, (1, 275)), (1, (0, x))], [], w) _
      refine e_Pn.run (t' := (21, [(0, (1, 275)), (1, (0, x))], [(0, 0)], w)) eAlk 1 rfl ?_
      refine e_Pn.ret4 rfl ?_
      exact ⟨_, rfl, rfl, by first | exact Or.inl ⟨rfl, by omega, by omega⟩ | exact Or.inr ⟨rfl, by omega⟩⟩
    · replace h4 : (w 275 85 : Int) = x := by have q : ¬ ((w 275 85 : Int) ≠ x) := h4; omega
      show e_Pn 20 elay ecode eI n d 331 (16, [(0, (1, 275)), (1, (0, x))], [], w) _
      refine e_Pn.run (t' := (21, [(0, (1, 275)), (1, (0, x))], [(0, 1)], w)) eAlk 2 rfl ?_
      refine e_Pn.ret4 rfl ?_
      exact ⟨_, rfl, rfl, by first | exact Or.inl ⟨rfl, by omega, by omega⟩ | exact Or.inr ⟨rfl, by omega⟩⟩
theorem l_332 {n d : Nat} {w : eW} {x : Int} : e_Pn 20 elay ecode eI n d 332 (0, [(0, (1, 275)), (1, (0, x))], [], w) (fun r w' => ∃ z : Int, r = [(0, z)] ∧ w = w' ∧ ((z = 1 ∧ w 275 84 = 4 ∧ w 275 85 = x) ∨ (z = 0 ∧ ¬ (w 275 84 = 4 ∧ w 275 85 = x)))) := by
  refine e_Pn.run (t' := (1, [(0, (1, 275)), (1, (0, x))], [(1, 275)], w)) eAlk 1 rfl ?_
  refine e_Pn.getf (z := w 275 84) eAlk rfl rfl rfl (fun b1 => ?_)
  refine e_Pn.run (t' := (5, [(0, (1, 275)), (1, (0, x))], [(0, 4), (0, w 275 84)], w)) eAlk 1 rfl ?_
  refine e_Pn.if2 eAlk rfl (fun h2 => ?_) (fun h2 => ?_)
  · replace h2 : (w 275 84 : Int) ≠ 4 := h2
    show e_Pn 20 elay ecode eI n d 332 (20, [(0, (1, 275)), (1, (0, x))], [], w) _
    refine e_Pn.run (t' := (21, [(0, (1, 275)), (1, (0, x))], [(0, 0)], w)) eAlk 1 rfl ?_
    refine e_Pn.ret4 rfl ?_
    exact ⟨_, rfl, rfl, by first | exact Or.inl ⟨rfl, by omega, by omega⟩ | exact Or.inr ⟨rfl, by omega⟩⟩
  · replace h2 : (w 275 84 : Int) = 4 := by have q : ¬ ((w 275 84 : Int) ≠ 4) := h2; omega
    show e_Pn 20 elay ecode eI n d 332 (8, [(0, (1, 275)), (1, (0, x))], [], w) _
    refine e_Pn.run (t' := (9, [(0, (1, 275)), (1, (0, x))], [(1, 275)], w)) eAlk 1 rfl ?_
    refine e_Pn.getf (z := w 275 85) eAlk rfl rfl rfl (fun b3 => ?_)
    refine e_Pn.run (t' := (13, [(0, (1, 275)), (1, (0, x))], [(0, x), (0, w 275 85)], w)) eAlk 1 rfl ?_
    refine e_Pn.if2 eAlk rfl (fun h4 => ?_) (fun h4 => ?_)
    · replace h4 : (w 275 85 : Int) ≠ x := h4
      show e_Pn 20 elay ecode eI n d 332 (20, [(0, (1, 275)), (1, (0, x))], [], w) _
      refine e_Pn.run (t' := (21, [(0, (1, 275)), (1, (0, x))], [(0, 0)], w)) eAlk 1 rfl ?_
      refine e_Pn.ret4 rfl ?_
      exact ⟨_, rfl, rfl, by first | exact Or.inl ⟨rfl, by omega, by omega⟩ | exact Or.inr ⟨rfl, by omega⟩⟩
    · replace h4 : (w 275 85 : Int) = x := by have q : ¬ ((w 275 85 : Int) ≠ x) := h4; omega
      show e_Pn 20 elay ecode eI n d 332 (16, [(0, (1, 275)), (1, (0, x))], [], w) _
      refine e_Pn.run (t' := (21, [(0, (1, 275)), (1, (0, x))], [(0, 1)], w)) eAlk 2 rfl ?_
      refine e_Pn.ret4 rfl ?_
      exact ⟨_, rfl, rfl, by first | exact Or.inl ⟨rfl, by omega, by omega⟩ | exact Or.inr ⟨rfl, by omega⟩⟩
theorem kM_s37 {kd nv ki wh : Int} (h : kM kd nv ki wh) : (ki = 3 ∧ wh = 37) ↔ kd = 12 := by
  unfold kM at h
  constructor <;> intro q <;> omega
theorem kM_s40 {kd nv ki wh : Int} (h : kM kd nv ki wh) : (ki = 3 ∧ wh = 40) ↔ kd = 16 := by
  unfold kM at h
  constructor <;> intro q <;> omega
theorem kM_s41 {kd nv ki wh : Int} (h : kM kd nv ki wh) : (ki = 3 ∧ wh = 41) ↔ kd = 17 := by
  unfold kM at h
  constructor <;> intro q <;> omega
theorem kM_s42 {kd nv ki wh : Int} (h : kM kd nv ki wh) : (ki = 3 ∧ wh = 42) ↔ kd = 10 := by
  unfold kM at h
  constructor <;> intro q <;> omega
theorem kM_s43 {kd nv ki wh : Int} (h : kM kd nv ki wh) : (ki = 3 ∧ wh = 43) ↔ kd = 8 := by
  unfold kM at h
  constructor <;> intro q <;> omega
theorem kM_s44 {kd nv ki wh : Int} (h : kM kd nv ki wh) : (ki = 3 ∧ wh = 44) ↔ kd = 18 := by
  unfold kM at h
  constructor <;> intro q <;> omega
theorem kM_s45 {kd nv ki wh : Int} (h : kM kd nv ki wh) : (ki = 3 ∧ wh = 45) ↔ kd = 9 := by
  unfold kM at h
  constructor <;> intro q <;> omega
theorem kM_s47 {kd nv ki wh : Int} (h : kM kd nv ki wh) : (ki = 3 ∧ wh = 47) ↔ kd = 11 := by
  unfold kM at h
  constructor <;> intro q <;> omega
theorem kM_s58 {kd nv ki wh : Int} (h : kM kd nv ki wh) : (ki = 3 ∧ wh = 58) ↔ kd = 20 := by
  unfold kM at h
  constructor <;> intro q <;> omega
theorem kM_s59 {kd nv ki wh : Int} (h : kM kd nv ki wh) : (ki = 3 ∧ wh = 59) ↔ kd = 19 := by
  unfold kM at h
  constructor <;> intro q <;> omega
theorem kM_s60 {kd nv ki wh : Int} (h : kM kd nv ki wh) : (ki = 3 ∧ wh = 60) ↔ kd = 14 := by
  unfold kM at h
  constructor <;> intro q <;> omega
theorem kM_s61 {kd nv ki wh : Int} (h : kM kd nv ki wh) : (ki = 3 ∧ wh = 61) ↔ kd = 13 := by
  unfold kM at h
  constructor <;> intro q <;> omega
theorem kM_s62 {kd nv ki wh : Int} (h : kM kd nv ki wh) : (ki = 3 ∧ wh = 62) ↔ kd = 15 := by
  unfold kM at h
  constructor <;> intro q <;> omega
theorem kM_s103 {kd nv ki wh : Int} (h : kM kd nv ki wh) : (ki = 3 ∧ wh = 103) ↔ kd = 7 := by
  unfold kM at h
  constructor <;> intro q <;> omega
theorem kM_s108 {kd nv ki wh : Int} (h : kM kd nv ki wh) : (ki = 3 ∧ wh = 108) ↔ kd = 6 := by
  unfold kM at h
  constructor <;> intro q <;> omega
theorem kM_s110 {kd nv ki wh : Int} (h : kM kd nv ki wh) : (ki = 3 ∧ wh = 110) ↔ kd = 5 := by
  unfold kM at h
  constructor <;> intro q <;> omega
theorem kM_key {kd nv ki wh k : Int} (h : kM kd nv ki wh) (hk : 0 ≤ k ∧ k ≤ 32) : (ki = 4 ∧ wh = k) ↔ kd = 21 + k := by
  unfold kM at h
  constructor <;> intro q <;> omega
theorem isS {c ki wh b kd K ki' wh' z : Int} (h : (ki = c ∧ wh = b) ↔ kd = K) (e1 : ki' = ki) (e2 : wh' = wh) (hz : (z = 1 ∧ ki' = c ∧ wh' = b) ∨ (z = 0 ∧ ¬ (ki' = c ∧ wh' = b))) : (z = 1 ∧ kd = K) ∨ (z = 0 ∧ kd ≠ K) := by
  subst e1 e2
  rcases hz with ⟨h1, h2⟩ | ⟨h1, h2⟩
  · exact Or.inl ⟨h1, h.mp h2⟩
  · exact Or.inr ⟨h1, fun q => h2 (h.mpr q)⟩
def tkL : List (Int × Int × Int) := [(5, 3, 110), (6, 3, 108), (7, 3, 103), (8, 3, 43), (9, 3, 45), (10, 3, 42), (11, 3, 47), (12, 3, 37), (13, 3, 61), (14, 3, 60), (15, 3, 62), (16, 3, 40), (17, 3, 41), (18, 3, 44), (19, 3, 59), (20, 3, 58), (21, 4, 0), (22, 4, 1), (23, 4, 2), (24, 4, 3), (25, 4, 4), (26, 4, 5), (27, 4, 6), (28, 4, 7), (29, 4, 8), (30, 4, 9), (31, 4, 10), (32, 4, 11), (33, 4, 12), (34, 4, 13), (35, 4, 14), (36, 4, 15), (37, 4, 16), (38, 4, 17), (39, 4, 18), (40, 4, 19), (41, 4, 20), (42, 4, 21), (43, 4, 22), (44, 4, 23), (45, 4, 24), (46, 4, 25), (47, 4, 26), (48, 4, 27), (49, 4, 28), (50, 4, 29), (51, 4, 30), (52, 4, 31), (53, 4, 32)]
def tkS0 : List (Int × Int) := [(0, 0), (1, 1), (2, 2), (3, 5)]
theorem kM_cs {kd nv ki wh : Int} (h : kM kd nv ki wh) : (kd, ki) ∈ tkS0 ∨ (kd, ki, wh) ∈ tkL := by
  rcases h with ⟨rfl, rfl⟩ | ⟨rfl, rfl⟩ | ⟨rfl, rfl, -⟩ | ⟨rfl, rfl⟩ | ⟨rfl, h⟩ | ⟨⟨h1, h2⟩, rfl, h3⟩
  · exact Or.inl (by decide)
  · exact Or.inl (by decide)
  · exact Or.inl (by decide)
  · exact Or.inl (by decide)
  · right
    rcases h with ⟨rfl, rfl⟩ | ⟨rfl, rfl⟩ | ⟨rfl, rfl⟩ | ⟨rfl, rfl⟩ | ⟨rfl, rfl⟩ | ⟨rfl, rfl⟩ | ⟨rfl, rfl⟩ | ⟨rfl, rfl⟩ | ⟨rfl, rfl⟩ | ⟨rfl, rfl⟩ | ⟨rfl, rfl⟩ | ⟨rfl, rfl⟩ | ⟨rfl, rfl⟩ | ⟨rfl, rfl⟩ | ⟨rfl, rfl⟩ | ⟨rfl, rfl⟩ <;> decide
  · right
    have d : ∀ n : Nat, n < 33 → (((n : Int) + 21, (4 : Int), (n : Int)) ∈ tkL) := by decide
    have := d (kd - 21).toNat (by omega)
    rw [show (((kd - 21).toNat : Nat) : Int) = kd - 21 by omega, show kd - 21 + 21 = kd by omega] at this
    rw [h3]
    exact this
/-- a way that no token goes -/
theorem kM_no {kd nv ki wh : Int} (h : kM kd nv ki wh) (P : Int → Int → Bool) (R : Int → Int → Int → Bool) (h0 : tkS0.all (fun t => !(P t.1 t.2)) = true) (h1 : tkL.all (fun t => !(P t.1 t.2.1 && R t.1 t.2.1 t.2.2)) = true) (p : P kd ki = true) (r : R kd ki wh = true) : False := by
  rcases kM_cs h with q | q
  · have := List.all_eq_true.mp h0 _ q
    simp only [p] at this
    exact absurd this (by decide)
  · have := List.all_eq_true.mp h1 _ q
    simp only [p, r] at this
    exact absurd this (by decide)
theorem kRw.em {cd : Int} {w w' : eW} (h : kRw cd w) (f : e_fr (kEm cd) w w') : kRw cd w' := by
  have n := h.1.m
  exact kRw.fr2 f (fun k q => by unfold kEm at q; omega) (fun k q => by unfold kEm at q; omega) h
theorem kRw.gs {cd : Int} {w w' : eW} (h : kRw cd w) (f : e_fr (kGs cd) w w') : kRw cd w' := by
  have n := h.1.m
  exact kRw.fr2 f (fun k q => by unfold kGs at q; omega) (fun k q => by unfold kGs at q; omega) h
theorem kRw.rc {cd : Int} {w w' : eW} (h : kRw cd w) (f : e_fr kRc w w') : kRw cd w' := by
  have n := h.1.m
  exact kRw.fr2 f (fun k q => by unfold kRc at q; omega) (fun k q => by unfold kRc at q; omega) h
theorem cplQ.fr {w w' : eW} {n x : Int} (h : cplQ w w' n x) : e_fr kRc w w' := by
  rcases h with ⟨-, h⟩ | ⟨-, -, h⟩
  · subst h
    exact e_fr.up (e_fr.up (e_fr.refl w) rfl (by unfold kRc; omega)) rfl (by unfold kRc; omega)
  · subst h
    exact e_fr.refl w
theorem usQ.fr {w w' : eW} {z z' x : Int} (h : (z' = -1 ∧ z = 0 ∧ cplQ w w' 5 x) ∨ (0 ≤ z' ∧ z = z' ∧ w = w')) : e_fr kRc w w' := by
  rcases h with ⟨-, -, h⟩ | ⟨-, -, h⟩
  · exact h.fr
  · subst h
    exact e_fr.refl w
theorem usQ.c {w w' : eW} {z z' x : Int} (h : (z' = -1 ∧ z = 0 ∧ cplQ w w' 5 x) ∨ (0 ≤ z' ∧ z = z' ∧ w = w')) : (z' = -1 ∧ cplQ w w' 5 x) ∨ (0 ≤ z' ∧ w = w') := by
  rcases h with ⟨h1, -, h⟩ | ⟨h1, -, h⟩
  · exact Or.inl ⟨h1, h⟩
  · exact Or.inr ⟨h1, h⟩
theorem usQ.r {T : Int → Int} {N n x : Int} {f : Int → Int} {w w' : eW} {z z' y : Int} (hf : fndQ T N f n x z') (h : (z' = -1 ∧ z = 0 ∧ cplQ w w' 5 y) ∨ (0 ≤ z' ∧ z = z' ∧ w = w')) (hn : n ≤ 32) : 0 ≤ z ∧ z ≤ 31 := by
  rcases h with ⟨-, h, -⟩ | ⟨h1, h, -⟩
  · omega
  · rcases hf with ⟨hf, -⟩ | ⟨f1, f2, -⟩ <;> omega

theorem t_129b {N : Int} {w v : eW} (hA : rpA N w v) (hK : rpK N w v) {k z : Int} (hz : (z = 1 ∧ w 1 5 = k) ∨ (z = 0 ∧ w 1 5 ≠ k)) {n d d' : Nat} {r' : List eV} {v' : eW} (hM : e_Rn 20 elay ecode eI d' 334 (0, [(0, (1, 275)), (1, (0, z))], [], v) r' v') : e_Pn 20 elay kcode eI n d 129 (0, [(0, (1, 1)), (1, (0, k))], [], w) (fun r w' => r = [] ∧ r' = [] ∧ ((w 1 5 = k ∧ TK N w v w' v') ∨ rpF w' v')) := by
  have hf := hK.1
  refine e_Pn.run (t' := (1, [(0, (1, 1)), (1, (0, k))], [(1, 1)], w)) kAlk 1 rfl ?_
  refine e_Pn.getf (z := w 1 5) kAlk rfl rfl rfl (fun b1 => ?_)
  refine e_Pn.run (t' := (5, [(0, (1, 1)), (1, (0, k))], [(0, k), (0, w 1 5)], w)) kAlk 1 rfl ?_
  refine e_Pn.if2 kAlk rfl (fun h2 => ?_) (fun h2 => ?_)
  · replace h2 : (w 1 5 : Int) ≠ k := h2
    refine e_Pn.run (t' := (16, [(0, (1, 1)), (1, (0, k))], [(1, 1)], w)) kAlk 1 rfl ?_
    replace hM := hM.st (t' := (1, [(0, (1, 275)), (1, (0, z))], [(1, 275)], v)) (fun _ _ q => e_Pn.run eAlk 1 rfl q)
    obtain ⟨b3, hM⟩ := hM.of (fun _ _ q => e_Pn.getf (z := 0) eAlk rfl rfl hf.2 q)
    rcases hM.or (fun _ _ q1 q2 => e_Pn.if1 eAlk rfl q1 q2) with ⟨h4, hM⟩ | ⟨h4, hM⟩
    · replace h4 : (0 : Int) = 0 := h4
      replace hM := hM.st (t' := (9, [(0, (1, 275)), (1, (0, z))], [(0, z)], v)) (fun _ _ q => e_Pn.run eAlk 1 rfl q)
      rcases hM.or (fun _ _ q1 q2 => e_Pn.if1 eAlk rfl q1 q2) with ⟨h5, hM⟩ | ⟨h5, hM⟩
      · replace h5 : (z : Int) = 0 := h5
        replace hM := hM.st (t' := (21, [(0, (1, 275)), (1, (0, z))], [(0, 2), (1, 275)], v)) (fun _ _ q => e_Pn.run eAlk 2 rfl q)
        obtain ⟨dc6, r7, v8, hc9, hM⟩ := hM.ca rfl
        refine e_Pn.callA rfl (fun nq dq => t_130 hK (by decide) (d' := dc6) hc9) (fun r10 w11 h12 => ?_)
        obtain ⟨rfl, rfl, q13F⟩ := h12
        show e_Pn 20 elay kcode eI n d 129 (19, [(0, (1, 1)), (1, (0, k))], [], w11) _
        replace hM : e_Rn 20 elay ecode eI d' 334 (24, [(0, (1, 275)), (1, (0, z))], [], v8) r' v' := hM
        obtain ⟨rfl, rfl⟩ := hM.re0 rfl
        refine e_Pn.ret0 rfl ?_
        exact ⟨rfl, rfl, Or.inr q13F⟩
      · replace h5 : (z : Int) ≠ 0 := by have q : ¬ ((z : Int) = 0) := h5; omega
        replace hM := hM.st (t' := (13, [(0, (1, 275)), (1, (0, z))], [(1, 275)], v)) (fun _ _ q => e_Pn.run eAlk 1 rfl q)
        exfalso; omega
    · replace h4 : (0 : Int) ≠ 0 := by have q : ¬ ((0 : Int) = 0) := h4; omega
      exfalso; omega
  · replace h2 : (w 1 5 : Int) = k := by have q : ¬ ((w 1 5 : Int) ≠ k) := h2; omega
    refine e_Pn.run (t' := (9, [(0, (1, 1)), (1, (0, k))], [(1, 1)], w)) kAlk 1 rfl ?_
    replace hM := hM.st (t' := (1, [(0, (1, 275)), (1, (0, z))], [(1, 275)], v)) (fun _ _ q => e_Pn.run eAlk 1 rfl q)
    obtain ⟨b14, hM⟩ := hM.of (fun _ _ q => e_Pn.getf (z := 0) eAlk rfl rfl hf.2 q)
    rcases hM.or (fun _ _ q1 q2 => e_Pn.if1 eAlk rfl q1 q2) with ⟨h15, hM⟩ | ⟨h15, hM⟩
    · replace h15 : (0 : Int) = 0 := h15
      replace hM := hM.st (t' := (9, [(0, (1, 275)), (1, (0, z))], [(0, z)], v)) (fun _ _ q => e_Pn.run eAlk 1 rfl q)
      rcases hM.or (fun _ _ q1 q2 => e_Pn.if1 eAlk rfl q1 q2) with ⟨h16, hM⟩ | ⟨h16, hM⟩
      · replace h16 : (z : Int) = 0 := h16
        replace hM := hM.st (t' := (21, [(0, (1, 275)), (1, (0, z))], [(0, 2), (1, 275)], v)) (fun _ _ q => e_Pn.run eAlk 2 rfl q)
        exfalso; omega
      · replace h16 : (z : Int) ≠ 0 := by have q : ¬ ((z : Int) = 0) := h16; omega
        replace hM := hM.st (t' := (13, [(0, (1, 275)), (1, (0, z))], [(1, 275)], v)) (fun _ _ q => e_Pn.run eAlk 1 rfl q)
        obtain ⟨dc17, r18, v19, hc20, hM⟩ := hM.ca rfl
        refine e_Pn.callA rfl (fun nq dq => t_123b hA hK.1 hK.2.1.2.1 (by have q9 := hK.2.1; omega) (d' := dc17) hc20) (fun r21 w22 h23 => ?_)
        obtain ⟨rfl, rfl, q24T⟩ := h23
        show e_Pn 20 elay kcode eI n d 129 (12, [(0, (1, 1)), (1, (0, k))], [], w22) _
        replace hM : e_Rn 20 elay ecode eI d' 334 (16, [(0, (1, 275)), (1, (0, z))], [], v19) r' v' := hM
        refine e_Pn.run (t' := (19, [(0, (1, 1)), (1, (0, k))], [], w22)) kAlk 1 rfl ?_
        replace hM := hM.st (t' := (24, [(0, (1, 275)), (1, (0, z))], [], v19)) (fun _ _ q => e_Pn.run eAlk 1 rfl q)
        obtain ⟨rfl, rfl⟩ := hM.re0 rfl
        refine e_Pn.ret0 rfl ?_
        exact ⟨rfl, rfl, Or.inl ⟨by omega, q24T⟩⟩
    · replace h15 : (0 : Int) ≠ 0 := by have q : ¬ ((0 : Int) = 0) := h15; omega
      exfalso; omega
end
