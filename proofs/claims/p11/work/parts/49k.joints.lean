noncomputable section
/-! the model: countJoints, over the table without macros, and its macro -/
/-- where a method ends -/
def e_rtP (N : Nat) (g : Nat → eE) : Prop := ∀ pc f k b, g pc = (1, f, k, b) → pc = N ∧ k = 0
theorem e_rtP.T {N k : Nat} {a b : Nat → eE} (ha : e_rtP N a) (hb : e_rtP N b) : e_rtP N (e_T k a b) := fun pc f k' b' h => by
  unfold e_T at h
  cases hk : Nat.ble pc k with
  | true => rw [hk] at h; exact ha pc f k' b' h
  | false => rw [hk] at h; exact hb pc f k' b' h
theorem e_rtP.L0 {N k x y : Nat} {f : eS → Option eS} : e_rtP N (e_L k (0, f, x, y)) := fun pc f' k' b' h => by
  unfold e_L at h
  cases hk : Nat.beq pc k with
  | true => rw [hk] at h; cases h
  | false => rw [hk] at h; cases h
theorem e_rtP.L2 {N k x y : Nat} {f : eS → Option eS} : e_rtP N (e_L k (2, f, x, y)) := fun pc f' k' b' h => by
  unfold e_L at h
  cases hk : Nat.beq pc k with
  | true => rw [hk] at h; cases h
  | false => rw [hk] at h; cases h
theorem e_rtP.L1 {N y : Nat} {f : eS → Option eS} : e_rtP N (e_L N (1, f, 0, y)) := fun pc f' k' b' h => by
  unfold e_L at h
  cases hk : Nat.beq pc N with
  | true => rw [hk] at h; cases h; exact ⟨Nat.eq_of_beq_eq_true hk, rfl⟩
  | false => rw [hk] at h; cases h
theorem b403_ret : e_rtP 185 (code1 403) := show e_rtP 185 te_403 from (e_rtP.T (e_rtP.T (show e_rtP 185 te_403_0 from (e_rtP.T (e_rtP.T (e_rtP.T (e_rtP.T e_rtP.L0 (e_rtP.T e_rtP.L0 e_rtP.L0)) (e_rtP.T e_rtP.L0 (e_rtP.T e_rtP.L0 e_rtP.L0))) (e_rtP.T (e_rtP.T e_rtP.L0 (e_rtP.T e_rtP.L0 e_rtP.L0)) (e_rtP.T (e_rtP.T e_rtP.L0 e_rtP.L0) (e_rtP.T e_rtP.L0 e_rtP.L0)))) (e_rtP.T (e_rtP.T (e_rtP.T e_rtP.L0 (e_rtP.T e_rtP.L0 e_rtP.L0)) (e_rtP.T (e_rtP.T e_rtP.L0 e_rtP.L0) (e_rtP.T e_rtP.L0 e_rtP.L0))) (e_rtP.T (e_rtP.T e_rtP.L0 (e_rtP.T e_rtP.L0 e_rtP.L0)) (e_rtP.T (e_rtP.T e_rtP.L2 e_rtP.L0) (e_rtP.T e_rtP.L0 e_rtP.L0)))))) (show e_rtP 185 te_403_27 from (e_rtP.T (e_rtP.T (e_rtP.T (e_rtP.T e_rtP.L0 (e_rtP.T e_rtP.L0 e_rtP.L0)) (e_rtP.T e_rtP.L0 (e_rtP.T e_rtP.L0 e_rtP.L0))) (e_rtP.T (e_rtP.T e_rtP.L0 (e_rtP.T e_rtP.L0 e_rtP.L0)) (e_rtP.T (e_rtP.T e_rtP.L0 e_rtP.L0) (e_rtP.T e_rtP.L0 e_rtP.L0)))) (e_rtP.T (e_rtP.T (e_rtP.T e_rtP.L0 (e_rtP.T e_rtP.L0 e_rtP.L0)) (e_rtP.T (e_rtP.T e_rtP.L0 e_rtP.L0) (e_rtP.T e_rtP.L0 e_rtP.L0))) (e_rtP.T (e_rtP.T e_rtP.L0 (e_rtP.T e_rtP.L0 e_rtP.L0)) (e_rtP.T (e_rtP.T e_rtP.L0 e_rtP.L0) (e_rtP.T e_rtP.L2 e_rtP.L0))))))) (e_rtP.T (show e_rtP 185 te_403_54 from (e_rtP.T (e_rtP.T (e_rtP.T (e_rtP.T e_rtP.L0 (e_rtP.T e_rtP.L0 e_rtP.L0)) (e_rtP.T e_rtP.L0 (e_rtP.T e_rtP.L0 e_rtP.L0))) (e_rtP.T (e_rtP.T e_rtP.L0 (e_rtP.T e_rtP.L0 e_rtP.L0)) (e_rtP.T (e_rtP.T e_rtP.L0 e_rtP.L0) (e_rtP.T e_rtP.L0 e_rtP.L0)))) (e_rtP.T (e_rtP.T (e_rtP.T e_rtP.L2 (e_rtP.T e_rtP.L0 e_rtP.L0)) (e_rtP.T (e_rtP.T e_rtP.L0 e_rtP.L0) (e_rtP.T e_rtP.L0 e_rtP.L0))) (e_rtP.T (e_rtP.T e_rtP.L0 (e_rtP.T e_rtP.L0 e_rtP.L0)) (e_rtP.T (e_rtP.T e_rtP.L0 e_rtP.L2) (e_rtP.T e_rtP.L0 e_rtP.L0)))))) (show e_rtP 185 te_403_81 from (e_rtP.T (e_rtP.T (e_rtP.T (e_rtP.T e_rtP.L0 (e_rtP.T e_rtP.L0 e_rtP.L0)) (e_rtP.T e_rtP.L0 (e_rtP.T e_rtP.L0 e_rtP.L0))) (e_rtP.T (e_rtP.T e_rtP.L0 (e_rtP.T e_rtP.L0 e_rtP.L0)) (e_rtP.T (e_rtP.T e_rtP.L0 e_rtP.L0) (e_rtP.T e_rtP.L0 e_rtP.L0)))) (e_rtP.T (e_rtP.T (e_rtP.T e_rtP.L0 (e_rtP.T e_rtP.L2 e_rtP.L0)) (e_rtP.T (e_rtP.T e_rtP.L0 e_rtP.L0) (e_rtP.T e_rtP.L0 e_rtP.L0))) (e_rtP.T (e_rtP.T e_rtP.L0 (e_rtP.T e_rtP.L2 e_rtP.L0)) (e_rtP.T (e_rtP.T e_rtP.L0 e_rtP.L0) (e_rtP.T e_rtP.L0 e_rtP.L1))))))))
theorem e_Good.two {ft : Nat → Nat → Nat} {cl : List vw_C} {lay : List eY} {ad : List Nat} {ce sl nL : Nat} {p : Program} {l : Launch} {e : Env} {R : Room} {s : State} {m : MethodId} {args : Array Value} {below : List Frame} {meth : Method} {c : Code} {D : va_G} {A : Nat → Prop} {H0 : Heap} {Q : State → Prop} {pc : Nat} {l' : eL} {st : List eV} {w : eW} {a b : eV} (h0 : e_find l' 0 = some a) (h1 : e_find l' 1 = some b) (h : e_Good ft cl lay ad ce sl nL p l e R s m args below meth c D A H0 Q (pc, [(0, a), (1, b)], st, w)) : e_Good ft cl lay ad ce sl nL p l e R s m args below meth c D A H0 Q (pc, l', st, w) := fun ls stk H locs hI => by
  obtain ⟨lv, ws, tys, k1, k2, k3⟩ := hI
  obtain ⟨i0, v0, e0, r0⟩ := e_find_ok k2 h0
  obtain ⟨i1, v1, e1, r1⟩ := e_find_ok k2 h1
  refine h ls stk H locs ⟨[(0, v0), (1, v1)], ws, tys, ⟨k1.1, k1.2.1, fun q hq => ?_⟩, ⟨⟨rfl, r0⟩, ⟨rfl, r1⟩, trivial⟩, k3⟩
  rcases List.mem_cons.mp hq with rfl | hq
  · exact k1.2.2 _ (List.mem_of_getElem? e0)
  · rcases List.mem_cons.mp hq with rfl | hq
    · exact k1.2.2 _ (List.mem_of_getElem? e1)
    · exact absurd hq List.not_mem_nil
theorem kn1.fr80 {w v : eW} (h : kn1 (w 275 6)) (f : e_fr kC80 w v) : kn1 (v 275 6) := by
  rw [f 275 6 (by unfold kC80; omega)]
  exact h
theorem e_Has.c80 {w v : eW} (h : e_Has mTy w) (f : e_fr kC80 w v) : e_Has mTy v := e_Has.fr (fun c k q => by unfold kC80 at q; rw [q]; rfl) f h
theorem b_266 {d : Nat} {w : eW} {v lo hi : Int} : e_Ok 1 elay code1 eI d 266 (0, [(0, (4, v)), (2, (4, lo)), (4, (4, hi))], [], w) (fun r w' => ∃ z : Int, r = [(0, z)] ∧ w = w' ∧ ((z = 1 ∧ lo ≤ v ∧ v ≤ hi) ∨ (z = 0 ∧ (v < lo ∨ hi < v)))) := by
  refine e_Ok.run (t' := (2, [(0, (4, v)), (2, (4, lo)), (4, (4, hi))], [(4, lo), (4, v)], w)) 2 rfl ?_
  refine e_Ok.lcmp rfl (fun z1 z1a z1b z1c => ?_)
  refine e_Ok.if1 rfl (fun h2 => ?_) (fun h2 => ?_)
  · replace h2 : (z1 : Int) < 0 := h2
    refine e_Ok.run (t' := (18, [(0, (4, v)), (2, (4, lo)), (4, (4, hi))], [(0, 0)], w)) 1 rfl ?_
    refine e_Ok.rets rfl rfl ?_
    exact ⟨_, rfl, rfl, Or.inr ⟨rfl, by omega⟩⟩
  · replace h2 : (z1 : Int) ≥ 0 := by have q : ¬ ((z1 : Int) < 0) := h2; omega
    refine e_Ok.run (t' := (9, [(0, (4, v)), (2, (4, lo)), (4, (4, hi))], [(4, hi), (4, v)], w)) 2 rfl ?_
    refine e_Ok.lcmp rfl (fun z3 z3a z3b z3c => ?_)
    refine e_Ok.if1 rfl (fun h4 => ?_) (fun h4 => ?_)
    · replace h4 : (z3 : Int) > 0 := h4
      refine e_Ok.run (t' := (18, [(0, (4, v)), (2, (4, lo)), (4, (4, hi))], [(0, 0)], w)) 1 rfl ?_
      refine e_Ok.rets rfl rfl ?_
      exact ⟨_, rfl, rfl, Or.inr ⟨rfl, by omega⟩⟩
    · replace h4 : (z3 : Int) ≤ 0 := by have q : ¬ ((z3 : Int) > 0) := h4; omega
      refine e_Ok.run (t' := (18, [(0, (4, v)), (2, (4, lo)), (4, (4, hi))], [(0, 1)], w)) 2 rfl ?_
      refine e_Ok.rets rfl rfl ?_
      exact ⟨_, rfl, rfl, Or.inl ⟨rfl, by omega, by omega⟩⟩
theorem b_268 {d : Nat} {w : eW} {a : Int} (h : 0 ≤ a ∧ a ≤ 100) : e_Ok 1 elay code1 eI d 268 (0, [(0, (0, a))], [], w) (fun r w' => r = [(0, 36 * a + 16)] ∧ w = w') := by
  refine e_Ok.run (t' := (5, [(0, (0, a))], [(0, a), (0, 36), (0, 16)], w)) 3 rfl ?_
  refine e_Ok.mul (z := 36 * a) rfl (by omega) (by omega) ?_
  refine e_Ok.add (z := 36 * a + 16) rfl (by omega) (by omega) ?_
  refine e_Ok.rets rfl rfl ?_
  exact ⟨rfl, rfl⟩
theorem g_389z {G : eS → Prop} {l : eL} (hS : e_GS code1 389 G) {w : eW} {x y : Int} (gx : 0 ≤ x ∧ x ≤ 3) (h7 : w 275 7 = 280) (hz : e_kn w 280 0 3) (ha : kn1 (w 275 6)) (hL0 : e_find l 0 = some (1, 275)) (hL1 : e_find l 1 = some (0, x)) (hL2 : e_find l 2 = some (0, y)) (hK : ∀ u1, e_fr kC80 w u1 → e_kn u1 280 0 3 → G (25, l, [], u1)) : G (0, l, [], w) := by
  have hn := hz x gx.1 gx.2
  unfold kn1 at ha
  refine e_GS.load hS hL0 rfl rfl ?_
  refine e_GS.getr hS (z := 280) rfl rfl rfl rfl h7 (by omega) ?_
  refine e_GS.load hS hL1 rfl rfl ?_
  refine e_GS.run hS (t' := (6, l, [(0, x), (1, 280), (0, x), (1, 280)], w)) 1 rfl ?_
  refine e_GS.ald hS (z := w 280 x) rfl rfl rfl (by omega) rfl (by omega) ?_
  refine e_GS.load hS hL2 rfl rfl ?_
  refine e_GS.if1 hS rfl (fun h1 => ?_) (fun h1 => ?_)
  · replace h1 : (y : Int) = 0 := h1
    refine e_GS.run hS (t' := (23, l, [(0, 0), (0, w 280 x), (0, x), (1, 280)], w)) 1 rfl ?_
    refine e_GS.add hS (z := w 280 x) rfl (by omega) (by omega) ?_
    refine e_GS.ast hS rfl rfl rfl rfl (by omega) ?_
    generalize hw2 : e_up w 280 x (w 280 x) = w2
    have f3 : e_fr kC80 w w2 := e_fr.up (e_fr.refl w) hw2 (by unfold kC80; omega)
    exact hK _ f3 (e_kn.upd hz hw2 (by omega))
  · replace h1 : (y : Int) ≠ 0 := by have q : ¬ ((y : Int) = 0) := h1; omega
    refine e_GS.load hS hL0 rfl rfl ?_
    refine e_GS.getf hS (z := w 275 6) rfl rfl rfl rfl rfl (by omega) ?_
    refine e_GS.if1 hS rfl (fun h4 => ?_) (fun h4 => ?_)
    · replace h4 : (w 275 6 : Int) ≠ 0 := h4
      refine e_GS.run hS (t' := (23, l, [(0, 0), (0, w 280 x), (0, x), (1, 280)], w)) 1 rfl ?_
      refine e_GS.add hS (z := w 280 x) rfl (by omega) (by omega) ?_
      refine e_GS.ast hS rfl rfl rfl rfl (by omega) ?_
      generalize hw5 : e_up w 280 x (w 280 x) = w5
      have f6 : e_fr kC80 w w5 := e_fr.up (e_fr.refl w) hw5 (by unfold kC80; omega)
      exact hK _ f6 (e_kn.upd hz hw5 (by omega))
    · replace h4 : (w 275 6 : Int) = 0 := by have q : ¬ ((w 275 6 : Int) ≠ 0) := h4; omega
      refine e_GS.run hS (t' := (23, l, [(0, 1), (0, w 280 x), (0, x), (1, 280)], w)) 2 rfl ?_
      refine e_GS.any hS rfl (eF_add_any _ _) (fun z7 z7a z7b => ?_)
      refine e_GS.ast hS rfl rfl rfl rfl (by omega) ?_
      generalize hw8 : e_up w 280 x z7 = w8
      have f9 : e_fr kC80 w w8 := e_fr.up (e_fr.refl w) hw8 (by unfold kC80; omega)
      exact hK _ f9 (e_kn.upd hz hw8 (by omega))
theorem b_389 {d : Nat} {w : eW} (hT : e_Has mTy w) {x y : Int} (hx : 0 ≤ x ∧ x ≤ 3) (hz : e_kn w 280 0 3) (h6 : kn1 (w 275 6)) : e_Ok 1 elay code1 eI d 389 (0, [(0, (1, 275)), (1, (0, x)), (2, (0, y))], [], w) (fun r w' => r = [] ∧ e_fr kC80 w w' ∧ e_Has mTy w' ∧ e_kn w' 280 0 3) := by
  refine g_389z (G := fun t => e_Ok 1 elay code1 eI d 389 t _) (fun t t' f a b hc hf h => e_Ok.step hc hf h) hx (e_Has.eq hT rfl) hz h6 rfl rfl rfl (fun u1 f1 z1 => ?_)
  exact e_Ok.rets rfl rfl ⟨rfl, f1, e_Has.c80 hT f1, z1⟩
set_option maxHeartbeats 4000000 in
theorem b_403 {d : Nat} (hd : 4 ≤ d) {w : eW} (hT : e_Has mTy w) {y : Int} (hk : e_kn w 346 0 23) (hz : e_kn w 280 0 3) (h6 : kn1 (w 275 6)) : e_Ok 1 elay code1 eI d 403 (0, [(0, (1, 275)), (1, (0, y))], [], w) (fun r w' => r = [] ∧ e_fr kC80 w w') := by
  obtain ⟨d, rfl⟩ : ∃ e, d = e + 1 := ⟨d - 1, by omega⟩
  refine e_Ok.run (t' := (2, [(2, (0, 0)), (0, (1, 275)), (1, (0, y))], [], w)) 2 rfl ?_
  have hL1 : ∀ (nn : Nat) (y2 : Int) (v1 : eW), e_fr kC80 w v1 ∧ e_Has mTy v1 ∧ (0 ≤ y2 ∧ y2 ≤ 4) ∧ e_kn v1 280 0 3 → 5 - y2 < nn → e_Ok 1 elay code1 eI (d + 1) 403 (2, [(0, (1, 275)), (1, (0, y)), (2, (0, y2))], [], v1) (fun r w' => r = [] ∧ e_fr kC80 w w') := by
    intro nn
    induction nn with
    | zero => intro y2 v1 hj hm; obtain ⟨j3, j4, j5, j6⟩ := hj; exfalso; omega
    | succ nn ih2 =>
      intro y2 v1 hj hm
      obtain ⟨j3, j4, j5, j6⟩ := hj
      refine e_Ok.run (t' := (4, [(0, (1, 275)), (1, (0, y)), (2, (0, y2))], [(1, 275), (0, y2)], v1)) 2 rfl ?_
      have h7 := (e_Has.get hT (c := 275) (k := 10) (lo := 0) (hi := 4) rfl (by decide))
      refine e_Ok.getf (z := w 275 10) rfl rfl rfl rfl ((j3 275 10 (by unfold kC80; omega)).trans rfl) (by omega) ?_
      refine e_Ok.if2 rfl (fun h8 => ?_) (fun h8 => ?_)
      · replace h8 : (y2 : Int) ≥ w 275 10 := h8
        refine e_Ok.rets rfl rfl ?_
        exact ⟨rfl, j3⟩
      · replace h8 : (y2 : Int) < w 275 10 := by have q : ¬ ((y2 : Int) ≥ w 275 10) := h8; omega
        refine e_Ok.run (t' := (12, [(3, (0, 0)), (0, (1, 275)), (1, (0, y)), (2, (0, y2))], [], v1)) 2 rfl ?_
        have hL9 : ∀ (nn : Nat) (y3 : Int) (v2 : eW), e_fr kC80 w v2 ∧ e_Has mTy v2 ∧ (0 ≤ y3 ∧ y3 ≤ 6) ∧ e_kn v2 280 0 3 → 7 - y3 < nn → e_Ok 1 elay code1 eI (d + 1) 403 (12, [(0, (1, 275)), (1, (0, y)), (2, (0, y2)), (3, (0, y3))], [], v2) (fun r w' => r = [] ∧ e_fr kC80 w w') := by
          intro nn
          induction nn with
          | zero => intro y3 v2 hj hm; obtain ⟨j11, j12, j13, j14⟩ := hj; exfalso; omega
          | succ nn ih10 =>
            intro y3 v2 hj hm
            obtain ⟨j11, j12, j13, j14⟩ := hj
            refine e_Ok.run (t' := (14, [(0, (1, 275)), (1, (0, y)), (2, (0, y2)), (3, (0, y3))], [(1, 275), (0, y3)], v2)) 2 rfl ?_
            refine e_Ok.getr (z := 286) rfl rfl rfl rfl ((j11 275 15 (by unfold kC80; omega)).trans (e_Has.eq hT rfl)) (by omega) ?_
            refine e_Ok.run (t' := (18, [(0, (1, 275)), (1, (0, y)), (2, (0, y2)), (3, (0, y3))], [(0, y2), (1, 286), (0, y3)], v2)) 1 rfl ?_
            have h15 := (e_Has.get hT (c := 286) (k := y2) (lo := 0) (hi := 6) rfl (by decide))
            refine e_Ok.ald (z := w 286 y2) rfl rfl rfl (by omega) ((j11 286 y2 (by unfold kC80; omega)).trans rfl) (by omega) ?_
            refine e_Ok.if2 rfl (fun h16 => ?_) (fun h16 => ?_)
            · replace h16 : (y3 : Int) ≥ w 286 y2 := h16
              refine e_Ok.inc (z := y2 + 1) rfl rfl (by omega) (by omega) ?_
              show e_Ok 1 elay code1 eI (d + 1) 403 (182, [(2, (0, y2 + 1)), (0, (1, 275)), (1, (0, y)), (3, (0, y3))], [], v2) _
              refine e_Ok.run (t' := (2, [(2, (0, y2 + 1)), (0, (1, 275)), (1, (0, y)), (3, (0, y3))], [], v2)) 1 rfl ?_
              refine e_Ok.sub c1lk (e_sub_of rfl ?_) (ih2 (y2 + 1) v2 ⟨j11, j12, by omega, j14⟩ (by omega))
              exact ⟨rfl, rfl, rfl, trivial⟩
            · replace h16 : (y3 : Int) < w 286 y2 := by have q : ¬ ((y3 : Int) ≥ w 286 y2) := h16; omega
              refine e_Ok.run (t' := (25, [(0, (1, 275)), (1, (0, y)), (2, (0, y2)), (3, (0, y3))], [(0, y2), (0, 6)], v2)) 2 rfl ?_
              refine e_Ok.mul (z := 6 * y2) rfl (by omega) (by omega) ?_
              refine e_Ok.run (t' := (27, [(0, (1, 275)), (1, (0, y)), (2, (0, y2)), (3, (0, y3))], [(0, y3), (0, 6 * y2)], v2)) 1 rfl ?_
              refine e_Ok.add (z := 6 * y2 + y3) rfl (by omega) (by omega) ?_
              refine e_Ok.run (t' := (31, [(4, (0, 6 * y2 + y3)), (0, (1, 275)), (1, (0, y)), (2, (0, y2)), (3, (0, y3))], [(1, 275)], v2)) 2 rfl ?_
              refine e_Ok.getr (z := 276) rfl rfl rfl rfl ((j11 275 0 (by unfold kC80; omega)).trans (e_Has.eq hT rfl)) (by omega) ?_
              refine e_Ok.run (t' := (35, [(4, (0, 6 * y2 + y3)), (0, (1, 275)), (1, (0, y)), (2, (0, y2)), (3, (0, y3))], [(0, y2), (1, 276)], v2)) 1 rfl ?_
              refine e_Ok.callS rfl (by omega) rfl rfl (b_268 (by omega)) (fun r17 w18 h19 => ?_)
              obtain ⟨rfl, rfl⟩ := h19
              show e_Ok 1 elay code1 eI (d + 1) 403 (38, [(4, (0, 6 * y2 + y3)), (0, (1, 275)), (1, (0, y)), (2, (0, y2)), (3, (0, y3))], [(0, 36 * y2 + 16), (1, 276)], v2) _
              refine e_Ok.run (t' := (40, [(4, (0, 6 * y2 + y3)), (0, (1, 275)), (1, (0, y)), (2, (0, y2)), (3, (0, y3))], [(0, 22), (0, 36 * y2 + 16), (1, 276)], v2)) 1 rfl ?_
              refine e_Ok.add (z := 36 * y2 + 38) rfl (by omega) (by omega) ?_
              refine e_Ok.run (t' := (42, [(4, (0, 6 * y2 + y3)), (0, (1, 275)), (1, (0, y)), (2, (0, y2)), (3, (0, y3))], [(0, y3), (0, 36 * y2 + 38), (1, 276)], v2)) 1 rfl ?_
              refine e_Ok.add (z := 36 * y2 + y3 + 38) rfl (by omega) (by omega) ?_
              have h20 := (e_Has.get hT (c := 276) (k := 36 * y2 + y3 + 38) (lo := (-2000)) (hi := 2000) (nR_STEP (a := y2) (j := y3) (by omega) (by omega)) (by decide))
              refine e_Ok.ald (z := w 276 (36 * y2 + y3 + 38)) rfl rfl rfl (by omega) ((j11 276 (36 * y2 + y3 + 38) (by unfold kC80; omega)).trans rfl) (by omega) ?_
              refine e_Ok.run (t' := (49, [(5, (0, w 276 (36 * y2 + y3 + 38))), (4, (0, 6 * y2 + y3)), (0, (1, 275)), (1, (0, y)), (2, (0, y2)), (3, (0, y3))], [(1, 275), (0, w 276 (36 * y2 + y3 + 38))], v2)) 3 rfl ?_
              refine e_Ok.getr (z := 346) rfl rfl rfl rfl ((j11 275 103 (by unfold kC80; omega)).trans (e_Has.eq hT rfl)) (by omega) ?_
              refine e_Ok.run (t' := (54, [(5, (0, w 276 (36 * y2 + y3 + 38))), (4, (0, 6 * y2 + y3)), (0, (1, 275)), (1, (0, y)), (2, (0, y2)), (3, (0, y3))], [(0, 6 * y2 + y3), (1, 346), (0, w 276 (36 * y2 + y3 + 38))], v2)) 1 rfl ?_
              have h21 := (hk (6 * y2 + y3) (by omega) (by omega))
              refine e_Ok.ald (z := w 346 (6 * y2 + y3)) rfl rfl rfl (by omega) ((j11 346 (6 * y2 + y3) (by unfold kC80; omega)).trans rfl) (by omega) ?_
              refine e_Ok.any rfl (eF_sub_any _ _) (fun z22 z22a z22b => ?_)
              refine e_Ok.run (t' := (59, [(6, (0, z22)), (5, (0, w 276 (36 * y2 + y3 + 38))), (4, (0, 6 * y2 + y3)), (0, (1, 275)), (1, (0, y)), (2, (0, y2)), (3, (0, y3))], [(0, y)], v2)) 2 rfl ?_
              refine e_Ok.if1 rfl (fun h23 => ?_) (fun h23 => ?_)
              · replace h23 : (y : Int) = 0 := h23
                refine e_Ok.run (t' := (124, [(7, (0, 0)), (6, (0, z22)), (5, (0, w 276 (36 * y2 + y3 + 38))), (4, (0, 6 * y2 + y3)), (0, (1, 275)), (1, (0, y)), (2, (0, y2)), (3, (0, y3))], [(1, 275), (0, 0), (1, 275)], v2)) 5 rfl ?_
                refine e_Ok.getr (z := 276) rfl rfl rfl rfl ((j11 275 0 (by unfold kC80; omega)).trans (e_Has.eq hT rfl)) (by omega) ?_
                refine e_Ok.run (t' := (128, [(7, (0, 0)), (6, (0, z22)), (5, (0, w 276 (36 * y2 + y3 + 38))), (4, (0, 6 * y2 + y3)), (0, (1, 275)), (1, (0, y)), (2, (0, y2)), (3, (0, y3))], [(0, y2), (1, 276), (0, 0), (1, 275)], v2)) 1 rfl ?_
                refine e_Ok.callS rfl (by omega) rfl rfl (b_268 (by omega)) (fun r24 w25 h26 => ?_)
                obtain ⟨rfl, rfl⟩ := h26
                show e_Ok 1 elay code1 eI (d + 1) 403 (131, [(7, (0, 0)), (6, (0, z22)), (5, (0, w 276 (36 * y2 + y3 + 38))), (4, (0, 6 * y2 + y3)), (0, (1, 275)), (1, (0, y)), (2, (0, y2)), (3, (0, y3))], [(0, 36 * y2 + 16), (1, 276), (0, 0), (1, 275)], v2) _
                refine e_Ok.run (t' := (133, [(7, (0, 0)), (6, (0, z22)), (5, (0, w 276 (36 * y2 + y3 + 38))), (4, (0, 6 * y2 + y3)), (0, (1, 275)), (1, (0, y)), (2, (0, y2)), (3, (0, y3))], [(0, 16), (0, 36 * y2 + 16), (1, 276), (0, 0), (1, 275)], v2)) 1 rfl ?_
                refine e_Ok.add (z := 36 * y2 + 32) rfl (by omega) (by omega) ?_
                refine e_Ok.run (t' := (135, [(7, (0, 0)), (6, (0, z22)), (5, (0, w 276 (36 * y2 + y3 + 38))), (4, (0, 6 * y2 + y3)), (0, (1, 275)), (1, (0, y)), (2, (0, y2)), (3, (0, y3))], [(0, y3), (0, 36 * y2 + 32), (1, 276), (0, 0), (1, 275)], v2)) 1 rfl ?_
                refine e_Ok.add (z := 36 * y2 + y3 + 32) rfl (by omega) (by omega) ?_
                have h27 := (e_Has.get hT (c := 276) (k := 36 * y2 + y3 + 32) (lo := (-100000)) (hi := 100000) (nR_VALUE (a := y2) (j := y3) (by omega) (by omega)) (by decide))
                refine e_Ok.ald (z := w 276 (36 * y2 + y3 + 32)) rfl rfl rfl (by omega) ((j11 276 (36 * y2 + y3 + 32) (by unfold kC80; omega)).trans rfl) (by omega) ?_
                refine e_Ok.run (t' := (139, [(7, (0, 0)), (6, (0, z22)), (5, (0, w 276 (36 * y2 + y3 + 38))), (4, (0, 6 * y2 + y3)), (0, (1, 275)), (1, (0, y)), (2, (0, y2)), (3, (0, y3))], [(1, 275), (4, w 276 (36 * y2 + y3 + 32)), (0, 0), (1, 275)], v2)) 2 rfl ?_
                refine e_Ok.getr (z := 288) rfl rfl rfl rfl ((j11 275 17 (by unfold kC80; omega)).trans (e_Has.eq hT rfl)) (by omega) ?_
                refine e_Ok.run (t' := (144, [(7, (0, 0)), (6, (0, z22)), (5, (0, w 276 (36 * y2 + y3 + 38))), (4, (0, 6 * y2 + y3)), (0, (1, 275)), (1, (0, y)), (2, (0, y2)), (3, (0, y3))], [(0, 6 * y2 + y3), (1, 288), (4, w 276 (36 * y2 + y3 + 32)), (0, 0), (1, 275)], v2)) 1 rfl ?_
                have h28 := (e_Has.get hT (c := 288) (k := 6 * y2 + y3) (lo := (-100000)) (hi := 0) rfl (by decide))
                refine e_Ok.ald (z := w 288 (6 * y2 + y3)) rfl rfl rfl (by omega) ((j11 288 (6 * y2 + y3) (by unfold kC80; omega)).trans rfl) (by omega) ?_
                refine e_Ok.run (t' := (147, [(7, (0, 0)), (6, (0, z22)), (5, (0, w 276 (36 * y2 + y3 + 38))), (4, (0, 6 * y2 + y3)), (0, (1, 275)), (1, (0, y)), (2, (0, y2)), (3, (0, y3))], [(1, 275), (4, w 288 (6 * y2 + y3)), (4, w 276 (36 * y2 + y3 + 32)), (0, 0), (1, 275)], v2)) 2 rfl ?_
                refine e_Ok.getr (z := 289) rfl rfl rfl rfl ((j11 275 18 (by unfold kC80; omega)).trans (e_Has.eq hT rfl)) (by omega) ?_
                refine e_Ok.run (t' := (152, [(7, (0, 0)), (6, (0, z22)), (5, (0, w 276 (36 * y2 + y3 + 38))), (4, (0, 6 * y2 + y3)), (0, (1, 275)), (1, (0, y)), (2, (0, y2)), (3, (0, y3))], [(0, 6 * y2 + y3), (1, 289), (4, w 288 (6 * y2 + y3)), (4, w 276 (36 * y2 + y3 + 32)), (0, 0), (1, 275)], v2)) 1 rfl ?_
                have h29 := (e_Has.get hT (c := 289) (k := 6 * y2 + y3) (lo := 0) (hi := 100000) rfl (by decide))
                refine e_Ok.ald (z := w 289 (6 * y2 + y3)) rfl rfl rfl (by omega) ((j11 289 (6 * y2 + y3) (by unfold kC80; omega)).trans rfl) (by omega) ?_
                refine e_Ok.run (t' := (154, [(7, (0, 0)), (6, (0, z22)), (5, (0, w 276 (36 * y2 + y3 + 38))), (4, (0, 6 * y2 + y3)), (0, (1, 275)), (1, (0, y)), (2, (0, y2)), (3, (0, y3))], [(4, w 289 (6 * y2 + y3)), (4, w 288 (6 * y2 + y3)), (4, w 276 (36 * y2 + y3 + 32)), (0, 0), (1, 275)], v2)) 1 rfl ?_
                refine e_Ok.callS rfl (by omega) rfl rfl (b_266) (fun r30 w31 h32 => ?_)
                obtain ⟨z33, rfl, rfl, q34⟩ := h32
                obtain ⟨rfl, q34⟩ | ⟨rfl, q34⟩ := q34
                · show e_Ok 1 elay code1 eI (d + 1) 403 (157, [(7, (0, 0)), (6, (0, z22)), (5, (0, w 276 (36 * y2 + y3 + 38))), (4, (0, 6 * y2 + y3)), (0, (1, 275)), (1, (0, y)), (2, (0, y2)), (3, (0, y3))], [(0, 1), (0, 0), (1, 275)], v2) _
                  refine e_Ok.if1 rfl (fun h35 => ?_) (fun h35 => ?_)
                  · replace h35 : (1 : Int) = 0 := h35
                    exfalso; omega
                  · replace h35 : (1 : Int) ≠ 0 := by have q : ¬ ((1 : Int) = 0) := h35; omega
                    refine e_Ok.run (t' := (162, [(7, (0, 0)), (6, (0, z22)), (5, (0, w 276 (36 * y2 + y3 + 38))), (4, (0, 6 * y2 + y3)), (0, (1, 275)), (1, (0, y)), (2, (0, y2)), (3, (0, y3))], [(0, 0), (0, 0), (1, 275)], v2)) 1 rfl ?_
                    refine e_Ok.if1 rfl (fun h36 => ?_) (fun h36 => ?_)
                    · replace h36 : (0 : Int) = 0 := h36
                      refine e_Ok.run (t' := (170, [(7, (0, 0)), (6, (0, z22)), (5, (0, w 276 (36 * y2 + y3 + 38))), (4, (0, 6 * y2 + y3)), (0, (1, 275)), (1, (0, y)), (2, (0, y2)), (3, (0, y3))], [(0, 0), (0, 0), (1, 275)], v2)) 1 rfl ?_
                      refine e_Ok.callV rfl (by omega) rfl rfl rfl rfl (b_389 j12 (by omega) j14 (h6.fr80 j11)) (fun r37 w38 h40 => ?_)
                      obtain ⟨rfl, q41, q41T, hz42⟩ := h40
                      have f43 : e_fr kC80 w w38 := e_fr.trans j11 (e_fr.mono q41 (fun c k q => by exact q))
                      show e_Ok 1 elay code1 eI (d + 1) 403 (173, [(7, (0, 0)), (6, (0, z22)), (5, (0, w 276 (36 * y2 + y3 + 38))), (4, (0, 6 * y2 + y3)), (0, (1, 275)), (1, (0, y)), (2, (0, y2)), (3, (0, y3))], [], w38) _
                      refine e_Ok.inc (z := y3 + 1) rfl rfl (by omega) (by omega) ?_
                      show e_Ok 1 elay code1 eI (d + 1) 403 (176, [(3, (0, y3 + 1)), (7, (0, 0)), (6, (0, z22)), (5, (0, w 276 (36 * y2 + y3 + 38))), (4, (0, 6 * y2 + y3)), (0, (1, 275)), (1, (0, y)), (2, (0, y2))], [], w38) _
                      refine e_Ok.run (t' := (12, [(3, (0, y3 + 1)), (7, (0, 0)), (6, (0, z22)), (5, (0, w 276 (36 * y2 + y3 + 38))), (4, (0, 6 * y2 + y3)), (0, (1, 275)), (1, (0, y)), (2, (0, y2))], [], w38)) 1 rfl ?_
                      refine e_Ok.sub c1lk (e_sub_of rfl ?_) (ih10 (y3 + 1) w38 ⟨f43, q41T, by omega, hz42⟩ (by omega))
                      exact ⟨rfl, rfl, rfl, rfl, trivial⟩
                    · replace h36 : (0 : Int) ≠ 0 := by have q : ¬ ((0 : Int) = 0) := h36; omega
                      exfalso; omega
                · show e_Ok 1 elay code1 eI (d + 1) 403 (157, [(7, (0, 0)), (6, (0, z22)), (5, (0, w 276 (36 * y2 + y3 + 38))), (4, (0, 6 * y2 + y3)), (0, (1, 275)), (1, (0, y)), (2, (0, y2)), (3, (0, y3))], [(0, 0), (0, 0), (1, 275)], v2) _
                  refine e_Ok.if1 rfl (fun h44 => ?_) (fun h44 => ?_)
                  · replace h44 : (0 : Int) = 0 := h44
                    refine e_Ok.run (t' := (170, [(7, (0, 0)), (6, (0, z22)), (5, (0, w 276 (36 * y2 + y3 + 38))), (4, (0, 6 * y2 + y3)), (0, (1, 275)), (1, (0, y)), (2, (0, y2)), (3, (0, y3))], [(0, 1), (0, 0), (1, 275)], v2)) 2 rfl ?_
                    refine e_Ok.callV rfl (by omega) rfl rfl rfl rfl (b_389 j12 (by omega) j14 (h6.fr80 j11)) (fun r45 w46 h47 => ?_)
                    obtain ⟨rfl, q48, q48T, hz49⟩ := h47
                    have f50 : e_fr kC80 w w46 := e_fr.trans j11 (e_fr.mono q48 (fun c k q => by exact q))
                    show e_Ok 1 elay code1 eI (d + 1) 403 (173, [(7, (0, 0)), (6, (0, z22)), (5, (0, w 276 (36 * y2 + y3 + 38))), (4, (0, 6 * y2 + y3)), (0, (1, 275)), (1, (0, y)), (2, (0, y2)), (3, (0, y3))], [], w46) _
                    refine e_Ok.inc (z := y3 + 1) rfl rfl (by omega) (by omega) ?_
                    show e_Ok 1 elay code1 eI (d + 1) 403 (176, [(3, (0, y3 + 1)), (7, (0, 0)), (6, (0, z22)), (5, (0, w 276 (36 * y2 + y3 + 38))), (4, (0, 6 * y2 + y3)), (0, (1, 275)), (1, (0, y)), (2, (0, y2))], [], w46) _
                    refine e_Ok.run (t' := (12, [(3, (0, y3 + 1)), (7, (0, 0)), (6, (0, z22)), (5, (0, w 276 (36 * y2 + y3 + 38))), (4, (0, 6 * y2 + y3)), (0, (1, 275)), (1, (0, y)), (2, (0, y2))], [], w46)) 1 rfl ?_
                    refine e_Ok.sub c1lk (e_sub_of rfl ?_) (ih10 (y3 + 1) w46 ⟨f50, q48T, by omega, hz49⟩ (by omega))
                    exact ⟨rfl, rfl, rfl, rfl, trivial⟩
                  · replace h44 : (0 : Int) ≠ 0 := by have q : ¬ ((0 : Int) = 0) := h44; omega
                    exfalso; omega
              · replace h23 : (y : Int) ≠ 0 := by have q : ¬ ((y : Int) = 0) := h23; omega
                refine e_Ok.run (t' := (66, [(6, (0, z22)), (5, (0, w 276 (36 * y2 + y3 + 38))), (4, (0, 6 * y2 + y3)), (0, (1, 275)), (1, (0, y)), (2, (0, y2)), (3, (0, y3))], [(1, 275), (4, w 276 (36 * y2 + y3 + 38))], v2)) 3 rfl ?_
                refine e_Ok.getr (z := 290) rfl rfl rfl rfl ((j11 275 19 (by unfold kC80; omega)).trans (e_Has.eq hT rfl)) (by omega) ?_
                refine e_Ok.run (t' := (71, [(6, (0, z22)), (5, (0, w 276 (36 * y2 + y3 + 38))), (4, (0, 6 * y2 + y3)), (0, (1, 275)), (1, (0, y)), (2, (0, y2)), (3, (0, y3))], [(0, 6 * y2 + y3), (1, 290), (4, w 276 (36 * y2 + y3 + 38))], v2)) 1 rfl ?_
                have h51 := (e_Has.get hT (c := 290) (k := 6 * y2 + y3) (lo := 0) (hi := 2000) rfl (by decide))
                refine e_Ok.ald (z := w 290 (6 * y2 + y3)) rfl rfl rfl (by omega) ((j11 290 (6 * y2 + y3) (by unfold kC80; omega)).trans rfl) (by omega) ?_
                refine e_Ok.neg (z := -w 290 (6 * y2 + y3)) rfl (by omega) (by omega) ?_
                refine e_Ok.run (t' := (75, [(6, (0, z22)), (5, (0, w 276 (36 * y2 + y3 + 38))), (4, (0, 6 * y2 + y3)), (0, (1, 275)), (1, (0, y)), (2, (0, y2)), (3, (0, y3))], [(1, 275), (4, -w 290 (6 * y2 + y3)), (4, w 276 (36 * y2 + y3 + 38))], v2)) 2 rfl ?_
                refine e_Ok.getr (z := 290) rfl rfl rfl rfl ((j11 275 19 (by unfold kC80; omega)).trans (e_Has.eq hT rfl)) (by omega) ?_
                refine e_Ok.run (t' := (80, [(6, (0, z22)), (5, (0, w 276 (36 * y2 + y3 + 38))), (4, (0, 6 * y2 + y3)), (0, (1, 275)), (1, (0, y)), (2, (0, y2)), (3, (0, y3))], [(0, 6 * y2 + y3), (1, 290), (4, -w 290 (6 * y2 + y3)), (4, w 276 (36 * y2 + y3 + 38))], v2)) 1 rfl ?_
                refine e_Ok.ald (z := w 290 (6 * y2 + y3)) rfl rfl rfl (by omega) ((j11 290 (6 * y2 + y3) (by unfold kC80; omega)).trans rfl) (by omega) ?_
                refine e_Ok.run (t' := (82, [(6, (0, z22)), (5, (0, w 276 (36 * y2 + y3 + 38))), (4, (0, 6 * y2 + y3)), (0, (1, 275)), (1, (0, y)), (2, (0, y2)), (3, (0, y3))], [(4, w 290 (6 * y2 + y3)), (4, -w 290 (6 * y2 + y3)), (4, w 276 (36 * y2 + y3 + 38))], v2)) 1 rfl ?_
                refine e_Ok.callS rfl (by omega) rfl rfl (b_266) (fun r52 w53 h54 => ?_)
                obtain ⟨z55, rfl, rfl, q56⟩ := h54
                obtain ⟨rfl, q56⟩ | ⟨rfl, q56⟩ := q56
                · show e_Ok 1 elay code1 eI (d + 1) 403 (85, [(6, (0, z22)), (5, (0, w 276 (36 * y2 + y3 + 38))), (4, (0, 6 * y2 + y3)), (0, (1, 275)), (1, (0, y)), (2, (0, y2)), (3, (0, y3))], [(0, 1)], v2) _
                  refine e_Ok.if1 rfl (fun h57 => ?_) (fun h57 => ?_)
                  · replace h57 : (1 : Int) = 0 := h57
                    exfalso; omega
                  · replace h57 : (1 : Int) ≠ 0 := by have q : ¬ ((1 : Int) = 0) := h57; omega
                    refine e_Ok.run (t' := (92, [(6, (0, z22)), (5, (0, w 276 (36 * y2 + y3 + 38))), (4, (0, 6 * y2 + y3)), (0, (1, 275)), (1, (0, y)), (2, (0, y2)), (3, (0, y3))], [(1, 275), (4, z22)], v2)) 3 rfl ?_
                    refine e_Ok.getr (z := 291) rfl rfl rfl rfl ((j11 275 20 (by unfold kC80; omega)).trans (e_Has.eq hT rfl)) (by omega) ?_
                    refine e_Ok.run (t' := (97, [(6, (0, z22)), (5, (0, w 276 (36 * y2 + y3 + 38))), (4, (0, 6 * y2 + y3)), (0, (1, 275)), (1, (0, y)), (2, (0, y2)), (3, (0, y3))], [(0, 6 * y2 + y3), (1, 291), (4, z22)], v2)) 1 rfl ?_
                    have h58 := (e_Has.get hT (c := 291) (k := 6 * y2 + y3) (lo := 0) (hi := 2000) rfl (by decide))
                    refine e_Ok.ald (z := w 291 (6 * y2 + y3)) rfl rfl rfl (by omega) ((j11 291 (6 * y2 + y3) (by unfold kC80; omega)).trans rfl) (by omega) ?_
                    refine e_Ok.neg (z := -w 291 (6 * y2 + y3)) rfl (by omega) (by omega) ?_
                    refine e_Ok.run (t' := (101, [(6, (0, z22)), (5, (0, w 276 (36 * y2 + y3 + 38))), (4, (0, 6 * y2 + y3)), (0, (1, 275)), (1, (0, y)), (2, (0, y2)), (3, (0, y3))], [(1, 275), (4, -w 291 (6 * y2 + y3)), (4, z22)], v2)) 2 rfl ?_
                    refine e_Ok.getr (z := 291) rfl rfl rfl rfl ((j11 275 20 (by unfold kC80; omega)).trans (e_Has.eq hT rfl)) (by omega) ?_
                    refine e_Ok.run (t' := (106, [(6, (0, z22)), (5, (0, w 276 (36 * y2 + y3 + 38))), (4, (0, 6 * y2 + y3)), (0, (1, 275)), (1, (0, y)), (2, (0, y2)), (3, (0, y3))], [(0, 6 * y2 + y3), (1, 291), (4, -w 291 (6 * y2 + y3)), (4, z22)], v2)) 1 rfl ?_
                    refine e_Ok.ald (z := w 291 (6 * y2 + y3)) rfl rfl rfl (by omega) ((j11 291 (6 * y2 + y3) (by unfold kC80; omega)).trans rfl) (by omega) ?_
                    refine e_Ok.run (t' := (108, [(6, (0, z22)), (5, (0, w 276 (36 * y2 + y3 + 38))), (4, (0, 6 * y2 + y3)), (0, (1, 275)), (1, (0, y)), (2, (0, y2)), (3, (0, y3))], [(4, w 291 (6 * y2 + y3)), (4, -w 291 (6 * y2 + y3)), (4, z22)], v2)) 1 rfl ?_
                    refine e_Ok.callS rfl (by omega) rfl rfl (b_266) (fun r59 w60 h61 => ?_)
                    obtain ⟨z62, rfl, rfl, q63⟩ := h61
                    obtain ⟨rfl, q63⟩ | ⟨rfl, q63⟩ := q63
                    · show e_Ok 1 elay code1 eI (d + 1) 403 (111, [(6, (0, z22)), (5, (0, w 276 (36 * y2 + y3 + 38))), (4, (0, 6 * y2 + y3)), (0, (1, 275)), (1, (0, y)), (2, (0, y2)), (3, (0, y3))], [(0, 1)], v2) _
                      refine e_Ok.if1 rfl (fun h64 => ?_) (fun h64 => ?_)
                      · replace h64 : (1 : Int) ≠ 0 := h64
                        refine e_Ok.run (t' := (124, [(7, (0, 0)), (6, (0, z22)), (5, (0, w 276 (36 * y2 + y3 + 38))), (4, (0, 6 * y2 + y3)), (0, (1, 275)), (1, (0, y)), (2, (0, y2)), (3, (0, y3))], [(1, 275), (0, 0), (1, 275)], v2)) 5 rfl ?_
                        refine e_Ok.getr (z := 276) rfl rfl rfl rfl ((j11 275 0 (by unfold kC80; omega)).trans (e_Has.eq hT rfl)) (by omega) ?_
                        refine e_Ok.run (t' := (128, [(7, (0, 0)), (6, (0, z22)), (5, (0, w 276 (36 * y2 + y3 + 38))), (4, (0, 6 * y2 + y3)), (0, (1, 275)), (1, (0, y)), (2, (0, y2)), (3, (0, y3))], [(0, y2), (1, 276), (0, 0), (1, 275)], v2)) 1 rfl ?_
                        refine e_Ok.callS rfl (by omega) rfl rfl (b_268 (by omega)) (fun r65 w66 h67 => ?_)
                        obtain ⟨rfl, rfl⟩ := h67
                        show e_Ok 1 elay code1 eI (d + 1) 403 (131, [(7, (0, 0)), (6, (0, z22)), (5, (0, w 276 (36 * y2 + y3 + 38))), (4, (0, 6 * y2 + y3)), (0, (1, 275)), (1, (0, y)), (2, (0, y2)), (3, (0, y3))], [(0, 36 * y2 + 16), (1, 276), (0, 0), (1, 275)], v2) _
                        refine e_Ok.run (t' := (133, [(7, (0, 0)), (6, (0, z22)), (5, (0, w 276 (36 * y2 + y3 + 38))), (4, (0, 6 * y2 + y3)), (0, (1, 275)), (1, (0, y)), (2, (0, y2)), (3, (0, y3))], [(0, 16), (0, 36 * y2 + 16), (1, 276), (0, 0), (1, 275)], v2)) 1 rfl ?_
                        refine e_Ok.add (z := 36 * y2 + 32) rfl (by omega) (by omega) ?_
                        refine e_Ok.run (t' := (135, [(7, (0, 0)), (6, (0, z22)), (5, (0, w 276 (36 * y2 + y3 + 38))), (4, (0, 6 * y2 + y3)), (0, (1, 275)), (1, (0, y)), (2, (0, y2)), (3, (0, y3))], [(0, y3), (0, 36 * y2 + 32), (1, 276), (0, 0), (1, 275)], v2)) 1 rfl ?_
                        refine e_Ok.add (z := 36 * y2 + y3 + 32) rfl (by omega) (by omega) ?_
                        have h68 := (e_Has.get hT (c := 276) (k := 36 * y2 + y3 + 32) (lo := (-100000)) (hi := 100000) (nR_VALUE (a := y2) (j := y3) (by omega) (by omega)) (by decide))
                        refine e_Ok.ald (z := w 276 (36 * y2 + y3 + 32)) rfl rfl rfl (by omega) ((j11 276 (36 * y2 + y3 + 32) (by unfold kC80; omega)).trans rfl) (by omega) ?_
                        refine e_Ok.run (t' := (139, [(7, (0, 0)), (6, (0, z22)), (5, (0, w 276 (36 * y2 + y3 + 38))), (4, (0, 6 * y2 + y3)), (0, (1, 275)), (1, (0, y)), (2, (0, y2)), (3, (0, y3))], [(1, 275), (4, w 276 (36 * y2 + y3 + 32)), (0, 0), (1, 275)], v2)) 2 rfl ?_
                        refine e_Ok.getr (z := 288) rfl rfl rfl rfl ((j11 275 17 (by unfold kC80; omega)).trans (e_Has.eq hT rfl)) (by omega) ?_
                        refine e_Ok.run (t' := (144, [(7, (0, 0)), (6, (0, z22)), (5, (0, w 276 (36 * y2 + y3 + 38))), (4, (0, 6 * y2 + y3)), (0, (1, 275)), (1, (0, y)), (2, (0, y2)), (3, (0, y3))], [(0, 6 * y2 + y3), (1, 288), (4, w 276 (36 * y2 + y3 + 32)), (0, 0), (1, 275)], v2)) 1 rfl ?_
                        have h69 := (e_Has.get hT (c := 288) (k := 6 * y2 + y3) (lo := (-100000)) (hi := 0) rfl (by decide))
                        refine e_Ok.ald (z := w 288 (6 * y2 + y3)) rfl rfl rfl (by omega) ((j11 288 (6 * y2 + y3) (by unfold kC80; omega)).trans rfl) (by omega) ?_
                        refine e_Ok.run (t' := (147, [(7, (0, 0)), (6, (0, z22)), (5, (0, w 276 (36 * y2 + y3 + 38))), (4, (0, 6 * y2 + y3)), (0, (1, 275)), (1, (0, y)), (2, (0, y2)), (3, (0, y3))], [(1, 275), (4, w 288 (6 * y2 + y3)), (4, w 276 (36 * y2 + y3 + 32)), (0, 0), (1, 275)], v2)) 2 rfl ?_
                        refine e_Ok.getr (z := 289) rfl rfl rfl rfl ((j11 275 18 (by unfold kC80; omega)).trans (e_Has.eq hT rfl)) (by omega) ?_
                        refine e_Ok.run (t' := (152, [(7, (0, 0)), (6, (0, z22)), (5, (0, w 276 (36 * y2 + y3 + 38))), (4, (0, 6 * y2 + y3)), (0, (1, 275)), (1, (0, y)), (2, (0, y2)), (3, (0, y3))], [(0, 6 * y2 + y3), (1, 289), (4, w 288 (6 * y2 + y3)), (4, w 276 (36 * y2 + y3 + 32)), (0, 0), (1, 275)], v2)) 1 rfl ?_
                        have h70 := (e_Has.get hT (c := 289) (k := 6 * y2 + y3) (lo := 0) (hi := 100000) rfl (by decide))
                        refine e_Ok.ald (z := w 289 (6 * y2 + y3)) rfl rfl rfl (by omega) ((j11 289 (6 * y2 + y3) (by unfold kC80; omega)).trans rfl) (by omega) ?_
                        refine e_Ok.run (t' := (154, [(7, (0, 0)), (6, (0, z22)), (5, (0, w 276 (36 * y2 + y3 + 38))), (4, (0, 6 * y2 + y3)), (0, (1, 275)), (1, (0, y)), (2, (0, y2)), (3, (0, y3))], [(4, w 289 (6 * y2 + y3)), (4, w 288 (6 * y2 + y3)), (4, w 276 (36 * y2 + y3 + 32)), (0, 0), (1, 275)], v2)) 1 rfl ?_
                        refine e_Ok.callS rfl (by omega) rfl rfl (b_266) (fun r71 w72 h73 => ?_)
                        obtain ⟨z74, rfl, rfl, q75⟩ := h73
                        obtain ⟨rfl, q75⟩ | ⟨rfl, q75⟩ := q75
                        · show e_Ok 1 elay code1 eI (d + 1) 403 (157, [(7, (0, 0)), (6, (0, z22)), (5, (0, w 276 (36 * y2 + y3 + 38))), (4, (0, 6 * y2 + y3)), (0, (1, 275)), (1, (0, y)), (2, (0, y2)), (3, (0, y3))], [(0, 1), (0, 0), (1, 275)], v2) _
                          refine e_Ok.if1 rfl (fun h76 => ?_) (fun h76 => ?_)
                          · replace h76 : (1 : Int) = 0 := h76
                            exfalso; omega
                          · replace h76 : (1 : Int) ≠ 0 := by have q : ¬ ((1 : Int) = 0) := h76; omega
                            refine e_Ok.run (t' := (162, [(7, (0, 0)), (6, (0, z22)), (5, (0, w 276 (36 * y2 + y3 + 38))), (4, (0, 6 * y2 + y3)), (0, (1, 275)), (1, (0, y)), (2, (0, y2)), (3, (0, y3))], [(0, 0), (0, 0), (1, 275)], v2)) 1 rfl ?_
                            refine e_Ok.if1 rfl (fun h77 => ?_) (fun h77 => ?_)
                            · replace h77 : (0 : Int) = 0 := h77
                              refine e_Ok.run (t' := (170, [(7, (0, 0)), (6, (0, z22)), (5, (0, w 276 (36 * y2 + y3 + 38))), (4, (0, 6 * y2 + y3)), (0, (1, 275)), (1, (0, y)), (2, (0, y2)), (3, (0, y3))], [(0, 0), (0, 0), (1, 275)], v2)) 1 rfl ?_
                              refine e_Ok.callV rfl (by omega) rfl rfl rfl rfl (b_389 j12 (by omega) j14 (h6.fr80 j11)) (fun r78 w79 h80 => ?_)
                              obtain ⟨rfl, q81, q81T, hz82⟩ := h80
                              have f83 : e_fr kC80 w w79 := e_fr.trans j11 (e_fr.mono q81 (fun c k q => by exact q))
                              show e_Ok 1 elay code1 eI (d + 1) 403 (173, [(7, (0, 0)), (6, (0, z22)), (5, (0, w 276 (36 * y2 + y3 + 38))), (4, (0, 6 * y2 + y3)), (0, (1, 275)), (1, (0, y)), (2, (0, y2)), (3, (0, y3))], [], w79) _
                              refine e_Ok.inc (z := y3 + 1) rfl rfl (by omega) (by omega) ?_
                              show e_Ok 1 elay code1 eI (d + 1) 403 (176, [(3, (0, y3 + 1)), (7, (0, 0)), (6, (0, z22)), (5, (0, w 276 (36 * y2 + y3 + 38))), (4, (0, 6 * y2 + y3)), (0, (1, 275)), (1, (0, y)), (2, (0, y2))], [], w79) _
                              refine e_Ok.run (t' := (12, [(3, (0, y3 + 1)), (7, (0, 0)), (6, (0, z22)), (5, (0, w 276 (36 * y2 + y3 + 38))), (4, (0, 6 * y2 + y3)), (0, (1, 275)), (1, (0, y)), (2, (0, y2))], [], w79)) 1 rfl ?_
                              refine e_Ok.sub c1lk (e_sub_of rfl ?_) (ih10 (y3 + 1) w79 ⟨f83, q81T, by omega, hz82⟩ (by omega))
                              exact ⟨rfl, rfl, rfl, rfl, trivial⟩
                            · replace h77 : (0 : Int) ≠ 0 := by have q : ¬ ((0 : Int) = 0) := h77; omega
                              exfalso; omega
                        · show e_Ok 1 elay code1 eI (d + 1) 403 (157, [(7, (0, 0)), (6, (0, z22)), (5, (0, w 276 (36 * y2 + y3 + 38))), (4, (0, 6 * y2 + y3)), (0, (1, 275)), (1, (0, y)), (2, (0, y2)), (3, (0, y3))], [(0, 0), (0, 0), (1, 275)], v2) _
                          refine e_Ok.if1 rfl (fun h84 => ?_) (fun h84 => ?_)
                          · replace h84 : (0 : Int) = 0 := h84
                            refine e_Ok.run (t' := (170, [(7, (0, 0)), (6, (0, z22)), (5, (0, w 276 (36 * y2 + y3 + 38))), (4, (0, 6 * y2 + y3)), (0, (1, 275)), (1, (0, y)), (2, (0, y2)), (3, (0, y3))], [(0, 1), (0, 0), (1, 275)], v2)) 2 rfl ?_
                            refine e_Ok.callV rfl (by omega) rfl rfl rfl rfl (b_389 j12 (by omega) j14 (h6.fr80 j11)) (fun r85 w86 h87 => ?_)
                            obtain ⟨rfl, q88, q88T, hz89⟩ := h87
                            have f90 : e_fr kC80 w w86 := e_fr.trans j11 (e_fr.mono q88 (fun c k q => by exact q))
                            show e_Ok 1 elay code1 eI (d + 1) 403 (173, [(7, (0, 0)), (6, (0, z22)), (5, (0, w 276 (36 * y2 + y3 + 38))), (4, (0, 6 * y2 + y3)), (0, (1, 275)), (1, (0, y)), (2, (0, y2)), (3, (0, y3))], [], w86) _
                            refine e_Ok.inc (z := y3 + 1) rfl rfl (by omega) (by omega) ?_
                            show e_Ok 1 elay code1 eI (d + 1) 403 (176, [(3, (0, y3 + 1)), (7, (0, 0)), (6, (0, z22)), (5, (0, w 276 (36 * y2 + y3 + 38))), (4, (0, 6 * y2 + y3)), (0, (1, 275)), (1, (0, y)), (2, (0, y2))], [], w86) _
                            refine e_Ok.run (t' := (12, [(3, (0, y3 + 1)), (7, (0, 0)), (6, (0, z22)), (5, (0, w 276 (36 * y2 + y3 + 38))), (4, (0, 6 * y2 + y3)), (0, (1, 275)), (1, (0, y)), (2, (0, y2))], [], w86)) 1 rfl ?_
                            refine e_Ok.sub c1lk (e_sub_of rfl ?_) (ih10 (y3 + 1) w86 ⟨f90, q88T, by omega, hz89⟩ (by omega))
                            exact ⟨rfl, rfl, rfl, rfl, trivial⟩
                          · replace h84 : (0 : Int) ≠ 0 := by have q : ¬ ((0 : Int) = 0) := h84; omega
                            exfalso; omega
                      · replace h64 : (1 : Int) = 0 := by have q : ¬ ((1 : Int) ≠ 0) := h64; omega
                        exfalso; omega
                    · show e_Ok 1 elay code1 eI (d + 1) 403 (111, [(6, (0, z22)), (5, (0, w 276 (36 * y2 + y3 + 38))), (4, (0, 6 * y2 + y3)), (0, (1, 275)), (1, (0, y)), (2, (0, y2)), (3, (0, y3))], [(0, 0)], v2) _
                      refine e_Ok.if1 rfl (fun h91 => ?_) (fun h91 => ?_)
                      · replace h91 : (0 : Int) ≠ 0 := h91
                        exfalso; omega
                      · replace h91 : (0 : Int) = 0 := by have q : ¬ ((0 : Int) ≠ 0) := h91; omega
                        refine e_Ok.run (t' := (124, [(7, (0, 1)), (6, (0, z22)), (5, (0, w 276 (36 * y2 + y3 + 38))), (4, (0, 6 * y2 + y3)), (0, (1, 275)), (1, (0, y)), (2, (0, y2)), (3, (0, y3))], [(1, 275), (0, 0), (1, 275)], v2)) 6 rfl ?_
                        refine e_Ok.getr (z := 276) rfl rfl rfl rfl ((j11 275 0 (by unfold kC80; omega)).trans (e_Has.eq hT rfl)) (by omega) ?_
                        refine e_Ok.run (t' := (128, [(7, (0, 1)), (6, (0, z22)), (5, (0, w 276 (36 * y2 + y3 + 38))), (4, (0, 6 * y2 + y3)), (0, (1, 275)), (1, (0, y)), (2, (0, y2)), (3, (0, y3))], [(0, y2), (1, 276), (0, 0), (1, 275)], v2)) 1 rfl ?_
                        refine e_Ok.callS rfl (by omega) rfl rfl (b_268 (by omega)) (fun r92 w93 h94 => ?_)
                        obtain ⟨rfl, rfl⟩ := h94
                        show e_Ok 1 elay code1 eI (d + 1) 403 (131, [(7, (0, 1)), (6, (0, z22)), (5, (0, w 276 (36 * y2 + y3 + 38))), (4, (0, 6 * y2 + y3)), (0, (1, 275)), (1, (0, y)), (2, (0, y2)), (3, (0, y3))], [(0, 36 * y2 + 16), (1, 276), (0, 0), (1, 275)], v2) _
                        refine e_Ok.run (t' := (133, [(7, (0, 1)), (6, (0, z22)), (5, (0, w 276 (36 * y2 + y3 + 38))), (4, (0, 6 * y2 + y3)), (0, (1, 275)), (1, (0, y)), (2, (0, y2)), (3, (0, y3))], [(0, 16), (0, 36 * y2 + 16), (1, 276), (0, 0), (1, 275)], v2)) 1 rfl ?_
                        refine e_Ok.add (z := 36 * y2 + 32) rfl (by omega) (by omega) ?_
                        refine e_Ok.run (t' := (135, [(7, (0, 1)), (6, (0, z22)), (5, (0, w 276 (36 * y2 + y3 + 38))), (4, (0, 6 * y2 + y3)), (0, (1, 275)), (1, (0, y)), (2, (0, y2)), (3, (0, y3))], [(0, y3), (0, 36 * y2 + 32), (1, 276), (0, 0), (1, 275)], v2)) 1 rfl ?_
                        refine e_Ok.add (z := 36 * y2 + y3 + 32) rfl (by omega) (by omega) ?_
                        have h95 := (e_Has.get hT (c := 276) (k := 36 * y2 + y3 + 32) (lo := (-100000)) (hi := 100000) (nR_VALUE (a := y2) (j := y3) (by omega) (by omega)) (by decide))
                        refine e_Ok.ald (z := w 276 (36 * y2 + y3 + 32)) rfl rfl rfl (by omega) ((j11 276 (36 * y2 + y3 + 32) (by unfold kC80; omega)).trans rfl) (by omega) ?_
                        refine e_Ok.run (t' := (139, [(7, (0, 1)), (6, (0, z22)), (5, (0, w 276 (36 * y2 + y3 + 38))), (4, (0, 6 * y2 + y3)), (0, (1, 275)), (1, (0, y)), (2, (0, y2)), (3, (0, y3))], [(1, 275), (4, w 276 (36 * y2 + y3 + 32)), (0, 0), (1, 275)], v2)) 2 rfl ?_
                        refine e_Ok.getr (z := 288) rfl rfl rfl rfl ((j11 275 17 (by unfold kC80; omega)).trans (e_Has.eq hT rfl)) (by omega) ?_
                        refine e_Ok.run (t' := (144, [(7, (0, 1)), (6, (0, z22)), (5, (0, w 276 (36 * y2 + y3 + 38))), (4, (0, 6 * y2 + y3)), (0, (1, 275)), (1, (0, y)), (2, (0, y2)), (3, (0, y3))], [(0, 6 * y2 + y3), (1, 288), (4, w 276 (36 * y2 + y3 + 32)), (0, 0), (1, 275)], v2)) 1 rfl ?_
                        have h101 := (e_Has.get hT (c := 288) (k := 6 * y2 + y3) (lo := (-100000)) (hi := 0) rfl (by decide))
                        refine e_Ok.ald (z := w 288 (6 * y2 + y3)) rfl rfl rfl (by omega) ((j11 288 (6 * y2 + y3) (by unfold kC80; omega)).trans rfl) (by omega) ?_
                        refine e_Ok.run (t' := (147, [(7, (0, 1)), (6, (0, z22)), (5, (0, w 276 (36 * y2 + y3 + 38))), (4, (0, 6 * y2 + y3)), (0, (1, 275)), (1, (0, y)), (2, (0, y2)), (3, (0, y3))], [(1, 275), (4, w 288 (6 * y2 + y3)), (4, w 276 (36 * y2 + y3 + 32)), (0, 0), (1, 275)], v2)) 2 rfl ?_
                        refine e_Ok.getr (z := 289) rfl rfl rfl rfl ((j11 275 18 (by unfold kC80; omega)).trans (e_Has.eq hT rfl)) (by omega) ?_
                        refine e_Ok.run (t' := (152, [(7, (0, 1)), (6, (0, z22)), (5, (0, w 276 (36 * y2 + y3 + 38))), (4, (0, 6 * y2 + y3)), (0, (1, 275)), (1, (0, y)), (2, (0, y2)), (3, (0, y3))], [(0, 6 * y2 + y3), (1, 289), (4, w 288 (6 * y2 + y3)), (4, w 276 (36 * y2 + y3 + 32)), (0, 0), (1, 275)], v2)) 1 rfl ?_
                        have h103 := (e_Has.get hT (c := 289) (k := 6 * y2 + y3) (lo := 0) (hi := 100000) rfl (by decide))
                        refine e_Ok.ald (z := w 289 (6 * y2 + y3)) rfl rfl rfl (by omega) ((j11 289 (6 * y2 + y3) (by unfold kC80; omega)).trans rfl) (by omega) ?_
                        refine e_Ok.run (t' := (154, [(7, (0, 1)), (6, (0, z22)), (5, (0, w 276 (36 * y2 + y3 + 38))), (4, (0, 6 * y2 + y3)), (0, (1, 275)), (1, (0, y)), (2, (0, y2)), (3, (0, y3))], [(4, w 289 (6 * y2 + y3)), (4, w 288 (6 * y2 + y3)), (4, w 276 (36 * y2 + y3 + 32)), (0, 0), (1, 275)], v2)) 1 rfl ?_
                        refine e_Ok.callS rfl (by omega) rfl rfl (b_266) (fun r104 w105 h106 => ?_)
                        obtain ⟨z107, rfl, rfl, q108⟩ := h106
                        obtain ⟨rfl, q108⟩ | ⟨rfl, q108⟩ := q108
                        · show e_Ok 1 elay code1 eI (d + 1) 403 (157, [(7, (0, 1)), (6, (0, z22)), (5, (0, w 276 (36 * y2 + y3 + 38))), (4, (0, 6 * y2 + y3)), (0, (1, 275)), (1, (0, y)), (2, (0, y2)), (3, (0, y3))], [(0, 1), (0, 0), (1, 275)], v2) _
                          refine e_Ok.if1 rfl (fun h109 => ?_) (fun h109 => ?_)
                          · replace h109 : (1 : Int) = 0 := h109
                            exfalso; omega
                          · replace h109 : (1 : Int) ≠ 0 := by have q : ¬ ((1 : Int) = 0) := h109; omega
                            refine e_Ok.run (t' := (162, [(7, (0, 1)), (6, (0, z22)), (5, (0, w 276 (36 * y2 + y3 + 38))), (4, (0, 6 * y2 + y3)), (0, (1, 275)), (1, (0, y)), (2, (0, y2)), (3, (0, y3))], [(0, 1), (0, 0), (1, 275)], v2)) 1 rfl ?_
                            refine e_Ok.if1 rfl (fun h110 => ?_) (fun h110 => ?_)
                            · replace h110 : (1 : Int) = 0 := h110
                              exfalso; omega
                            · replace h110 : (1 : Int) ≠ 0 := by have q : ¬ ((1 : Int) = 0) := h110; omega
                              refine e_Ok.run (t' := (170, [(7, (0, 1)), (6, (0, z22)), (5, (0, w 276 (36 * y2 + y3 + 38))), (4, (0, 6 * y2 + y3)), (0, (1, 275)), (1, (0, y)), (2, (0, y2)), (3, (0, y3))], [(0, 1), (0, 0), (1, 275)], v2)) 2 rfl ?_
                              refine e_Ok.callV rfl (by omega) rfl rfl rfl rfl (b_389 j12 (by omega) j14 (h6.fr80 j11)) (fun r111 w112 h113 => ?_)
                              obtain ⟨rfl, q114, q114T, hz115⟩ := h113
                              have f116 : e_fr kC80 w w112 := e_fr.trans j11 (e_fr.mono q114 (fun c k q => by exact q))
                              show e_Ok 1 elay code1 eI (d + 1) 403 (173, [(7, (0, 1)), (6, (0, z22)), (5, (0, w 276 (36 * y2 + y3 + 38))), (4, (0, 6 * y2 + y3)), (0, (1, 275)), (1, (0, y)), (2, (0, y2)), (3, (0, y3))], [], w112) _
                              refine e_Ok.inc (z := y3 + 1) rfl rfl (by omega) (by omega) ?_
                              show e_Ok 1 elay code1 eI (d + 1) 403 (176, [(3, (0, y3 + 1)), (7, (0, 1)), (6, (0, z22)), (5, (0, w 276 (36 * y2 + y3 + 38))), (4, (0, 6 * y2 + y3)), (0, (1, 275)), (1, (0, y)), (2, (0, y2))], [], w112) _
                              refine e_Ok.run (t' := (12, [(3, (0, y3 + 1)), (7, (0, 1)), (6, (0, z22)), (5, (0, w 276 (36 * y2 + y3 + 38))), (4, (0, 6 * y2 + y3)), (0, (1, 275)), (1, (0, y)), (2, (0, y2))], [], w112)) 1 rfl ?_
                              refine e_Ok.sub c1lk (e_sub_of rfl ?_) (ih10 (y3 + 1) w112 ⟨f116, q114T, by omega, hz115⟩ (by omega))
                              exact ⟨rfl, rfl, rfl, rfl, trivial⟩
                        · show e_Ok 1 elay code1 eI (d + 1) 403 (157, [(7, (0, 1)), (6, (0, z22)), (5, (0, w 276 (36 * y2 + y3 + 38))), (4, (0, 6 * y2 + y3)), (0, (1, 275)), (1, (0, y)), (2, (0, y2)), (3, (0, y3))], [(0, 0), (0, 0), (1, 275)], v2) _
                          refine e_Ok.if1 rfl (fun h117 => ?_) (fun h117 => ?_)
                          · replace h117 : (0 : Int) = 0 := h117
                            refine e_Ok.run (t' := (170, [(7, (0, 1)), (6, (0, z22)), (5, (0, w 276 (36 * y2 + y3 + 38))), (4, (0, 6 * y2 + y3)), (0, (1, 275)), (1, (0, y)), (2, (0, y2)), (3, (0, y3))], [(0, 1), (0, 0), (1, 275)], v2)) 2 rfl ?_
                            refine e_Ok.callV rfl (by omega) rfl rfl rfl rfl (b_389 j12 (by omega) j14 (h6.fr80 j11)) (fun r118 w119 h120 => ?_)
                            obtain ⟨rfl, q121, q121T, hz122⟩ := h120
                            have f123 : e_fr kC80 w w119 := e_fr.trans j11 (e_fr.mono q121 (fun c k q => by exact q))
                            show e_Ok 1 elay code1 eI (d + 1) 403 (173, [(7, (0, 1)), (6, (0, z22)), (5, (0, w 276 (36 * y2 + y3 + 38))), (4, (0, 6 * y2 + y3)), (0, (1, 275)), (1, (0, y)), (2, (0, y2)), (3, (0, y3))], [], w119) _
                            refine e_Ok.inc (z := y3 + 1) rfl rfl (by omega) (by omega) ?_
                            show e_Ok 1 elay code1 eI (d + 1) 403 (176, [(3, (0, y3 + 1)), (7, (0, 1)), (6, (0, z22)), (5, (0, w 276 (36 * y2 + y3 + 38))), (4, (0, 6 * y2 + y3)), (0, (1, 275)), (1, (0, y)), (2, (0, y2))], [], w119) _
                            refine e_Ok.run (t' := (12, [(3, (0, y3 + 1)), (7, (0, 1)), (6, (0, z22)), (5, (0, w 276 (36 * y2 + y3 + 38))), (4, (0, 6 * y2 + y3)), (0, (1, 275)), (1, (0, y)), (2, (0, y2))], [], w119)) 1 rfl ?_
                            refine e_Ok.sub c1lk (e_sub_of rfl ?_) (ih10 (y3 + 1) w119 ⟨f123, q121T, by omega, hz122⟩ (by omega))
                            exact ⟨rfl, rfl, rfl, rfl, trivial⟩
                          · replace h117 : (0 : Int) ≠ 0 := by have q : ¬ ((0 : Int) = 0) := h117; omega
                            exfalso; omega
                · show e_Ok 1 elay code1 eI (d + 1) 403 (85, [(6, (0, z22)), (5, (0, w 276 (36 * y2 + y3 + 38))), (4, (0, 6 * y2 + y3)), (0, (1, 275)), (1, (0, y)), (2, (0, y2)), (3, (0, y3))], [(0, 0)], v2) _
                  refine e_Ok.if1 rfl (fun h124 => ?_) (fun h124 => ?_)
                  · replace h124 : (0 : Int) = 0 := h124
                    refine e_Ok.run (t' := (124, [(7, (0, 1)), (6, (0, z22)), (5, (0, w 276 (36 * y2 + y3 + 38))), (4, (0, 6 * y2 + y3)), (0, (1, 275)), (1, (0, y)), (2, (0, y2)), (3, (0, y3))], [(1, 275), (0, 0), (1, 275)], v2)) 6 rfl ?_
                    refine e_Ok.getr (z := 276) rfl rfl rfl rfl ((j11 275 0 (by unfold kC80; omega)).trans (e_Has.eq hT rfl)) (by omega) ?_
                    refine e_Ok.run (t' := (128, [(7, (0, 1)), (6, (0, z22)), (5, (0, w 276 (36 * y2 + y3 + 38))), (4, (0, 6 * y2 + y3)), (0, (1, 275)), (1, (0, y)), (2, (0, y2)), (3, (0, y3))], [(0, y2), (1, 276), (0, 0), (1, 275)], v2)) 1 rfl ?_
                    refine e_Ok.callS rfl (by omega) rfl rfl (b_268 (by omega)) (fun r125 w126 h127 => ?_)
                    obtain ⟨rfl, rfl⟩ := h127
                    show e_Ok 1 elay code1 eI (d + 1) 403 (131, [(7, (0, 1)), (6, (0, z22)), (5, (0, w 276 (36 * y2 + y3 + 38))), (4, (0, 6 * y2 + y3)), (0, (1, 275)), (1, (0, y)), (2, (0, y2)), (3, (0, y3))], [(0, 36 * y2 + 16), (1, 276), (0, 0), (1, 275)], v2) _
                    refine e_Ok.run (t' := (133, [(7, (0, 1)), (6, (0, z22)), (5, (0, w 276 (36 * y2 + y3 + 38))), (4, (0, 6 * y2 + y3)), (0, (1, 275)), (1, (0, y)), (2, (0, y2)), (3, (0, y3))], [(0, 16), (0, 36 * y2 + 16), (1, 276), (0, 0), (1, 275)], v2)) 1 rfl ?_
                    refine e_Ok.add (z := 36 * y2 + 32) rfl (by omega) (by omega) ?_
                    refine e_Ok.run (t' := (135, [(7, (0, 1)), (6, (0, z22)), (5, (0, w 276 (36 * y2 + y3 + 38))), (4, (0, 6 * y2 + y3)), (0, (1, 275)), (1, (0, y)), (2, (0, y2)), (3, (0, y3))], [(0, y3), (0, 36 * y2 + 32), (1, 276), (0, 0), (1, 275)], v2)) 1 rfl ?_
                    refine e_Ok.add (z := 36 * y2 + y3 + 32) rfl (by omega) (by omega) ?_
                    have h128 := (e_Has.get hT (c := 276) (k := 36 * y2 + y3 + 32) (lo := (-100000)) (hi := 100000) (nR_VALUE (a := y2) (j := y3) (by omega) (by omega)) (by decide))
                    refine e_Ok.ald (z := w 276 (36 * y2 + y3 + 32)) rfl rfl rfl (by omega) ((j11 276 (36 * y2 + y3 + 32) (by unfold kC80; omega)).trans rfl) (by omega) ?_
                    refine e_Ok.run (t' := (139, [(7, (0, 1)), (6, (0, z22)), (5, (0, w 276 (36 * y2 + y3 + 38))), (4, (0, 6 * y2 + y3)), (0, (1, 275)), (1, (0, y)), (2, (0, y2)), (3, (0, y3))], [(1, 275), (4, w 276 (36 * y2 + y3 + 32)), (0, 0), (1, 275)], v2)) 2 rfl ?_
                    refine e_Ok.getr (z := 288) rfl rfl rfl rfl ((j11 275 17 (by unfold kC80; omega)).trans (e_Has.eq hT rfl)) (by omega) ?_
                    refine e_Ok.run (t' := (144, [(7, (0, 1)), (6, (0, z22)), (5, (0, w 276 (36 * y2 + y3 + 38))), (4, (0, 6 * y2 + y3)), (0, (1, 275)), (1, (0, y)), (2, (0, y2)), (3, (0, y3))], [(0, 6 * y2 + y3), (1, 288), (4, w 276 (36 * y2 + y3 + 32)), (0, 0), (1, 275)], v2)) 1 rfl ?_
                    have h129 := (e_Has.get hT (c := 288) (k := 6 * y2 + y3) (lo := (-100000)) (hi := 0) rfl (by decide))
                    refine e_Ok.ald (z := w 288 (6 * y2 + y3)) rfl rfl rfl (by omega) ((j11 288 (6 * y2 + y3) (by unfold kC80; omega)).trans rfl) (by omega) ?_
                    refine e_Ok.run (t' := (147, [(7, (0, 1)), (6, (0, z22)), (5, (0, w 276 (36 * y2 + y3 + 38))), (4, (0, 6 * y2 + y3)), (0, (1, 275)), (1, (0, y)), (2, (0, y2)), (3, (0, y3))], [(1, 275), (4, w 288 (6 * y2 + y3)), (4, w 276 (36 * y2 + y3 + 32)), (0, 0), (1, 275)], v2)) 2 rfl ?_
                    refine e_Ok.getr (z := 289) rfl rfl rfl rfl ((j11 275 18 (by unfold kC80; omega)).trans (e_Has.eq hT rfl)) (by omega) ?_
                    refine e_Ok.run (t' := (152, [(7, (0, 1)), (6, (0, z22)), (5, (0, w 276 (36 * y2 + y3 + 38))), (4, (0, 6 * y2 + y3)), (0, (1, 275)), (1, (0, y)), (2, (0, y2)), (3, (0, y3))], [(0, 6 * y2 + y3), (1, 289), (4, w 288 (6 * y2 + y3)), (4, w 276 (36 * y2 + y3 + 32)), (0, 0), (1, 275)], v2)) 1 rfl ?_
                    have h130 := (e_Has.get hT (c := 289) (k := 6 * y2 + y3) (lo := 0) (hi := 100000) rfl (by decide))
                    refine e_Ok.ald (z := w 289 (6 * y2 + y3)) rfl rfl rfl (by omega) ((j11 289 (6 * y2 + y3) (by unfold kC80; omega)).trans rfl) (by omega) ?_
                    refine e_Ok.run (t' := (154, [(7, (0, 1)), (6, (0, z22)), (5, (0, w 276 (36 * y2 + y3 + 38))), (4, (0, 6 * y2 + y3)), (0, (1, 275)), (1, (0, y)), (2, (0, y2)), (3, (0, y3))], [(4, w 289 (6 * y2 + y3)), (4, w 288 (6 * y2 + y3)), (4, w 276 (36 * y2 + y3 + 32)), (0, 0), (1, 275)], v2)) 1 rfl ?_
                    refine e_Ok.callS rfl (by omega) rfl rfl (b_266) (fun r131 w132 h133 => ?_)
                    obtain ⟨z134, rfl, rfl, q135⟩ := h133
                    obtain ⟨rfl, q135⟩ | ⟨rfl, q135⟩ := q135
                    · show e_Ok 1 elay code1 eI (d + 1) 403 (157, [(7, (0, 1)), (6, (0, z22)), (5, (0, w 276 (36 * y2 + y3 + 38))), (4, (0, 6 * y2 + y3)), (0, (1, 275)), (1, (0, y)), (2, (0, y2)), (3, (0, y3))], [(0, 1), (0, 0), (1, 275)], v2) _
                      refine e_Ok.if1 rfl (fun h136 => ?_) (fun h136 => ?_)
                      · replace h136 : (1 : Int) = 0 := h136
                        exfalso; omega
                      · replace h136 : (1 : Int) ≠ 0 := by have q : ¬ ((1 : Int) = 0) := h136; omega
                        refine e_Ok.run (t' := (162, [(7, (0, 1)), (6, (0, z22)), (5, (0, w 276 (36 * y2 + y3 + 38))), (4, (0, 6 * y2 + y3)), (0, (1, 275)), (1, (0, y)), (2, (0, y2)), (3, (0, y3))], [(0, 1), (0, 0), (1, 275)], v2)) 1 rfl ?_
                        refine e_Ok.if1 rfl (fun h137 => ?_) (fun h137 => ?_)
                        · replace h137 : (1 : Int) = 0 := h137
                          exfalso; omega
                        · replace h137 : (1 : Int) ≠ 0 := by have q : ¬ ((1 : Int) = 0) := h137; omega
                          refine e_Ok.run (t' := (170, [(7, (0, 1)), (6, (0, z22)), (5, (0, w 276 (36 * y2 + y3 + 38))), (4, (0, 6 * y2 + y3)), (0, (1, 275)), (1, (0, y)), (2, (0, y2)), (3, (0, y3))], [(0, 1), (0, 0), (1, 275)], v2)) 2 rfl ?_
                          refine e_Ok.callV rfl (by omega) rfl rfl rfl rfl (b_389 j12 (by omega) j14 (h6.fr80 j11)) (fun r138 w139 h140 => ?_)
                          obtain ⟨rfl, q141, q141T, hz142⟩ := h140
                          have f143 : e_fr kC80 w w139 := e_fr.trans j11 (e_fr.mono q141 (fun c k q => by exact q))
                          show e_Ok 1 elay code1 eI (d + 1) 403 (173, [(7, (0, 1)), (6, (0, z22)), (5, (0, w 276 (36 * y2 + y3 + 38))), (4, (0, 6 * y2 + y3)), (0, (1, 275)), (1, (0, y)), (2, (0, y2)), (3, (0, y3))], [], w139) _
                          refine e_Ok.inc (z := y3 + 1) rfl rfl (by omega) (by omega) ?_
                          show e_Ok 1 elay code1 eI (d + 1) 403 (176, [(3, (0, y3 + 1)), (7, (0, 1)), (6, (0, z22)), (5, (0, w 276 (36 * y2 + y3 + 38))), (4, (0, 6 * y2 + y3)), (0, (1, 275)), (1, (0, y)), (2, (0, y2))], [], w139) _
                          refine e_Ok.run (t' := (12, [(3, (0, y3 + 1)), (7, (0, 1)), (6, (0, z22)), (5, (0, w 276 (36 * y2 + y3 + 38))), (4, (0, 6 * y2 + y3)), (0, (1, 275)), (1, (0, y)), (2, (0, y2))], [], w139)) 1 rfl ?_
                          refine e_Ok.sub c1lk (e_sub_of rfl ?_) (ih10 (y3 + 1) w139 ⟨f143, q141T, by omega, hz142⟩ (by omega))
                          exact ⟨rfl, rfl, rfl, rfl, trivial⟩
                    · show e_Ok 1 elay code1 eI (d + 1) 403 (157, [(7, (0, 1)), (6, (0, z22)), (5, (0, w 276 (36 * y2 + y3 + 38))), (4, (0, 6 * y2 + y3)), (0, (1, 275)), (1, (0, y)), (2, (0, y2)), (3, (0, y3))], [(0, 0), (0, 0), (1, 275)], v2) _
                      refine e_Ok.if1 rfl (fun h144 => ?_) (fun h144 => ?_)
                      · replace h144 : (0 : Int) = 0 := h144
                        refine e_Ok.run (t' := (170, [(7, (0, 1)), (6, (0, z22)), (5, (0, w 276 (36 * y2 + y3 + 38))), (4, (0, 6 * y2 + y3)), (0, (1, 275)), (1, (0, y)), (2, (0, y2)), (3, (0, y3))], [(0, 1), (0, 0), (1, 275)], v2)) 2 rfl ?_
                        refine e_Ok.callV rfl (by omega) rfl rfl rfl rfl (b_389 j12 (by omega) j14 (h6.fr80 j11)) (fun r145 w146 h147 => ?_)
                        obtain ⟨rfl, q148, q148T, hz149⟩ := h147
                        have f150 : e_fr kC80 w w146 := e_fr.trans j11 (e_fr.mono q148 (fun c k q => by exact q))
                        show e_Ok 1 elay code1 eI (d + 1) 403 (173, [(7, (0, 1)), (6, (0, z22)), (5, (0, w 276 (36 * y2 + y3 + 38))), (4, (0, 6 * y2 + y3)), (0, (1, 275)), (1, (0, y)), (2, (0, y2)), (3, (0, y3))], [], w146) _
                        refine e_Ok.inc (z := y3 + 1) rfl rfl (by omega) (by omega) ?_
                        show e_Ok 1 elay code1 eI (d + 1) 403 (176, [(3, (0, y3 + 1)), (7, (0, 1)), (6, (0, z22)), (5, (0, w 276 (36 * y2 + y3 + 38))), (4, (0, 6 * y2 + y3)), (0, (1, 275)), (1, (0, y)), (2, (0, y2))], [], w146) _
                        refine e_Ok.run (t' := (12, [(3, (0, y3 + 1)), (7, (0, 1)), (6, (0, z22)), (5, (0, w 276 (36 * y2 + y3 + 38))), (4, (0, 6 * y2 + y3)), (0, (1, 275)), (1, (0, y)), (2, (0, y2))], [], w146)) 1 rfl ?_
                        refine e_Ok.sub c1lk (e_sub_of rfl ?_) (ih10 (y3 + 1) w146 ⟨f150, q148T, by omega, hz149⟩ (by omega))
                        exact ⟨rfl, rfl, rfl, rfl, trivial⟩
                      · replace h144 : (0 : Int) ≠ 0 := by have q : ¬ ((0 : Int) = 0) := h144; omega
                        exfalso; omega
                  · replace h124 : (0 : Int) ≠ 0 := by have q : ¬ ((0 : Int) = 0) := h124; omega
                    exfalso; omega
        refine e_Ok.sub c1lk (e_sub_of rfl ?_) (hL9 (7 + 1 : Int).toNat 0 v1 ⟨j3, j4, by omega, j6⟩ (by omega))
        exact ⟨rfl, rfl, rfl, rfl, trivial⟩
  refine e_Ok.sub c1lk (e_sub_of rfl ?_) (hL1 (5 + 1 : Int).toNat 0 w ⟨(e_fr.refl w), hT, by omega, hz⟩ (by omega))
  exact ⟨rfl, rfl, rfl, trivial⟩
theorem e_Good.bare {ft : Nat → Nat → Nat} {cl : List vw_C} {lay : List eY} {ad : List Nat} {ce sl nL : Nat} {p : Program} {l : Launch} {e : Env} {R : Room} {s : State} {m : MethodId} {args : Array Value} {below : List Frame} {meth : Method} {c : Code} {D : va_G} {A : Nat → Prop} {H0 : Heap} {Q : State → Prop} {pc : Nat} {l' : eL} {st : List eV} {w : eW} (h : e_Good ft cl lay ad ce sl nL p l e R s m args below meth c D A H0 Q (pc, [], st, w)) : e_Good ft cl lay ad ce sl nL p l e R s m args below meth c D A H0 Q (pc, l', st, w) := fun ls stk H locs hI => by
  obtain ⟨lv, ws, tys, h1, h2, h3⟩ := hI
  exact h ls stk H locs ⟨[], ws, tys, ⟨h1.1, h1.2.1, fun _ q => absurd q List.not_mem_nil⟩, trivial, h3⟩
theorem mac_403 {l : Launch} : e_Mac 20 eft cls elay (eI 403) l 0 e_mCj := by
  intro d ad ce sl p e R s m args below meth c D A H0 Q hfd C hce hsl hd hdl hA t t' l' u ht hf hs hu IH
  obtain ⟨pc0, l0, st, w⟩ := t
  subst ht
  unfold e_mCj at hf
  simp only at hf
  split at hf
  · rename_i j x h0 h1
    split at hf
    · rename_i hc
      cases hf
      obtain ⟨rfl, hTy⟩ := hc
      intro ls stk H locs hI
      have hI2 := hI
      obtain ⟨lv, ws, tys, k1, k2, k3, k4, k5, k6, k7, k8⟩ := hI
      have hu2 : e_rf w u := hu
      have hTu : e_Has mTy u := hTy.rf hu2
      have e346 : e_kn u 346 0 23 := fun i g0 g1 => by
        have z := k4.ar (j := 346) (n := 24) rfl i.toNat (by omega)
        rw [show ((i.toNat : Nat) : Int) = i by omega] at z
        exact z
      have e280 : e_kn u 280 0 3 := fun i g0 g1 => by
        have z := k4.ar (j := 280) (n := 4) rfl i.toNat (by omega)
        rw [show ((i.toNat : Nat) : Int) = i by omega] at z
        exact z
      obtain ⟨n, r, w', hgo, hr, hfr⟩ := b_403 (d := 20) (by omega) hTu (y := x) e346 e280 (k4.fd (j := 275) (c := 12) (n := 119) rfl 6 (by decide) rfl)
      subst hr
      have key := e_frm (l := l) code1_tab n 20 403 _ [] w' hgo C hce hsl (by omega) (by omega) hA (Q := Q) (e := e) (below := below) (D := D) (fun t1 f k b hc1 hr1 hw1 => by
        obtain ⟨p1, l1, st1, w1⟩ := t1
        have hw2 : w1 = w' := hw1
        subst hw2
        have e1 : p1 = 185 ∧ k = 0 := b403_ret p1 f k b hc1
        obtain ⟨rfl, rfl⟩ := e1
        have hst : st1 = [] := by
          match st1, hr1 with
          | [], _ => rfl
        subst hst
        exact e_Good.bare (IH [] w1 ⟨List.nodup_nil, fun _ q => absurd q List.not_mem_nil⟩ (hv_rf hu2 hfr)))
      exact e_Good.two (hs.find h0) (hs.find h1) key ls stk H locs hI2
    · cases hf
  · cases hf
end
