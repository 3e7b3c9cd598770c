noncomputable section
/-! the model: program -/
/-- as the model begins to read -/
def pgI (v v0 : eW) : Prop := (v0 275 88 = 0 ∧ v0 275 87 = 0 ∧ v0 275 83 = 0 ∧ v0 275 82 = -1 ∧ v0 275 94 = 0 ∧ v0 275 80 = 0) ∧ (v0 338 4 = 0 ∧ v0 339 4 = 0) ∧ (∀ i, v0 281 i = v 281 i) ∧ (∀ k, k < 78 → v0 275 k = v 275 k) ∧ (∀ k, 90 ≤ k → k ≤ 93 → v0 275 k = v 275 k)
/-- a run of the model's method M without numbers -/
def mRu (M : Nat) (v v' : eW) : Prop := ∃ d r, e_Rn 20 elay ecode eI d M (0, [(0, (1, 275))], [], v) r v'
theorem pgI.rw {v v0 : eW} (h : pgI v v0) (g : mRw v) : mRw v0 := fun q hq => by
  have d : mRL.all (fun q => decide (q.1 < 78 ∨ (90 ≤ q.1 ∧ q.1 ≤ 93))) = true := by decide +kernel
  have d2 := of_decide_eq_true (List.all_eq_true.mp d q hq)
  rcases d2 with d2 | d2
  · exact (h.2.2.2.1 _ d2).trans (g q hq)
  · exact (h.2.2.2.2 _ d2.1 d2.2).trans (g q hq)
theorem mRu.ret {M : Nat} {n dq : Nat} {v : eW} {Q : List eV → eW → Prop} (h : e_Pn 20 elay ecode eI n dq M (0, [(0, (1, 275))], [], v) Q) : e_Pn 20 elay ecode eI n dq M (0, [(0, (1, 275))], [], v) (fun r v' => mRu M v v' ∧ Q r v') := (e_Pn.and (e_Rn.self n) h).imp (fun r v' q => ⟨⟨dq, r, q.1⟩, q.2⟩)
set_option maxHeartbeats 4000000 in
theorem l_357 {n d : Nat} {w : eW} (hT : e_Has mTy w) {x : Int} (gx : -2147483648 ≤ x ∧ x ≤ 2147483647) : e_Pn 20 elay ecode eI n d 357 (0, [(0, (1, 275)), (1, (0, x))], [], w) (fun r w' => (r = [(0, -1)] ∧ (x < 0 ∨ w 275 10 ≤ x)) ∨ ((0 ≤ x ∧ x < w 275 10) ∧ ((w 275 3 ≠ 0 ∧ r = [(0, -2)]) ∨ (w 275 3 = 0 ∧ ∃ v0 v1 v2 v3, pgI w v0 ∧ mRu 327 v0 v1 ∧ mRu 353 v1 v2 ∧ mRu 356 v2 v3 ∧ ((v3 275 88 ≠ 0 ∧ r = [(0, e32 (-10 - v3 275 89))]) ∨ (v3 275 88 = 0 ∧ r = [(0, v3 338 4)])))))) := by
  have hR := mRw.of hT
  refine e_Pn.run (t' := (2, [(0, (1, 275)), (1, (0, x))], [(0, x), (1, 275)], w)) eAlk 2 rfl ?_
  refine e_Pn.callA rfl (fun nq dq => e_Ok.pnA (D0 := 600) (fun D hD => c_270 (by omega) hT) nq dq) (fun r1 w2 h3 => ?_)
  obtain ⟨z4, rfl, rfl, z4q⟩ := h3
  show e_Pn 20 elay ecode eI n d 357 (5, [(0, (1, 275)), (1, (0, x))], [(0, z4)], w) _
  refine e_Pn.if1 eAlk rfl (fun h5 => ?_) (fun h5 => ?_)
  · replace h5 : (z4 : Int) ≠ 0 := h5
    show e_Pn 20 elay ecode eI n d 357 (10, [(0, (1, 275)), (1, (0, x))], [], w) _
    refine e_Pn.run (t' := (11, [(0, (1, 275)), (1, (0, x))], [(1, 275)], w)) eAlk 1 rfl ?_
    refine e_Pn.getf (z := w 275 3) eAlk rfl rfl rfl (fun b6 => ?_)
    refine e_Pn.if1 eAlk rfl (fun h7 => ?_) (fun h7 => ?_)
    · replace h7 : (w 275 3 : Int) = 0 := h7
      show e_Pn 20 elay ecode eI n d 357 (20, [(0, (1, 275)), (1, (0, x))], [], w) _
      refine e_Pn.run (t' := (22, [(0, (1, 275)), (1, (0, x))], [(0, 1), (1, 275)], w)) eAlk 2 rfl ?_
      refine e_Pn.putf eAlk rfl rfl ?_
      generalize hw8 : e_up w 275 95 1 = w8
      refine e_Pn.run (t' := (27, [(0, (1, 275)), (1, (0, x))], [(0, 0), (1, 275)], w8)) eAlk 2 rfl ?_
      refine e_Pn.putf eAlk rfl rfl ?_
      generalize hw9 : e_up w8 275 88 0 = w9
      refine e_Pn.run (t' := (32, [(0, (1, 275)), (1, (0, x))], [(0, (-1)), (1, 275)], w9)) eAlk 2 rfl ?_
      refine e_Pn.putf eAlk rfl rfl ?_
      generalize hw10 : e_up w9 275 89 (-1) = w10
      refine e_Pn.run (t' := (37, [(0, (1, 275)), (1, (0, x))], [(0, 0), (1, 275)], w10)) eAlk 2 rfl ?_
      refine e_Pn.putf eAlk rfl rfl ?_
      generalize hw11 : e_up w10 275 78 0 = w11
      refine e_Pn.run (t' := (42, [(0, (1, 275)), (1, (0, x))], [(0, 0), (1, 275)], w11)) eAlk 2 rfl ?_
      refine e_Pn.putf eAlk rfl rfl ?_
      generalize hw12 : e_up w11 275 79 0 = w12
      refine e_Pn.run (t' := (47, [(0, (1, 275)), (1, (0, x))], [(0, 0), (1, 275)], w12)) eAlk 2 rfl ?_
      refine e_Pn.putf eAlk rfl rfl ?_
      generalize hw13 : e_up w12 275 80 0 = w13
      refine e_Pn.run (t' := (52, [(0, (1, 275)), (1, (0, x))], [(0, (-1)), (1, 275)], w13)) eAlk 2 rfl ?_
      refine e_Pn.putf eAlk rfl rfl ?_
      generalize hw14 : e_up w13 275 81 (-1) = w14
      refine e_Pn.run (t' := (57, [(0, (1, 275)), (1, (0, x))], [(0, (-1)), (1, 275)], w14)) eAlk 2 rfl ?_
      refine e_Pn.putf eAlk rfl rfl ?_
      generalize hw15 : e_up w14 275 82 (-1) = w15
      refine e_Pn.run (t' := (62, [(0, (1, 275)), (1, (0, x))], [(0, 0), (1, 275)], w15)) eAlk 2 rfl ?_
      refine e_Pn.putf eAlk rfl rfl ?_
      generalize hw16 : e_up w15 275 83 0 = w16
      refine e_Pn.run (t' := (67, [(0, (1, 275)), (1, (0, x))], [(0, 0), (1, 275)], w16)) eAlk 2 rfl ?_
      refine e_Pn.putf eAlk rfl rfl ?_
      generalize hw17 : e_up w16 275 94 0 = w17
      refine e_Pn.run (t' := (71, [(0, (1, 275)), (1, (0, x))], [(1, 275)], w17)) eAlk 1 rfl ?_
      refine e_Pn.getr (z := 339) eAlk rfl rfl (Eq.trans (by rw [← hw17]; exact (e_up_ne _ _ (Or.inr (by omega))).trans (by rw [← hw16]; exact (e_up_ne _ _ (Or.inr (by omega))).trans (by rw [← hw15]; exact (e_up_ne _ _ (Or.inr (by omega))).trans (by rw [← hw14]; exact (e_up_ne _ _ (Or.inr (by omega))).trans (by rw [← hw13]; exact (e_up_ne _ _ (Or.inr (by omega))).trans (by rw [← hw12]; exact (e_up_ne _ _ (Or.inr (by omega))).trans (by rw [← hw11]; exact (e_up_ne _ _ (Or.inr (by omega))).trans (by rw [← hw10]; exact (e_up_ne _ _ (Or.inr (by omega))).trans (by rw [← hw9]; exact (e_up_ne _ _ (Or.inr (by omega))).trans (by rw [← hw8]; exact (e_up_ne _ _ (Or.inr (by omega))).trans rfl)))))))))) (e_Has.eq hT (c := 275) (k := 76) (v := 339) rfl)) (by omega) ?_
      refine e_Pn.run (t' := (76, [(0, (1, 275)), (1, (0, x))], [(0, 0), (0, 4), (1, 339)], w17)) eAlk 2 rfl ?_
      refine e_Pn.ast eAlk rfl rfl rfl (fun b18 b19 => ?_)
      generalize hw20 : e_up w17 339 4 0 = w20
      refine e_Pn.run (t' := (78, [(0, (1, 275)), (1, (0, x))], [(1, 275)], w20)) eAlk 1 rfl ?_
      refine e_Pn.getr (z := 338) eAlk rfl rfl (Eq.trans (by rw [← hw20]; exact (e_up_ne _ _ (Or.inl (by omega))).trans (by rw [← hw17]; exact (e_up_ne _ _ (Or.inr (by omega))).trans (by rw [← hw16]; exact (e_up_ne _ _ (Or.inr (by omega))).trans (by rw [← hw15]; exact (e_up_ne _ _ (Or.inr (by omega))).trans (by rw [← hw14]; exact (e_up_ne _ _ (Or.inr (by omega))).trans (by rw [← hw13]; exact (e_up_ne _ _ (Or.inr (by omega))).trans (by rw [← hw12]; exact (e_up_ne _ _ (Or.inr (by omega))).trans (by rw [← hw11]; exact (e_up_ne _ _ (Or.inr (by omega))).trans (by rw [← hw10]; exact (e_up_ne _ _ (Or.inr (by omega))).trans (by rw [← hw9]; exact (e_up_ne _ _ (Or.inr (by omega))).trans (by rw [← hw8]; exact (e_up_ne _ _ (Or.inr (by omega))).trans rfl))))))))))) (e_Has.eq hT (c := 275) (k := 75) (v := 338) rfl)) (by omega) ?_
      refine e_Pn.run (t' := (83, [(0, (1, 275)), (1, (0, x))], [(0, 0), (0, 4), (1, 338)], w20)) eAlk 2 rfl ?_
      refine e_Pn.ast eAlk rfl rfl rfl (fun b21 b22 => ?_)
      generalize hw23 : e_up w20 338 4 0 = w23
      refine e_Pn.run (t' := (86, [(0, (1, 275)), (1, (0, x))], [(0, 0), (1, 275)], w23)) eAlk 2 rfl ?_
      refine e_Pn.putf eAlk rfl rfl ?_
      generalize hw24 : e_up w23 275 87 0 = w24
      have hI : pgI w w24 := ⟨⟨(by rw [← hw24]; exact (e_up_ne _ _ (Or.inr (by omega))).trans (by rw [← hw23]; exact (e_up_ne _ _ (Or.inl (by omega))).trans (by rw [← hw20]; exact (e_up_ne _ _ (Or.inl (by omega))).trans (by rw [← hw17]; exact (e_up_ne _ _ (Or.inr (by omega))).trans (by rw [← hw16]; exact (e_up_ne _ _ (Or.inr (by omega))).trans (by rw [← hw15]; exact (e_up_ne _ _ (Or.inr (by omega))).trans (by rw [← hw14]; exact (e_up_ne _ _ (Or.inr (by omega))).trans (by rw [← hw13]; exact (e_up_ne _ _ (Or.inr (by omega))).trans (by rw [← hw12]; exact (e_up_ne _ _ (Or.inr (by omega))).trans (by rw [← hw11]; exact (e_up_ne _ _ (Or.inr (by omega))).trans (by rw [← hw10]; exact (e_up_ne _ _ (Or.inr (by omega))).trans (by rw [← hw9]; exact e_up_eq _ _ _ _)))))))))))), (by rw [← hw24]; exact e_up_eq _ _ _ _), (by rw [← hw24]; exact (e_up_ne _ _ (Or.inr (by omega))).trans (by rw [← hw23]; exact (e_up_ne _ _ (Or.inl (by omega))).trans (by rw [← hw20]; exact (e_up_ne _ _ (Or.inl (by omega))).trans (by rw [← hw17]; exact (e_up_ne _ _ (Or.inr (by omega))).trans (by rw [← hw16]; exact e_up_eq _ _ _ _))))), (by rw [← hw24]; exact (e_up_ne _ _ (Or.inr (by omega))).trans (by rw [← hw23]; exact (e_up_ne _ _ (Or.inl (by omega))).trans (by rw [← hw20]; exact (e_up_ne _ _ (Or.inl (by omega))).trans (by rw [← hw17]; exact (e_up_ne _ _ (Or.inr (by omega))).trans (by rw [← hw16]; exact (e_up_ne _ _ (Or.inr (by omega))).trans (by rw [← hw15]; exact e_up_eq _ _ _ _)))))), (by rw [← hw24]; exact (e_up_ne _ _ (Or.inr (by omega))).trans (by rw [← hw23]; exact (e_up_ne _ _ (Or.inl (by omega))).trans (by rw [← hw20]; exact (e_up_ne _ _ (Or.inl (by omega))).trans (by rw [← hw17]; exact e_up_eq _ _ _ _)))), (by rw [← hw24]; exact (e_up_ne _ _ (Or.inr (by omega))).trans (by rw [← hw23]; exact (e_up_ne _ _ (Or.inl (by omega))).trans (by rw [← hw20]; exact (e_up_ne _ _ (Or.inl (by omega))).trans (by rw [← hw17]; exact (e_up_ne _ _ (Or.inr (by omega))).trans (by rw [← hw16]; exact (e_up_ne _ _ (Or.inr (by omega))).trans (by rw [← hw15]; exact (e_up_ne _ _ (Or.inr (by omega))).trans (by rw [← hw14]; exact (e_up_ne _ _ (Or.inr (by omega))).trans (by rw [← hw13]; exact e_up_eq _ _ _ _))))))))⟩, ⟨(by rw [← hw24]; exact (e_up_ne _ _ (Or.inl (by omega))).trans (by rw [← hw23]; exact e_up_eq _ _ _ _)), (by rw [← hw24]; exact (e_up_ne _ _ (Or.inl (by omega))).trans (by rw [← hw23]; exact (e_up_ne _ _ (Or.inl (by omega))).trans (by rw [← hw20]; exact e_up_eq _ _ _ _)))⟩, fun i => (by rw [← hw24]; exact (e_up_ne _ _ (Or.inl (by omega))).trans (by rw [← hw23]; exact (e_up_ne _ _ (Or.inl (by omega))).trans (by rw [← hw20]; exact (e_up_ne _ _ (Or.inl (by omega))).trans (by rw [← hw17]; exact (e_up_ne _ _ (Or.inl (by omega))).trans (by rw [← hw16]; exact (e_up_ne _ _ (Or.inl (by omega))).trans (by rw [← hw15]; exact (e_up_ne _ _ (Or.inl (by omega))).trans (by rw [← hw14]; exact (e_up_ne _ _ (Or.inl (by omega))).trans (by rw [← hw13]; exact (e_up_ne _ _ (Or.inl (by omega))).trans (by rw [← hw12]; exact (e_up_ne _ _ (Or.inl (by omega))).trans (by rw [← hw11]; exact (e_up_ne _ _ (Or.inl (by omega))).trans (by rw [← hw10]; exact (e_up_ne _ _ (Or.inl (by omega))).trans (by rw [← hw9]; exact (e_up_ne _ _ (Or.inl (by omega))).trans (by rw [← hw8]; exact (e_up_ne _ _ (Or.inl (by omega))).trans rfl))))))))))))), fun k hk => (by rw [← hw24]; exact (e_up_ne _ _ (Or.inr (by omega))).trans (by rw [← hw23]; exact (e_up_ne _ _ (Or.inl (by omega))).trans (by rw [← hw20]; exact (e_up_ne _ _ (Or.inl (by omega))).trans (by rw [← hw17]; exact (e_up_ne _ _ (Or.inr (by omega))).trans (by rw [← hw16]; exact (e_up_ne _ _ (Or.inr (by omega))).trans (by rw [← hw15]; exact (e_up_ne _ _ (Or.inr (by omega))).trans (by rw [← hw14]; exact (e_up_ne _ _ (Or.inr (by omega))).trans (by rw [← hw13]; exact (e_up_ne _ _ (Or.inr (by omega))).trans (by rw [← hw12]; exact (e_up_ne _ _ (Or.inr (by omega))).trans (by rw [← hw11]; exact (e_up_ne _ _ (Or.inr (by omega))).trans (by rw [← hw10]; exact (e_up_ne _ _ (Or.inr (by omega))).trans (by rw [← hw9]; exact (e_up_ne _ _ (Or.inr (by omega))).trans (by rw [← hw8]; exact (e_up_ne _ _ (Or.inr (by omega))).trans rfl))))))))))))), fun k h1 h2 => (by rw [← hw24]; exact (e_up_ne _ _ (Or.inr (by omega))).trans (by rw [← hw23]; exact (e_up_ne _ _ (Or.inl (by omega))).trans (by rw [← hw20]; exact (e_up_ne _ _ (Or.inl (by omega))).trans (by rw [← hw17]; exact (e_up_ne _ _ (Or.inr (by omega))).trans (by rw [← hw16]; exact (e_up_ne _ _ (Or.inr (by omega))).trans (by rw [← hw15]; exact (e_up_ne _ _ (Or.inr (by omega))).trans (by rw [← hw14]; exact (e_up_ne _ _ (Or.inr (by omega))).trans (by rw [← hw13]; exact (e_up_ne _ _ (Or.inr (by omega))).trans (by rw [← hw12]; exact (e_up_ne _ _ (Or.inr (by omega))).trans (by rw [← hw11]; exact (e_up_ne _ _ (Or.inr (by omega))).trans (by rw [← hw10]; exact (e_up_ne _ _ (Or.inr (by omega))).trans (by rw [← hw9]; exact (e_up_ne _ _ (Or.inr (by omega))).trans (by rw [← hw8]; exact (e_up_ne _ _ (Or.inr (by omega))).trans rfl)))))))))))))⟩
      have hr0 := pgI.rw hI hR
      refine e_Pn.run (t' := (90, [(0, (1, 275)), (1, (0, x))], [(1, 275)], w24)) eAlk 1 rfl ?_
      refine e_Pn.callA rfl (fun nq dq => mRu.ret (u_327 hr0)) (fun r25 w26 h27 => ?_)
      obtain ⟨v1R, rfl, v1m⟩ := h27
      show e_Pn 20 elay ecode eI n d 357 (93, [(0, (1, 275)), (1, (0, x))], [], w26) _
      refine e_Pn.run (t' := (94, [(0, (1, 275)), (1, (0, x))], [(1, 275)], w26)) eAlk 1 rfl ?_
      refine e_Pn.callA rfl (fun nq dq => mRu.ret (u_353 (v1m.rf hr0))) (fun r28 w29 h30 => ?_)
      obtain ⟨v2R, rfl, v2m⟩ := h30
      have hr2 := v2m.rf (v1m.rf hr0)
      have hx2 : w29 275 74 = 337 ∧ w29 275 75 = 338 ∧ w29 275 76 = 339 ∧ w29 275 0 = 276 ∧ w29 275 77 = 340 := by
        have a := v1m.2.2.2.2; have b := v2m.2.2.2.2; unfold mz at a b; have c := hI.2.2.2.1; exact ⟨b.2.2.1.trans (a.2.2.1.trans ((c 74 (by decide)).trans (e_Has.eq hT (c := 275) (k := 74) (v := 337) rfl))), b.2.2.2.1.trans (a.2.2.2.1.trans ((c 75 (by decide)).trans (e_Has.eq hT (c := 275) (k := 75) (v := 338) rfl))), b.2.2.2.2.1.trans (a.2.2.2.2.1.trans ((c 76 (by decide)).trans (e_Has.eq hT (c := 275) (k := 76) (v := 339) rfl))), b.2.2.2.2.2.1.trans (a.2.2.2.2.2.1.trans ((c 0 (by decide)).trans (e_Has.eq hT (c := 275) (k := 0) (v := 276) rfl))), b.2.2.2.2.2.2.trans (a.2.2.2.2.2.2.trans ((c 77 (by decide)).trans (e_Has.eq hT (c := 275) (k := 77) (v := 340) rfl)))⟩
      show e_Pn 20 elay ecode eI n d 357 (97, [(0, (1, 275)), (1, (0, x))], [], w29) _
      refine e_Pn.run (t' := (98, [(0, (1, 275)), (1, (0, x))], [(1, 275)], w29)) eAlk 1 rfl ?_
      refine e_Pn.callA rfl (fun nq dq => mRu.ret (y_356 hr2 ⟨hx2.2.2.1, hx2.2.1, hx2.1⟩)) (fun r31 w32 h33 => ?_)
      obtain ⟨v3R, rfl, v3m⟩ := h33
      have hr3 := v3m
      have hx3 := v3m.2
      show e_Pn 20 elay ecode eI n d 357 (101, [(0, (1, 275)), (1, (0, x))], [], w32) _
      refine e_Pn.run (t' := (103, [(0, (1, 275)), (1, (0, x))], [(0, 0), (1, 275)], w32)) eAlk 2 rfl ?_
      refine e_Pn.putf eAlk rfl rfl ?_
      generalize hw34 : e_up w32 275 9 0 = w34
      refine e_Pn.run (t' := (107, [(0, (1, 275)), (1, (0, x))], [(1, 275)], w34)) eAlk 1 rfl ?_
      refine e_Pn.getf (z := w32 275 88) eAlk rfl rfl (by rw [← hw34]; exact (e_up_ne _ _ (Or.inr (by omega))).trans rfl) (fun b35 => ?_)
      refine e_Pn.if1 eAlk rfl (fun h36 => ?_) (fun h36 => ?_)
      · replace h36 : (w32 275 88 : Int) = 0 := h36
        show e_Pn 20 elay ecode eI n d 357 (121, [(0, (1, 275)), (1, (0, x))], [], w34) _
        refine e_Pn.run (t' := (123, [(2, (0, 0)), (0, (1, 275)), (1, (0, x))], [], w34)) eAlk 2 rfl ?_
        have hL37 : ∀ nn39 : Nat, nn39 ≤ n → ∀ (tl40 : eL) (y123 : Int) (w123 : eW), (0 ≤ y123) ∧ (∀ k, w123 275 k = w34 275 k) ∧ (∀ i, w123 338 i = w34 338 i) → e_Pn 20 elay ecode eI nn39 d 357 (123, (0, (1, 275)) :: (1, (0, x)) :: (2, (0, y123)) :: tl40, [], w123) (fun r w' => (r = [(0, -1)] ∧ (x < 0 ∨ w 275 10 ≤ x)) ∨ ((0 ≤ x ∧ x < w 275 10) ∧ ((w 275 3 ≠ 0 ∧ r = [(0, -2)]) ∨ (w 275 3 = 0 ∧ ∃ v0 v1 v2 v3, pgI w v0 ∧ mRu 327 v0 v1 ∧ mRu 353 v1 v2 ∧ mRu 356 v2 v3 ∧ ((v3 275 88 ≠ 0 ∧ r = [(0, e32 (-10 - v3 275 89))]) ∨ (v3 275 88 = 0 ∧ r = [(0, v3 338 4)])))))) := by
          intro nn39
          induction nn39 with
          | zero => intro _ tl40 y123 w123 _; exact e_Pn.zero
          | succ nn39 ih38 =>
            intro hnnn39 tl40 y123 w123 hj
            obtain ⟨j41, j123, j1232⟩ := hj
            refine e_Pn.runS (t' := (125, (0, (1, 275)) :: (1, (0, x)) :: (2, (0, y123)) :: tl40, [(1, 275), (0, y123)], w123)) eAlk 1 rfl ?_
            refine e_Pn.getf (z := w32 275 78) eAlk rfl rfl (Eq.trans (j123 78) (by rw [← hw34]; exact (e_up_ne _ _ (Or.inr (by omega))).trans rfl)) (fun b44 => ?_)
            refine e_Pn.if2 eAlk rfl (fun h45 => ?_) (fun h45 => ?_)
            · replace h45 : (y123 : Int) ≥ w32 275 78 := h45
              show e_Pn 20 elay ecode eI nn39 d 357 (203, (0, (1, 275)) :: (1, (0, x)) :: (2, (0, y123)) :: tl40, [], w123) _
              refine e_Pn.run (t' := (205, (2, (0, 0)) :: (0, (1, 275)) :: (1, (0, x)) :: List.filter (e_flt 0 2) tl40, [], w123)) eAlk 2 rfl ?_
              have hL46 : ∀ nn48 : Nat, nn48 ≤ nn39 → ∀ (tl49 : eL) (y205 : Int) (w205 : eW), (0 ≤ y205) ∧ (∀ k, w205 275 k = w123 275 k) ∧ (∀ i, w205 338 i = w123 338 i) → e_Pn 20 elay ecode eI nn48 d 357 (205, (0, (1, 275)) :: (1, (0, x)) :: (2, (0, y205)) :: tl49, [], w205) (fun r w' => (r = [(0, -1)] ∧ (x < 0 ∨ w 275 10 ≤ x)) ∨ ((0 ≤ x ∧ x < w 275 10) ∧ ((w 275 3 ≠ 0 ∧ r = [(0, -2)]) ∨ (w 275 3 = 0 ∧ ∃ v0 v1 v2 v3, pgI w v0 ∧ mRu 327 v0 v1 ∧ mRu 353 v1 v2 ∧ mRu 356 v2 v3 ∧ ((v3 275 88 ≠ 0 ∧ r = [(0, e32 (-10 - v3 275 89))]) ∨ (v3 275 88 = 0 ∧ r = [(0, v3 338 4)])))))) := by
                intro nn48
                induction nn48 with
                | zero => intro _ tl49 y205 w205 _; exact e_Pn.zero
                | succ nn48 ih47 =>
                  intro hnnn48 tl49 y205 w205 hj
                  obtain ⟨j50, j205, j2052⟩ := hj
                  refine e_Pn.runS (t' := (209, (0, (1, 275)) :: (1, (0, x)) :: (2, (0, y205)) :: tl49, [(0, 900), (0, y205)], w205)) eAlk 1 rfl ?_
                  refine e_Pn.if2 eAlk rfl (fun h53 => ?_) (fun h53 => ?_)
                  · replace h53 : (y205 : Int) ≥ 900 := h53
                    show e_Pn 20 elay ecode eI nn48 d 357 (350, (0, (1, 275)) :: (1, (0, x)) :: (2, (0, y205)) :: tl49, [], w205) _
                    refine e_Pn.run (t' := (352, (2, (0, 0)) :: (0, (1, 275)) :: (1, (0, x)) :: List.filter (e_flt 0 2) tl49, [], w205)) eAlk 2 rfl ?_
                    have hL54 : ∀ nn56 : Nat, nn56 ≤ nn48 → ∀ (tl57 : eL) (y352 : Int) (w352 : eW), (0 ≤ y352) ∧ (∀ k, w352 275 k = w205 275 k) ∧ (∀ i, w352 338 i = w205 338 i) → e_Pn 20 elay ecode eI nn56 d 357 (352, (0, (1, 275)) :: (1, (0, x)) :: (2, (0, y352)) :: tl57, [], w352) (fun r w' => (r = [(0, -1)] ∧ (x < 0 ∨ w 275 10 ≤ x)) ∨ ((0 ≤ x ∧ x < w 275 10) ∧ ((w 275 3 ≠ 0 ∧ r = [(0, -2)]) ∨ (w 275 3 = 0 ∧ ∃ v0 v1 v2 v3, pgI w v0 ∧ mRu 327 v0 v1 ∧ mRu 353 v1 v2 ∧ mRu 356 v2 v3 ∧ ((v3 275 88 ≠ 0 ∧ r = [(0, e32 (-10 - v3 275 89))]) ∨ (v3 275 88 = 0 ∧ r = [(0, v3 338 4)])))))) := by
                      intro nn56
                      induction nn56 with
                      | zero => intro _ tl57 y352 w352 _; exact e_Pn.zero
                      | succ nn56 ih55 =>
                        intro hnnn56 tl57 y352 w352 hj
                        obtain ⟨j58, j352, j3522⟩ := hj
                        refine e_Pn.runS (t' := (355, (0, (1, 275)) :: (1, (0, x)) :: (2, (0, y352)) :: tl57, [(0, 32), (0, y352)], w352)) eAlk 1 rfl ?_
                        refine e_Pn.if2 eAlk rfl (fun h61 => ?_) (fun h61 => ?_)
                        · replace h61 : (y352 : Int) ≥ 32 := h61
                          show e_Pn 20 elay ecode eI nn56 d 357 (401, (0, (1, 275)) :: (1, (0, x)) :: (2, (0, y352)) :: tl57, [], w352) _
                          refine e_Pn.run (t' := (402, (0, (1, 275)) :: (1, (0, x)) :: (2, (0, y352)) :: tl57, [(1, 275)], w352)) eAlk 1 rfl ?_
                          refine e_Pn.getr (z := 338) eAlk rfl rfl (Eq.trans (Eq.trans (j352 75) (Eq.trans (j205 75) (Eq.trans (j123 75) (by rw [← hw34]; exact (e_up_ne _ _ (Or.inr (by omega))).trans rfl)))) (hx3.2.1.trans hx2.2.1)) (by omega) ?_
                          refine e_Pn.run (t' := (407, (0, (1, 275)) :: (1, (0, x)) :: (2, (0, y352)) :: tl57, [(1, 275), (0, x), (1, 338)], w352)) eAlk 2 rfl ?_
                          refine e_Pn.getr (z := 338) eAlk rfl rfl (Eq.trans (Eq.trans (j352 75) (Eq.trans (j205 75) (Eq.trans (j123 75) (by rw [← hw34]; exact (e_up_ne _ _ (Or.inr (by omega))).trans rfl)))) (hx3.2.1.trans hx2.2.1)) (by omega) ?_
                          refine e_Pn.run (t' := (411, (0, (1, 275)) :: (1, (0, x)) :: (2, (0, y352)) :: tl57, [(0, 4), (1, 338), (0, x), (1, 338)], w352)) eAlk 1 rfl ?_
                          refine e_Pn.ald (z := w32 338 4) eAlk rfl (Eq.trans (j3522 4) (Eq.trans (j2052 4) (Eq.trans (j1232 4) (by rw [← hw34]; exact (e_up_ne _ _ (Or.inl (by omega))).trans rfl)))) (fun b62 b63 => ?_)
                          refine e_Pn.ast eAlk rfl rfl rfl (fun b64 b65 => ?_)
                          generalize hw66 : e_up w352 338 x (w32 338 4) = w66
                          refine e_Pn.run (t' := (414, (0, (1, 275)) :: (1, (0, x)) :: (2, (0, y352)) :: tl57, [(1, 275)], w66)) eAlk 1 rfl ?_
                          refine e_Pn.getr (z := 339) eAlk rfl rfl (Eq.trans (by rw [← hw66]; exact (e_up_ne _ _ (Or.inl (by omega))).trans (Eq.trans (j352 76) (Eq.trans (j205 76) (Eq.trans (j123 76) (by rw [← hw34]; exact (e_up_ne _ _ (Or.inr (by omega))).trans rfl))))) (hx3.2.2.1.trans hx2.2.2.1)) (by omega) ?_
                          refine e_Pn.run (t' := (419, (0, (1, 275)) :: (1, (0, x)) :: (2, (0, y352)) :: tl57, [(1, 275), (0, x), (1, 339)], w66)) eAlk 2 rfl ?_
                          refine e_Pn.getr (z := 339) eAlk rfl rfl (Eq.trans (by rw [← hw66]; exact (e_up_ne _ _ (Or.inl (by omega))).trans (Eq.trans (j352 76) (Eq.trans (j205 76) (Eq.trans (j123 76) (by rw [← hw34]; exact (e_up_ne _ _ (Or.inr (by omega))).trans rfl))))) (hx3.2.2.1.trans hx2.2.2.1)) (by omega) ?_
                          refine e_Pn.run (t' := (423, (0, (1, 275)) :: (1, (0, x)) :: (2, (0, y352)) :: tl57, [(0, 4), (1, 339), (0, x), (1, 339)], w66)) eAlk 1 rfl ?_
                          refine e_Pn.ald (z := w352 339 4) eAlk rfl (by rw [← hw66]; exact (e_up_ne _ _ (Or.inl (by omega))).trans rfl) (fun b67 b68 => ?_)
                          refine e_Pn.ast eAlk rfl rfl rfl (fun b69 b70 => ?_)
                          generalize hw71 : e_up w66 339 x (w352 339 4) = w71
                          refine e_Pn.run (t' := (426, (0, (1, 275)) :: (1, (0, x)) :: (2, (0, y352)) :: tl57, [(1, 275)], w71)) eAlk 1 rfl ?_
                          refine e_Pn.getr (z := 340) eAlk rfl rfl (Eq.trans (by rw [← hw71]; exact (e_up_ne _ _ (Or.inl (by omega))).trans (by rw [← hw66]; exact (e_up_ne _ _ (Or.inl (by omega))).trans (Eq.trans (j352 77) (Eq.trans (j205 77) (Eq.trans (j123 77) (by rw [← hw34]; exact (e_up_ne _ _ (Or.inr (by omega))).trans rfl)))))) (hx3.2.2.2.2.trans hx2.2.2.2.2)) (by omega) ?_
                          refine e_Pn.run (t' := (431, (0, (1, 275)) :: (1, (0, x)) :: (2, (0, y352)) :: tl57, [(0, 1), (0, x), (1, 340)], w71)) eAlk 2 rfl ?_
                          refine e_Pn.ast eAlk rfl rfl (e_nar_b (by omega)) (fun b72 b73 => ?_)
                          generalize hw74 : e_up w71 340 x 1 = w74
                          refine e_Pn.run (t' := (433, (0, (1, 275)) :: (1, (0, x)) :: (2, (0, y352)) :: tl57, [(1, 275)], w74)) eAlk 1 rfl ?_
                          refine e_Pn.getr (z := 338) eAlk rfl rfl (Eq.trans (by rw [← hw74]; exact (e_up_ne _ _ (Or.inl (by omega))).trans (by rw [← hw71]; exact (e_up_ne _ _ (Or.inl (by omega))).trans (by rw [← hw66]; exact (e_up_ne _ _ (Or.inl (by omega))).trans (Eq.trans (j352 75) (Eq.trans (j205 75) (Eq.trans (j123 75) (by rw [← hw34]; exact (e_up_ne _ _ (Or.inr (by omega))).trans rfl))))))) (hx3.2.1.trans hx2.2.1)) (by omega) ?_
                          refine e_Pn.run (t' := (437, (0, (1, 275)) :: (1, (0, x)) :: (2, (0, y352)) :: tl57, [(0, x), (1, 338)], w74)) eAlk 1 rfl ?_
                          refine e_Pn.ald (z := w32 338 4) eAlk rfl (by rw [← hw74]; exact (e_up_ne _ _ (Or.inl (by omega))).trans (by rw [← hw71]; exact (e_up_ne _ _ (Or.inl (by omega))).trans (by rw [← hw66]; exact e_up_eq _ _ _ _))) (fun b75 b76 => ?_)
                          refine e_Pn.ret1 rfl ?_
                          exact Or.inr ⟨by omega, Or.inr ⟨by omega, _, w26, w29, w32, hI, v1R, v2R, v3R, Or.inr ⟨by omega, rfl⟩⟩⟩
                        · replace h61 : (y352 : Int) < 32 := by have q : ¬ ((y352 : Int) ≥ 32) := h61; omega
                          show e_Pn 20 elay ecode eI nn56 d 357 (358, (0, (1, 275)) :: (1, (0, x)) :: (2, (0, y352)) :: tl57, [], w352) _
                          refine e_Pn.run (t' := (359, (0, (1, 275)) :: (1, (0, x)) :: (2, (0, y352)) :: tl57, [(1, 275)], w352)) eAlk 1 rfl ?_
                          refine e_Pn.getr (z := 337) eAlk rfl rfl (Eq.trans (Eq.trans (j352 74) (Eq.trans (j205 74) (Eq.trans (j123 74) (by rw [← hw34]; exact (e_up_ne _ _ (Or.inr (by omega))).trans rfl)))) (hx3.1.trans hx2.1)) (by omega) ?_
                          refine e_Pn.run (t' := (365, (0, (1, 275)) :: (1, (0, x)) :: (2, (0, y352)) :: tl57, [(0, x), (0, 32), (1, 337)], w352)) eAlk 2 rfl ?_
                          refine e_Pn.bin0 eAlk rfl (fun z77 hz77 => ?_)
                          refine e_Pn.run (t' := (367, (0, (1, 275)) :: (1, (0, x)) :: (2, (0, y352)) :: tl57, [(0, y352), (0, z77), (1, 337)], w352)) eAlk 1 rfl ?_
                          refine e_Pn.bin0 eAlk rfl (fun z78 hz78 => ?_)
                          refine e_Pn.run (t' := (369, (0, (1, 275)) :: (1, (0, x)) :: (2, (0, y352)) :: tl57, [(1, 275), (0, z78), (1, 337)], w352)) eAlk 1 rfl ?_
                          refine e_Pn.getr (z := 337) eAlk rfl rfl (Eq.trans (Eq.trans (j352 74) (Eq.trans (j205 74) (Eq.trans (j123 74) (by rw [← hw34]; exact (e_up_ne _ _ (Or.inr (by omega))).trans rfl)))) (hx3.1.trans hx2.1)) (by omega) ?_
                          refine e_Pn.run (t' := (376, (0, (1, 275)) :: (1, (0, x)) :: (2, (0, y352)) :: tl57, [(0, y352), (0, 128), (1, 337), (0, z78), (1, 337)], w352)) eAlk 2 rfl ?_
                          refine e_Pn.bin0 eAlk rfl (fun z79 hz79 => ?_)
                          refine e_Pn.ald (z := w352 337 z79) eAlk rfl rfl (fun b80 b81 => ?_)
                          refine e_Pn.ast eAlk rfl rfl rfl (fun b82 b83 => ?_)
                          generalize hw84 : e_up w352 337 z78 (w352 337 z79) = w84
                          refine e_Pn.run (t' := (380, (0, (1, 275)) :: (1, (0, x)) :: (2, (0, y352)) :: tl57, [(1, 275)], w84)) eAlk 1 rfl ?_
                          refine e_Pn.getr (z := 276) eAlk rfl rfl (Eq.trans (by rw [← hw84]; exact (e_up_ne _ _ (Or.inl (by omega))).trans (Eq.trans (j352 0) (Eq.trans (j205 0) (Eq.trans (j123 0) (by rw [← hw34]; exact (e_up_ne _ _ (Or.inr (by omega))).trans rfl))))) (hx3.2.2.2.1.trans hx2.2.2.2.1)) (by omega) ?_
                          refine e_Pn.run (t' := (389, (0, (1, 275)) :: (1, (0, x)) :: (2, (0, y352)) :: tl57, [(0, x), (0, 32), (0, 20932), (1, 276)], w84)) eAlk 3 rfl ?_
                          refine e_Pn.bin0 eAlk rfl (fun z85 hz85 => ?_)
                          refine e_Pn.bin0 eAlk rfl (fun z86 hz86 => ?_)
                          refine e_Pn.run (t' := (392, (0, (1, 275)) :: (1, (0, x)) :: (2, (0, y352)) :: tl57, [(0, y352), (0, z86), (1, 276)], w84)) eAlk 1 rfl ?_
                          refine e_Pn.bin0 eAlk rfl (fun z87 hz87 => ?_)
                          refine e_Pn.run (t' := (394, (0, (1, 275)) :: (1, (0, x)) :: (2, (0, y352)) :: tl57, [(0, 0), (0, z87), (1, 276)], w84)) eAlk 1 rfl ?_
                          refine e_Pn.ast eAlk rfl rfl rfl (fun b88 b89 => ?_)
                          generalize hw90 : e_up w84 276 z87 0 = w90
                          refine e_Pn.inc (z := y352 + 1) eAlk rfl rfl (by omega) (by omega) ?_
                          show e_Pn 20 elay ecode eI nn56 d 357 (398, (2, (0, y352 + 1)) :: (0, (1, 275)) :: (1, (0, x)) :: List.filter (e_flt 0 2) tl57, [], w90) _
                          refine e_Pn.run (t' := (352, (2, (0, y352 + 1)) :: (0, (1, 275)) :: (1, (0, x)) :: List.filter (e_flt 0 2) tl57, [], w90)) eAlk 1 rfl ?_
                          exact e_Pn.ord eAlk [0, 1, 2] rfl rfl ((ih55 (by omega) _ (y352 + 1) w90 ⟨(by omega), (fun k => (by rw [← hw90]; exact (e_up_ne _ _ (Or.inl (by omega))).trans (by rw [← hw84]; exact (e_up_ne _ _ (Or.inl (by omega))).trans (j352 k)))), (fun k => (by rw [← hw90]; exact (e_up_ne _ _ (Or.inl (by omega))).trans (by rw [← hw84]; exact (e_up_ne _ _ (Or.inl (by omega))).trans (j3522 k))))⟩))
                    exact e_Pn.ord eAlk [0, 1, 2] rfl rfl (hL54 nn48 (Nat.le_refl _) _ 0 w205 ⟨(by omega), (fun k => rfl), (fun k => rfl)⟩)
                  · replace h53 : (y205 : Int) < 900 := by have q : ¬ ((y205 : Int) ≥ 900) := h53; omega
                    show e_Pn 20 elay ecode eI nn48 d 357 (212, (0, (1, 275)) :: (1, (0, x)) :: (2, (0, y205)) :: tl49, [], w205) _
                    refine e_Pn.run (t' := (213, (0, (1, 275)) :: (1, (0, x)) :: (2, (0, y205)) :: tl49, [(1, 275)], w205)) eAlk 1 rfl ?_
                    refine e_Pn.getr (z := 331) eAlk rfl rfl (Eq.trans (Eq.trans (j205 68) (Eq.trans (j123 68) (by rw [← hw34]; exact (e_up_ne _ _ (Or.inr (by omega))).trans rfl))) (hr3.rf hr2 (68, 331) (by decide))) (by omega) ?_
                    refine e_Pn.run (t' := (220, (0, (1, 275)) :: (1, (0, x)) :: (2, (0, y205)) :: tl49, [(0, x), (0, 900), (1, 331)], w205)) eAlk 2 rfl ?_
                    refine e_Pn.bin0 eAlk rfl (fun z91 hz91 => ?_)
                    refine e_Pn.run (t' := (222, (0, (1, 275)) :: (1, (0, x)) :: (2, (0, y205)) :: tl49, [(0, y205), (0, z91), (1, 331)], w205)) eAlk 1 rfl ?_
                    refine e_Pn.bin0 eAlk rfl (fun z92 hz92 => ?_)
                    refine e_Pn.run (t' := (224, (0, (1, 275)) :: (1, (0, x)) :: (2, (0, y205)) :: tl49, [(1, 275), (0, z92), (1, 331)], w205)) eAlk 1 rfl ?_
                    refine e_Pn.getr (z := 331) eAlk rfl rfl (Eq.trans (Eq.trans (j205 68) (Eq.trans (j123 68) (by rw [← hw34]; exact (e_up_ne _ _ (Or.inr (by omega))).trans rfl))) (hr3.rf hr2 (68, 331) (by decide))) (by omega) ?_
                    refine e_Pn.run (t' := (231, (0, (1, 275)) :: (1, (0, x)) :: (2, (0, y205)) :: tl49, [(0, y205), (0, 3600), (1, 331), (0, z92), (1, 331)], w205)) eAlk 2 rfl ?_
                    refine e_Pn.bin0 eAlk rfl (fun z93 hz93 => ?_)
                    refine e_Pn.ald (z := w205 331 z93) eAlk rfl rfl (fun b94 b95 => ?_)
                    refine e_Pn.ast eAlk rfl rfl rfl (fun b96 b97 => ?_)
                    generalize hw98 : e_up w205 331 z92 (w205 331 z93) = w98
                    refine e_Pn.run (t' := (235, (0, (1, 275)) :: (1, (0, x)) :: (2, (0, y205)) :: tl49, [(1, 275)], w98)) eAlk 1 rfl ?_
                    refine e_Pn.getr (z := 332) eAlk rfl rfl (Eq.trans (by rw [← hw98]; exact (e_up_ne _ _ (Or.inl (by omega))).trans (Eq.trans (j205 69) (Eq.trans (j123 69) (by rw [← hw34]; exact (e_up_ne _ _ (Or.inr (by omega))).trans rfl)))) (hr3.rf hr2 (69, 332) (by decide))) (by omega) ?_
                    refine e_Pn.run (t' := (242, (0, (1, 275)) :: (1, (0, x)) :: (2, (0, y205)) :: tl49, [(0, x), (0, 900), (1, 332)], w98)) eAlk 2 rfl ?_
                    refine e_Pn.bin0 eAlk rfl (fun z99 hz99 => ?_)
                    refine e_Pn.run (t' := (244, (0, (1, 275)) :: (1, (0, x)) :: (2, (0, y205)) :: tl49, [(0, y205), (0, z99), (1, 332)], w98)) eAlk 1 rfl ?_
                    refine e_Pn.bin0 eAlk rfl (fun z100 hz100 => ?_)
                    refine e_Pn.run (t' := (246, (0, (1, 275)) :: (1, (0, x)) :: (2, (0, y205)) :: tl49, [(1, 275), (0, z100), (1, 332)], w98)) eAlk 1 rfl ?_
                    refine e_Pn.getr (z := 332) eAlk rfl rfl (Eq.trans (by rw [← hw98]; exact (e_up_ne _ _ (Or.inl (by omega))).trans (Eq.trans (j205 69) (Eq.trans (j123 69) (by rw [← hw34]; exact (e_up_ne _ _ (Or.inr (by omega))).trans rfl)))) (hr3.rf hr2 (69, 332) (by decide))) (by omega) ?_
                    refine e_Pn.run (t' := (253, (0, (1, 275)) :: (1, (0, x)) :: (2, (0, y205)) :: tl49, [(0, y205), (0, 3600), (1, 332), (0, z100), (1, 332)], w98)) eAlk 2 rfl ?_
                    refine e_Pn.bin0 eAlk rfl (fun z101 hz101 => ?_)
                    refine e_Pn.ald (z := w205 332 z101) eAlk rfl (by rw [← hw98]; exact (e_up_ne _ _ (Or.inl (by omega))).trans rfl) (fun b102 b103 => ?_)
                    refine e_Pn.ast eAlk rfl rfl rfl (fun b104 b105 => ?_)
                    generalize hw106 : e_up w98 332 z100 (w205 332 z101) = w106
                    refine e_Pn.run (t' := (257, (0, (1, 275)) :: (1, (0, x)) :: (2, (0, y205)) :: tl49, [(1, 275)], w106)) eAlk 1 rfl ?_
                    refine e_Pn.getr (z := 333) eAlk rfl rfl (Eq.trans (by rw [← hw106]; exact (e_up_ne _ _ (Or.inl (by omega))).trans (by rw [← hw98]; exact (e_up_ne _ _ (Or.inl (by omega))).trans (Eq.trans (j205 70) (Eq.trans (j123 70) (by rw [← hw34]; exact (e_up_ne _ _ (Or.inr (by omega))).trans rfl))))) (hr3.rf hr2 (70, 333) (by decide))) (by omega) ?_
                    refine e_Pn.run (t' := (264, (0, (1, 275)) :: (1, (0, x)) :: (2, (0, y205)) :: tl49, [(0, x), (0, 900), (1, 333)], w106)) eAlk 2 rfl ?_
                    refine e_Pn.bin0 eAlk rfl (fun z107 hz107 => ?_)
                    refine e_Pn.run (t' := (266, (0, (1, 275)) :: (1, (0, x)) :: (2, (0, y205)) :: tl49, [(0, y205), (0, z107), (1, 333)], w106)) eAlk 1 rfl ?_
                    refine e_Pn.bin0 eAlk rfl (fun z108 hz108 => ?_)
                    refine e_Pn.run (t' := (268, (0, (1, 275)) :: (1, (0, x)) :: (2, (0, y205)) :: tl49, [(1, 275), (0, z108), (1, 333)], w106)) eAlk 1 rfl ?_
                    refine e_Pn.getr (z := 333) eAlk rfl rfl (Eq.trans (by rw [← hw106]; exact (e_up_ne _ _ (Or.inl (by omega))).trans (by rw [← hw98]; exact (e_up_ne _ _ (Or.inl (by omega))).trans (Eq.trans (j205 70) (Eq.trans (j123 70) (by rw [← hw34]; exact (e_up_ne _ _ (Or.inr (by omega))).trans rfl))))) (hr3.rf hr2 (70, 333) (by decide))) (by omega) ?_
                    refine e_Pn.run (t' := (275, (0, (1, 275)) :: (1, (0, x)) :: (2, (0, y205)) :: tl49, [(0, y205), (0, 3600), (1, 333), (0, z108), (1, 333)], w106)) eAlk 2 rfl ?_
                    refine e_Pn.bin0 eAlk rfl (fun z109 hz109 => ?_)
                    refine e_Pn.ald (z := w205 333 z109) eAlk rfl (by rw [← hw106]; exact (e_up_ne _ _ (Or.inl (by omega))).trans (by rw [← hw98]; exact (e_up_ne _ _ (Or.inl (by omega))).trans rfl)) (fun b110 b111 => ?_)
                    refine e_Pn.ast eAlk rfl rfl rfl (fun b112 b113 => ?_)
                    generalize hw114 : e_up w106 333 z108 (w205 333 z109) = w114
                    refine e_Pn.run (t' := (279, (0, (1, 275)) :: (1, (0, x)) :: (2, (0, y205)) :: tl49, [(1, 275)], w114)) eAlk 1 rfl ?_
                    refine e_Pn.getr (z := 334) eAlk rfl rfl (Eq.trans (by rw [← hw114]; exact (e_up_ne _ _ (Or.inl (by omega))).trans (by rw [← hw106]; exact (e_up_ne _ _ (Or.inl (by omega))).trans (by rw [← hw98]; exact (e_up_ne _ _ (Or.inl (by omega))).trans (Eq.trans (j205 71) (Eq.trans (j123 71) (by rw [← hw34]; exact (e_up_ne _ _ (Or.inr (by omega))).trans rfl)))))) (hr3.rf hr2 (71, 334) (by decide))) (by omega) ?_
                    refine e_Pn.run (t' := (286, (0, (1, 275)) :: (1, (0, x)) :: (2, (0, y205)) :: tl49, [(0, x), (0, 900), (1, 334)], w114)) eAlk 2 rfl ?_
                    refine e_Pn.bin0 eAlk rfl (fun z115 hz115 => ?_)
                    refine e_Pn.run (t' := (288, (0, (1, 275)) :: (1, (0, x)) :: (2, (0, y205)) :: tl49, [(0, y205), (0, z115), (1, 334)], w114)) eAlk 1 rfl ?_
                    refine e_Pn.bin0 eAlk rfl (fun z116 hz116 => ?_)
                    refine e_Pn.run (t' := (290, (0, (1, 275)) :: (1, (0, x)) :: (2, (0, y205)) :: tl49, [(1, 275), (0, z116), (1, 334)], w114)) eAlk 1 rfl ?_
                    refine e_Pn.getr (z := 334) eAlk rfl rfl (Eq.trans (by rw [← hw114]; exact (e_up_ne _ _ (Or.inl (by omega))).trans (by rw [← hw106]; exact (e_up_ne _ _ (Or.inl (by omega))).trans (by rw [← hw98]; exact (e_up_ne _ _ (Or.inl (by omega))).trans (Eq.trans (j205 71) (Eq.trans (j123 71) (by rw [← hw34]; exact (e_up_ne _ _ (Or.inr (by omega))).trans rfl)))))) (hr3.rf hr2 (71, 334) (by decide))) (by omega) ?_
                    refine e_Pn.run (t' := (297, (0, (1, 275)) :: (1, (0, x)) :: (2, (0, y205)) :: tl49, [(0, y205), (0, 3600), (1, 334), (0, z116), (1, 334)], w114)) eAlk 2 rfl ?_
                    refine e_Pn.bin0 eAlk rfl (fun z117 hz117 => ?_)
                    refine e_Pn.ald (z := w205 334 z117) eAlk rfl (by rw [← hw114]; exact (e_up_ne _ _ (Or.inl (by omega))).trans (by rw [← hw106]; exact (e_up_ne _ _ (Or.inl (by omega))).trans (by rw [← hw98]; exact (e_up_ne _ _ (Or.inl (by omega))).trans rfl))) (fun b118 b119 => ?_)
                    refine e_Pn.ast eAlk rfl rfl rfl (fun b120 b121 => ?_)
                    generalize hw122 : e_up w114 334 z116 (w205 334 z117) = w122
                    refine e_Pn.run (t' := (301, (0, (1, 275)) :: (1, (0, x)) :: (2, (0, y205)) :: tl49, [(1, 275)], w122)) eAlk 1 rfl ?_
                    refine e_Pn.getr (z := 335) eAlk rfl rfl (Eq.trans (by rw [← hw122]; exact (e_up_ne _ _ (Or.inl (by omega))).trans (by rw [← hw114]; exact (e_up_ne _ _ (Or.inl (by omega))).trans (by rw [← hw106]; exact (e_up_ne _ _ (Or.inl (by omega))).trans (by rw [← hw98]; exact (e_up_ne _ _ (Or.inl (by omega))).trans (Eq.trans (j205 72) (Eq.trans (j123 72) (by rw [← hw34]; exact (e_up_ne _ _ (Or.inr (by omega))).trans rfl))))))) (hr3.rf hr2 (72, 335) (by decide))) (by omega) ?_
                    refine e_Pn.run (t' := (308, (0, (1, 275)) :: (1, (0, x)) :: (2, (0, y205)) :: tl49, [(0, x), (0, 900), (1, 335)], w122)) eAlk 2 rfl ?_
                    refine e_Pn.bin0 eAlk rfl (fun z123 hz123 => ?_)
                    refine e_Pn.run (t' := (310, (0, (1, 275)) :: (1, (0, x)) :: (2, (0, y205)) :: tl49, [(0, y205), (0, z123), (1, 335)], w122)) eAlk 1 rfl ?_
                    refine e_Pn.bin0 eAlk rfl (fun z124 hz124 => ?_)
                    refine e_Pn.run (t' := (312, (0, (1, 275)) :: (1, (0, x)) :: (2, (0, y205)) :: tl49, [(1, 275), (0, z124), (1, 335)], w122)) eAlk 1 rfl ?_
                    refine e_Pn.getr (z := 335) eAlk rfl rfl (Eq.trans (by rw [← hw122]; exact (e_up_ne _ _ (Or.inl (by omega))).trans (by rw [← hw114]; exact (e_up_ne _ _ (Or.inl (by omega))).trans (by rw [← hw106]; exact (e_up_ne _ _ (Or.inl (by omega))).trans (by rw [← hw98]; exact (e_up_ne _ _ (Or.inl (by omega))).trans (Eq.trans (j205 72) (Eq.trans (j123 72) (by rw [← hw34]; exact (e_up_ne _ _ (Or.inr (by omega))).trans rfl))))))) (hr3.rf hr2 (72, 335) (by decide))) (by omega) ?_
                    refine e_Pn.run (t' := (319, (0, (1, 275)) :: (1, (0, x)) :: (2, (0, y205)) :: tl49, [(0, y205), (0, 3600), (1, 335), (0, z124), (1, 335)], w122)) eAlk 2 rfl ?_
                    refine e_Pn.bin0 eAlk rfl (fun z125 hz125 => ?_)
                    refine e_Pn.ald (z := w205 335 z125) eAlk rfl (by rw [← hw122]; exact (e_up_ne _ _ (Or.inl (by omega))).trans (by rw [← hw114]; exact (e_up_ne _ _ (Or.inl (by omega))).trans (by rw [← hw106]; exact (e_up_ne _ _ (Or.inl (by omega))).trans (by rw [← hw98]; exact (e_up_ne _ _ (Or.inl (by omega))).trans rfl)))) (fun b126 b127 => ?_)
                    refine e_Pn.ast eAlk rfl rfl rfl (fun b128 b129 => ?_)
                    generalize hw130 : e_up w122 335 z124 (w205 335 z125) = w130
                    refine e_Pn.run (t' := (323, (0, (1, 275)) :: (1, (0, x)) :: (2, (0, y205)) :: tl49, [(1, 275)], w130)) eAlk 1 rfl ?_
                    refine e_Pn.getr (z := 336) eAlk rfl rfl (Eq.trans (by rw [← hw130]; exact (e_up_ne _ _ (Or.inl (by omega))).trans (by rw [← hw122]; exact (e_up_ne _ _ (Or.inl (by omega))).trans (by rw [← hw114]; exact (e_up_ne _ _ (Or.inl (by omega))).trans (by rw [← hw106]; exact (e_up_ne _ _ (Or.inl (by omega))).trans (by rw [← hw98]; exact (e_up_ne _ _ (Or.inl (by omega))).trans (Eq.trans (j205 73) (Eq.trans (j123 73) (by rw [← hw34]; exact (e_up_ne _ _ (Or.inr (by omega))).trans rfl)))))))) (hr3.rf hr2 (73, 336) (by decide))) (by omega) ?_
                    refine e_Pn.run (t' := (330, (0, (1, 275)) :: (1, (0, x)) :: (2, (0, y205)) :: tl49, [(0, x), (0, 900), (1, 336)], w130)) eAlk 2 rfl ?_
                    refine e_Pn.bin0 eAlk rfl (fun z131 hz131 => ?_)
                    refine e_Pn.run (t' := (332, (0, (1, 275)) :: (1, (0, x)) :: (2, (0, y205)) :: tl49, [(0, y205), (0, z131), (1, 336)], w130)) eAlk 1 rfl ?_
                    refine e_Pn.bin0 eAlk rfl (fun z132 hz132 => ?_)
                    refine e_Pn.run (t' := (334, (0, (1, 275)) :: (1, (0, x)) :: (2, (0, y205)) :: tl49, [(1, 275), (0, z132), (1, 336)], w130)) eAlk 1 rfl ?_
                    refine e_Pn.getr (z := 336) eAlk rfl rfl (Eq.trans (by rw [← hw130]; exact (e_up_ne _ _ (Or.inl (by omega))).trans (by rw [← hw122]; exact (e_up_ne _ _ (Or.inl (by omega))).trans (by rw [← hw114]; exact (e_up_ne _ _ (Or.inl (by omega))).trans (by rw [← hw106]; exact (e_up_ne _ _ (Or.inl (by omega))).trans (by rw [← hw98]; exact (e_up_ne _ _ (Or.inl (by omega))).trans (Eq.trans (j205 73) (Eq.trans (j123 73) (by rw [← hw34]; exact (e_up_ne _ _ (Or.inr (by omega))).trans rfl)))))))) (hr3.rf hr2 (73, 336) (by decide))) (by omega) ?_
                    refine e_Pn.run (t' := (341, (0, (1, 275)) :: (1, (0, x)) :: (2, (0, y205)) :: tl49, [(0, y205), (0, 3600), (1, 336), (0, z132), (1, 336)], w130)) eAlk 2 rfl ?_
                    refine e_Pn.bin0 eAlk rfl (fun z133 hz133 => ?_)
                    refine e_Pn.ald (z := w205 336 z133) eAlk rfl (by rw [← hw130]; exact (e_up_ne _ _ (Or.inl (by omega))).trans (by rw [← hw122]; exact (e_up_ne _ _ (Or.inl (by omega))).trans (by rw [← hw114]; exact (e_up_ne _ _ (Or.inl (by omega))).trans (by rw [← hw106]; exact (e_up_ne _ _ (Or.inl (by omega))).trans (by rw [← hw98]; exact (e_up_ne _ _ (Or.inl (by omega))).trans rfl))))) (fun b134 b135 => ?_)
                    refine e_Pn.ast eAlk rfl rfl rfl (fun b136 b137 => ?_)
                    generalize hw138 : e_up w130 336 z132 (w205 336 z133) = w138
                    refine e_Pn.inc (z := y205 + 1) eAlk rfl rfl (by omega) (by omega) ?_
                    show e_Pn 20 elay ecode eI nn48 d 357 (347, (2, (0, y205 + 1)) :: (0, (1, 275)) :: (1, (0, x)) :: List.filter (e_flt 0 2) tl49, [], w138) _
                    refine e_Pn.run (t' := (205, (2, (0, y205 + 1)) :: (0, (1, 275)) :: (1, (0, x)) :: List.filter (e_flt 0 2) tl49, [], w138)) eAlk 1 rfl ?_
                    exact e_Pn.ord eAlk [0, 1, 2] rfl rfl ((ih47 (by omega) _ (y205 + 1) w138 ⟨(by omega), (fun k => (by rw [← hw138]; exact (e_up_ne _ _ (Or.inl (by omega))).trans (by rw [← hw130]; exact (e_up_ne _ _ (Or.inl (by omega))).trans (by rw [← hw122]; exact (e_up_ne _ _ (Or.inl (by omega))).trans (by rw [← hw114]; exact (e_up_ne _ _ (Or.inl (by omega))).trans (by rw [← hw106]; exact (e_up_ne _ _ (Or.inl (by omega))).trans (by rw [← hw98]; exact (e_up_ne _ _ (Or.inl (by omega))).trans (j205 k)))))))), (fun k => (by rw [← hw138]; exact (e_up_ne _ _ (Or.inl (by omega))).trans (by rw [← hw130]; exact (e_up_ne _ _ (Or.inl (by omega))).trans (by rw [← hw122]; exact (e_up_ne _ _ (Or.inl (by omega))).trans (by rw [← hw114]; exact (e_up_ne _ _ (Or.inl (by omega))).trans (by rw [← hw106]; exact (e_up_ne _ _ (Or.inl (by omega))).trans (by rw [← hw98]; exact (e_up_ne _ _ (Or.inl (by omega))).trans (j2052 k))))))))⟩))
              exact e_Pn.ord eAlk [0, 1, 2] rfl rfl (hL46 nn39 (Nat.le_refl _) _ 0 w123 ⟨(by omega), (fun k => rfl), (fun k => rfl)⟩)
            · replace h45 : (y123 : Int) < w32 275 78 := by have q : ¬ ((y123 : Int) ≥ w32 275 78) := h45; omega
              show e_Pn 20 elay ecode eI nn39 d 357 (131, (0, (1, 275)) :: (1, (0, x)) :: (2, (0, y123)) :: tl40, [], w123) _
              refine e_Pn.run (t' := (132, (0, (1, 275)) :: (1, (0, x)) :: (2, (0, y123)) :: tl40, [(1, 275)], w123)) eAlk 1 rfl ?_
              refine e_Pn.getr (z := 328) eAlk rfl rfl (Eq.trans (Eq.trans (j123 65) (by rw [← hw34]; exact (e_up_ne _ _ (Or.inr (by omega))).trans rfl)) (hr3.rf hr2 (65, 328) (by decide))) (by omega) ?_
              refine e_Pn.run (t' := (139, (0, (1, 275)) :: (1, (0, x)) :: (2, (0, y123)) :: tl40, [(0, x), (0, 10000), (1, 328)], w123)) eAlk 2 rfl ?_
              refine e_Pn.bin0 eAlk rfl (fun z139 hz139 => ?_)
              refine e_Pn.run (t' := (141, (0, (1, 275)) :: (1, (0, x)) :: (2, (0, y123)) :: tl40, [(0, y123), (0, z139), (1, 328)], w123)) eAlk 1 rfl ?_
              refine e_Pn.bin0 eAlk rfl (fun z140 hz140 => ?_)
              refine e_Pn.run (t' := (143, (0, (1, 275)) :: (1, (0, x)) :: (2, (0, y123)) :: tl40, [(1, 275), (0, z140), (1, 328)], w123)) eAlk 1 rfl ?_
              refine e_Pn.getr (z := 328) eAlk rfl rfl (Eq.trans (Eq.trans (j123 65) (by rw [← hw34]; exact (e_up_ne _ _ (Or.inr (by omega))).trans rfl)) (hr3.rf hr2 (65, 328) (by decide))) (by omega) ?_
              refine e_Pn.run (t' := (150, (0, (1, 275)) :: (1, (0, x)) :: (2, (0, y123)) :: tl40, [(0, y123), (0, 40000), (1, 328), (0, z140), (1, 328)], w123)) eAlk 2 rfl ?_
              refine e_Pn.bin0 eAlk rfl (fun z141 hz141 => ?_)
              refine e_Pn.ald (z := w123 328 z141) eAlk rfl rfl (fun b142 b143 => ?_)
              refine e_Pn.ast eAlk rfl rfl rfl (fun b144 b145 => ?_)
              generalize hw146 : e_up w123 328 z140 (w123 328 z141) = w146
              refine e_Pn.run (t' := (154, (0, (1, 275)) :: (1, (0, x)) :: (2, (0, y123)) :: tl40, [(1, 275)], w146)) eAlk 1 rfl ?_
              refine e_Pn.getr (z := 329) eAlk rfl rfl (Eq.trans (by rw [← hw146]; exact (e_up_ne _ _ (Or.inl (by omega))).trans (Eq.trans (j123 66) (by rw [← hw34]; exact (e_up_ne _ _ (Or.inr (by omega))).trans rfl))) (hr3.rf hr2 (66, 329) (by decide))) (by omega) ?_
              refine e_Pn.run (t' := (161, (0, (1, 275)) :: (1, (0, x)) :: (2, (0, y123)) :: tl40, [(0, x), (0, 10000), (1, 329)], w146)) eAlk 2 rfl ?_
              refine e_Pn.bin0 eAlk rfl (fun z147 hz147 => ?_)
              refine e_Pn.run (t' := (163, (0, (1, 275)) :: (1, (0, x)) :: (2, (0, y123)) :: tl40, [(0, y123), (0, z147), (1, 329)], w146)) eAlk 1 rfl ?_
              refine e_Pn.bin0 eAlk rfl (fun z148 hz148 => ?_)
              refine e_Pn.run (t' := (165, (0, (1, 275)) :: (1, (0, x)) :: (2, (0, y123)) :: tl40, [(1, 275), (0, z148), (1, 329)], w146)) eAlk 1 rfl ?_
              refine e_Pn.getr (z := 329) eAlk rfl rfl (Eq.trans (by rw [← hw146]; exact (e_up_ne _ _ (Or.inl (by omega))).trans (Eq.trans (j123 66) (by rw [← hw34]; exact (e_up_ne _ _ (Or.inr (by omega))).trans rfl))) (hr3.rf hr2 (66, 329) (by decide))) (by omega) ?_
              refine e_Pn.run (t' := (172, (0, (1, 275)) :: (1, (0, x)) :: (2, (0, y123)) :: tl40, [(0, y123), (0, 40000), (1, 329), (0, z148), (1, 329)], w146)) eAlk 2 rfl ?_
              refine e_Pn.bin0 eAlk rfl (fun z149 hz149 => ?_)
              refine e_Pn.ald (z := w123 329 z149) eAlk rfl (by rw [← hw146]; exact (e_up_ne _ _ (Or.inl (by omega))).trans rfl) (fun b150 b151 => ?_)
              refine e_Pn.ast eAlk rfl rfl rfl (fun b152 b153 => ?_)
              generalize hw154 : e_up w146 329 z148 (w123 329 z149) = w154
              refine e_Pn.run (t' := (176, (0, (1, 275)) :: (1, (0, x)) :: (2, (0, y123)) :: tl40, [(1, 275)], w154)) eAlk 1 rfl ?_
              refine e_Pn.getr (z := 330) eAlk rfl rfl (Eq.trans (by rw [← hw154]; exact (e_up_ne _ _ (Or.inl (by omega))).trans (by rw [← hw146]; exact (e_up_ne _ _ (Or.inl (by omega))).trans (Eq.trans (j123 67) (by rw [← hw34]; exact (e_up_ne _ _ (Or.inr (by omega))).trans rfl)))) (hr3.rf hr2 (67, 330) (by decide))) (by omega) ?_
              refine e_Pn.run (t' := (183, (0, (1, 275)) :: (1, (0, x)) :: (2, (0, y123)) :: tl40, [(0, x), (0, 10000), (1, 330)], w154)) eAlk 2 rfl ?_
              refine e_Pn.bin0 eAlk rfl (fun z155 hz155 => ?_)
              refine e_Pn.run (t' := (185, (0, (1, 275)) :: (1, (0, x)) :: (2, (0, y123)) :: tl40, [(0, y123), (0, z155), (1, 330)], w154)) eAlk 1 rfl ?_
              refine e_Pn.bin0 eAlk rfl (fun z156 hz156 => ?_)
              refine e_Pn.run (t' := (187, (0, (1, 275)) :: (1, (0, x)) :: (2, (0, y123)) :: tl40, [(1, 275), (0, z156), (1, 330)], w154)) eAlk 1 rfl ?_
              refine e_Pn.getr (z := 330) eAlk rfl rfl (Eq.trans (by rw [← hw154]; exact (e_up_ne _ _ (Or.inl (by omega))).trans (by rw [← hw146]; exact (e_up_ne _ _ (Or.inl (by omega))).trans (Eq.trans (j123 67) (by rw [← hw34]; exact (e_up_ne _ _ (Or.inr (by omega))).trans rfl)))) (hr3.rf hr2 (67, 330) (by decide))) (by omega) ?_
              refine e_Pn.run (t' := (194, (0, (1, 275)) :: (1, (0, x)) :: (2, (0, y123)) :: tl40, [(0, y123), (0, 40000), (1, 330), (0, z156), (1, 330)], w154)) eAlk 2 rfl ?_
              refine e_Pn.bin0 eAlk rfl (fun z157 hz157 => ?_)
              refine e_Pn.ald (z := w123 330 z157) eAlk rfl (by rw [← hw154]; exact (e_up_ne _ _ (Or.inl (by omega))).trans (by rw [← hw146]; exact (e_up_ne _ _ (Or.inl (by omega))).trans rfl)) (fun b158 b159 => ?_)
              refine e_Pn.ast eAlk rfl rfl rfl (fun b160 b161 => ?_)
              generalize hw162 : e_up w154 330 z156 (w123 330 z157) = w162
              refine e_Pn.inc (z := y123 + 1) eAlk rfl rfl (by omega) (by omega) ?_
              show e_Pn 20 elay ecode eI nn39 d 357 (200, (2, (0, y123 + 1)) :: (0, (1, 275)) :: (1, (0, x)) :: List.filter (e_flt 0 2) tl40, [], w162) _
              refine e_Pn.run (t' := (123, (2, (0, y123 + 1)) :: (0, (1, 275)) :: (1, (0, x)) :: List.filter (e_flt 0 2) tl40, [], w162)) eAlk 1 rfl ?_
              exact e_Pn.ord eAlk [0, 1, 2] rfl rfl ((ih38 (by omega) _ (y123 + 1) w162 ⟨(by omega), (fun k => (by rw [← hw162]; exact (e_up_ne _ _ (Or.inl (by omega))).trans (by rw [← hw154]; exact (e_up_ne _ _ (Or.inl (by omega))).trans (by rw [← hw146]; exact (e_up_ne _ _ (Or.inl (by omega))).trans (j123 k))))), (fun k => (by rw [← hw162]; exact (e_up_ne _ _ (Or.inl (by omega))).trans (by rw [← hw154]; exact (e_up_ne _ _ (Or.inl (by omega))).trans (by rw [← hw146]; exact (e_up_ne _ _ (Or.inl (by omega))).trans (j1232 k)))))⟩))
        exact e_Pn.ord eAlk [0, 1, 2] rfl rfl (hL37 n (Nat.le_refl _) _ 0 w34 ⟨(by omega), (fun k => rfl), (fun k => rfl)⟩)
      · replace h36 : (w32 275 88 : Int) ≠ 0 := by have q : ¬ ((w32 275 88 : Int) = 0) := h36; omega
        show e_Pn 20 elay ecode eI n d 357 (113, [(0, (1, 275)), (1, (0, x))], [], w34) _
        refine e_Pn.run (t' := (116, [(0, (1, 275)), (1, (0, x))], [(1, 275), (0, (-10))], w34)) eAlk 2 rfl ?_
        refine e_Pn.getf (z := w32 275 89) eAlk rfl rfl (by rw [← hw34]; exact (e_up_ne _ _ (Or.inr (by omega))).trans rfl) (fun b163 => ?_)
        refine e_Pn.bin (z := e32 ((-10) - (w32 275 89))) eAlk rfl rfl ?_
        refine e_Pn.ret1 rfl ?_
        exact Or.inr ⟨by omega, Or.inr ⟨by omega, _, w26, w29, w32, hI, v1R, v2R, v3R, Or.inl ⟨by omega, rfl⟩⟩⟩
    · replace h7 : (w 275 3 : Int) ≠ 0 := by have q : ¬ ((w 275 3 : Int) = 0) := h7; omega
      show e_Pn 20 elay ecode eI n d 357 (17, [(0, (1, 275)), (1, (0, x))], [], w) _
      refine e_Pn.run (t' := (19, [(0, (1, 275)), (1, (0, x))], [(0, (-2))], w)) eAlk 1 rfl ?_
      refine e_Pn.ret1 rfl ?_
      exact Or.inr ⟨by omega, Or.inl ⟨by omega, rfl⟩⟩
  · replace h5 : (z4 : Int) = 0 := by have q : ¬ ((z4 : Int) ≠ 0) := h5; omega
    show e_Pn 20 elay ecode eI n d 357 (8, [(0, (1, 275)), (1, (0, x))], [], w) _
    refine e_Pn.run (t' := (9, [(0, (1, 275)), (1, (0, x))], [(0, (-1))], w)) eAlk 1 rfl ?_
    refine e_Pn.ret1 rfl ?_
    exact Or.inl ⟨rfl, by omega⟩
end
