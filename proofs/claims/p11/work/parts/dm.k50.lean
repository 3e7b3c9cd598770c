noncomputable section
/-! the class: the reader, expressions -/
def kRO (c k : Int) : Prop := c = 1 ∧ k = 11
def rS (w : eW) (cd : Int) : Prop := e_Has kTy w ∧ e_Has kRy w ∧ w 1 3 = cd ∧ isCd cd ∧ tkR w
def xQ (w w' : eW) (cd : Int) : Prop := e_fr (kRx cd) w w' ∧ rS w' cd ∧ w' 1 11 = w 1 11 ∧ zS w w' cd 0 (-1)
/-- a method for expressions -/
def zC (M : Nat) (o : Int) (d : Nat) : Prop := ∀ (w : eW) (cd : Int), rS w cd → w 1 11 = o → e_Ok 20 elay kcode eI d M (0, [(0, (1, 1))], [], w) (fun r w' => r = [] ∧ xQ w w' cd)
theorem c_161 {d : Nat} {w : eW} (hT : e_Has kTy w) (hH : e_Has kRy w) : e_Ok 20 elay kcode eI d 161 (0, [(0, (1, 1))], [], w) (fun r w' => ∃ z : Int, r = [(0, z)] ∧ w = w' ∧ (((19 ≤ z ∧ z ≤ 24) ∧ 5 ≤ w 1 5 ∧ w 1 5 ≤ 15) ∨ z = 49)) := by
  have p5 := e_Has.get hH (c := 1) (k := 5) (lo := 0) (hi := 53) rfl (by decide)
  refine e_Ok.ps1 (x := (1, 1)) (q := 1) 1 rfl ?_
  have h1 := (e_Has.get hH (c := 1) (k := 5) (lo := 0) (hi := 53) rfl (by decide))
  refine e_Ok.getf (z := w 1 5) rfl (el_o rfl) rfl rfl rfl (e_bq h1 (by decide) (by decide)) ?_
  have hs3 : ∀ x : Int, 0 ≤ x ∧ x ≤ 53 → (x = 0 ∨ x = 1 ∨ x = 2 ∨ x = 3 ∨ x = 4 ∨ x = 8 ∨ x = 9 ∨ x = 10 ∨ x = 11 ∨ x = 12 ∨ x = 16 ∨ x = 17 ∨ x = 18 ∨ x = 19 ∨ x = 20 ∨ x = 21 ∨ x = 22 ∨ x = 23 ∨ x = 24 ∨ x = 25 ∨ x = 26 ∨ x = 27 ∨ x = 28 ∨ x = 29 ∨ x = 30 ∨ x = 31 ∨ x = 32 ∨ x = 33 ∨ x = 34 ∨ x = 35 ∨ x = 36 ∨ x = 37 ∨ x = 38 ∨ x = 39 ∨ x = 40 ∨ x = 41 ∨ x = 42 ∨ x = 43 ∨ x = 44 ∨ x = 45 ∨ x = 46 ∨ x = 47 ∨ x = 48 ∨ x = 49 ∨ x = 50 ∨ x = 51 ∨ x = 52 ∨ x = 53) ∨ (x = 5) ∨ (x = 6) ∨ (x = 7) ∨ (x = 13) ∨ (x = 14) ∨ (x = 15) := fun x h => by omega
  obtain h2 | h2 | h2 | h2 | h2 | h2 | h2 := hs3 (w 1 5) (by omega)
  · refine e_Ok.swk (tg := 82) rfl (by rcases h2 with h2 | h2 | h2 | h2 | h2 | h2 | h2 | h2 | h2 | h2 | h2 | h2 | h2 | h2 | h2 | h2 | h2 | h2 | h2 | h2 | h2 | h2 | h2 | h2 | h2 | h2 | h2 | h2 | h2 | h2 | h2 | h2 | h2 | h2 | h2 | h2 | h2 | h2 | h2 | h2 | h2 | h2 | h2 | h2 | h2 | h2 | h2 | h2 <;> (rw [h2]; rfl)) ?_
    refine e_Ok.run (t' := (84, [(0, (1, 1))], [(0, 49)], w)) 1 rfl ?_
    refine e_Ok.rets rfl rfl ?_
    exact ⟨_, rfl, rfl, Or.inr rfl⟩
  · refine e_Ok.swk (tg := 67) rfl (by rw [h2]; rfl) ?_
    refine e_Ok.run (t' := (69, [(0, (1, 1))], [(0, 20)], w)) 1 rfl ?_
    refine e_Ok.rets rfl rfl ?_
    exact ⟨_, rfl, rfl, Or.inl ⟨by omega, by omega⟩⟩
  · refine e_Ok.swk (tg := 73) rfl (by rw [h2]; rfl) ?_
    refine e_Ok.run (t' := (75, [(0, (1, 1))], [(0, 22)], w)) 1 rfl ?_
    refine e_Ok.rets rfl rfl ?_
    exact ⟨_, rfl, rfl, Or.inl ⟨by omega, by omega⟩⟩
  · refine e_Ok.swk (tg := 79) rfl (by rw [h2]; rfl) ?_
    refine e_Ok.run (t' := (81, [(0, (1, 1))], [(0, 24)], w)) 1 rfl ?_
    refine e_Ok.rets rfl rfl ?_
    exact ⟨_, rfl, rfl, Or.inl ⟨by omega, by omega⟩⟩
  · refine e_Ok.swk (tg := 64) rfl (by rw [h2]; rfl) ?_
    refine e_Ok.run (t' := (66, [(0, (1, 1))], [(0, 19)], w)) 1 rfl ?_
    refine e_Ok.rets rfl rfl ?_
    exact ⟨_, rfl, rfl, Or.inl ⟨by omega, by omega⟩⟩
  · refine e_Ok.swk (tg := 70) rfl (by rw [h2]; rfl) ?_
    refine e_Ok.run (t' := (72, [(0, (1, 1))], [(0, 21)], w)) 1 rfl ?_
    refine e_Ok.rets rfl rfl ?_
    exact ⟨_, rfl, rfl, Or.inl ⟨by omega, by omega⟩⟩
  · refine e_Ok.swk (tg := 76) rfl (by rw [h2]; rfl) ?_
    refine e_Ok.run (t' := (78, [(0, (1, 1))], [(0, 23)], w)) 1 rfl ?_
    refine e_Ok.rets rfl rfl ?_
    exact ⟨_, rfl, rfl, Or.inl ⟨by omega, by omega⟩⟩
set_option maxHeartbeats 4000000 in
theorem c_166 {d : Nat} (hd : 21 ≤ d) {w : eW} {cd : Int} (hS : rS w cd) (h5 : w 1 5 = 2) : e_Ok 20 elay kcode eI d 166 (0, [(0, (1, 1))], [], w) (fun r w' => r = [] ∧ e_fr (kEm cd) w w' ∧ e_Has kTy w' ∧ e_Has kRy w' ∧ (zS w w' cd 1 (-1) ∨ (zS w w' cd 2 (-1) ∧ w 1 6 + 2 ≤ w 1 7))) := by
  obtain ⟨d, rfl⟩ : ∃ e, d = e + 1 := ⟨d - 1, by omega⟩
  obtain ⟨hT, hH, hc, hcd, hk⟩ := hS
  have hcd2 := hcd; unfold isCd at hcd2
  have hcd3 : 2 ≤ cd ∧ cd ≤ 145 := by omega
  have pL := e_Has.get hT (c := cd) (k := 0) (lo := 0) (hi := 4000) (kD_0 hcd) (by decide)
  have p1 := e_Has.get hH (c := 1) (k := 1) (lo := (-2147483648)) (hi := 2147483647) rfl (by decide)
  have p5 := e_Has.get hH (c := 1) (k := 5) (lo := 0) (hi := 53) rfl (by decide)
  have p6 := e_Has.get hH (c := 1) (k := 6) (lo := 0) (hi := 4000) rfl (by decide)
  have p9 := e_Has.get hH (c := 1) (k := 9) (lo := (-2147483648)) (hi := 2147483647) rfl (by decide)
  have p7 := e_Has.get hH (c := 1) (k := 7) (lo := 0) (hi := 4000) rfl (by decide)
  have x0 : zS w w cd 0 (-1) := zS.refl pL.1
  have p8 := e_Has.get hH (c := 1) (k := 8) (lo := (-2147483648)) (hi := 2147483647) rfl (by decide)
  have pn := hk.nm h5
  have pa := hk.a1 (by omega)
  refine e_Ok.ps1 (x := (1, 1)) (q := 1) 1 rfl ?_
  refine e_Ok.getf (z := w 1 8) rfl (el_o rfl) rfl rfl rfl (by omega) ?_
  refine e_Ok.ps1 (x := (0, 16)) (q := 6) 1 rfl ?_
  refine e_Ok.shr16 rfl (by omega) (fun z1 hz1 => ?_)
  replace hz1 : z1 = (w 1 8) / 65536 := hz1
  refine e_Ok.run (t' := (9, [(1, (0, z1)), (0, (1, 1))], [(0, z1)], w)) 2 rfl ?_
  refine e_Ok.if1 rfl (fun h2 => ?_) (fun h2 => ?_)
  · replace h2 : (z1 : Int) ≠ 0 := h2
    refine e_Ok.ps1 (x := (1, 1)) (q := 29) 1 rfl ?_
    refine e_Ok.getr (z := cd) rfl (el_o rfl) rfl rfl hc (by omega) ?_
    refine e_Ok.ps2 (x := (0, z1)) (y := (0, 0)) (q := 34) 2 rfl ?_
    refine e_Ok.callV rfl (e_dq hd rfl) rfl (lD0 hcd) rfl rfl (c_21 hT hcd (by omega) (by omega)) (fun r3 w4 h5 => ?_)
    obtain ⟨z7, rfl, q6f, q6T, q6x⟩ := h5
    have q6z : 0 ≤ z7 ∧ z7 ≤ 4000 := by have g := e_Has.get hT (c := cd) (k := 0) (lo := 0) (hi := 4000) (kD_0 hcd) (by decide); unfold emQ at q6x; omega
    refine e_Ok.nrm (q := 37) (st' := [(0, z7)]) rfl rfl ?_
    refine e_Ok.run (t' := (39, [(1, (0, z1)), (0, (1, 1))], [(1, 1)], w4)) 2 rfl ?_
    refine e_Ok.getr (z := cd) rfl (el_o rfl) rfl rfl ((q6f 1 3 (by unfold kEm; omega)).trans hc) (by omega) ?_
    refine e_Ok.ps2 (x := (1, 1)) (y := (0, 1)) (q := 44) 2 rfl ?_
    refine e_Ok.getf (z := w 1 8) rfl (el_o rfl) rfl rfl ((q6f 1 8 (by unfold kEm; omega)).trans rfl) (by omega) ?_
    refine e_Ok.ps1 (x := (0, 65535)) (q := 50) 1 rfl ?_
    refine e_Ok.andm 65535 16 rfl (by decide) (fun z10 hz10 => ?_)
    replace hz10 : z10 = (w 1 8) % 65536 := hz10
    have hz10r : 0 ≤ z10 ∧ z10 ≤ 65535 := by omega
    refine e_Ok.callV rfl (e_dq hd rfl) rfl (lD0 hcd) rfl rfl (c_21 q6T hcd (by omega) (by omega)) (fun r11 w12 h13 => ?_)
    obtain ⟨z15, rfl, q14f, q14T, q14x⟩ := h13
    have q14z : 0 ≤ z15 ∧ z15 ≤ 4000 := by have g := e_Has.get q6T (c := cd) (k := 0) (lo := 0) (hi := 4000) (kD_0 hcd) (by decide); unfold emQ at q14x; omega
    refine e_Ok.nrm (q := 54) (st' := [(0, z15)]) rfl rfl ?_
    refine e_Ok.run (t' := (55, [(1, (0, z1)), (0, (1, 1))], [], w12)) 1 rfl ?_
    refine e_Ok.rets rfl rfl ?_
    exact ⟨rfl, (show e_fr (kEm cd) w w12 from e_fr.trans (show e_fr (kEm cd) w w4 from e_fr.trans (e_fr.refl w) (e_fr.mono q6f (fun c k q => by exact q))) (e_fr.mono q14f (fun c k q => by exact q))), q14T, (show e_Has kRy w12 from H_fr q14f (fun c k g => by unfold kEm at g; omega) (show e_Has kRy w4 from H_fr q6f (fun c k g => by unfold kEm at g; omega) hH)), Or.inr ⟨(show zS w w12 cd 2 (-1) from zS.trans (show zS w w4 cd 1 (-1) from zS.trans x0 (show zS w w4 cd 1 (-1) from zS.emit hcd ((e_Has.get hT (c := cd) (k := 0) (lo := 0) (hi := 4000) (kD_0 hcd) (by decide)).1) q6f q6x (by omega) (by omega) (by omega) (by omega)) (by omega) (by omega) (by omega) (by omega)) (show zS w4 w12 cd 1 (-1) from zS.emit hcd ((e_Has.get q6T (c := cd) (k := 0) (lo := 0) (hi := 4000) (kD_0 hcd) (by decide)).1) q14f q14x (by omega) (by omega) (by omega) (by omega)) (by omega) (by omega) (by omega) (by omega)), by omega⟩⟩
  · replace h2 : (z1 : Int) = 0 := Classical.not_not.mp (show ¬ ((z1 : Int) ≠ 0) from h2)
    refine e_Ok.ps1 (x := (1, 1)) (q := 13) 1 rfl ?_
    refine e_Ok.getr (z := cd) rfl (el_o rfl) rfl rfl hc (by omega) ?_
    refine e_Ok.ps2 (x := (1, 1)) (y := (0, 0)) (q := 18) 2 rfl ?_
    refine e_Ok.getf (z := w 1 8) rfl (el_o rfl) rfl rfl rfl (by omega) ?_
    refine e_Ok.callV rfl (e_dq hd rfl) rfl (lD0 hcd) rfl rfl (c_21 hT hcd (by omega) (by omega)) (fun r18 w19 h20 => ?_)
    obtain ⟨z22, rfl, q21f, q21T, q21x⟩ := h20
    have q21z : 0 ≤ z22 ∧ z22 ≤ 4000 := by have g := e_Has.get hT (c := cd) (k := 0) (lo := 0) (hi := 4000) (kD_0 hcd) (by decide); unfold emQ at q21x; omega
    refine e_Ok.nrm (q := 24) (st' := [(0, z22)]) rfl rfl ?_
    refine e_Ok.run (t' := (55, [(1, (0, z1)), (0, (1, 1))], [], w19)) 2 rfl ?_
    refine e_Ok.rets rfl rfl ?_
    exact ⟨rfl, (show e_fr (kEm cd) w w19 from e_fr.trans (e_fr.refl w) (e_fr.mono q21f (fun c k q => by exact q))), q21T, (show e_Has kRy w19 from H_fr q21f (fun c k g => by unfold kEm at g; omega) hH), Or.inl (show zS w w19 cd 1 (-1) from zS.trans x0 (show zS w w19 cd 1 (-1) from zS.emit hcd ((e_Has.get hT (c := cd) (k := 0) (lo := 0) (hi := 4000) (kD_0 hcd) (by decide)).1) q21f q21x (by omega) (by omega) (by omega) (by omega)) (by omega) (by omega) (by omega) (by omega))⟩
theorem no_dm_0 : ¬ kRO 1 5 := by unfold kRO; omega
theorem no_dm_1 : ¬ kRa 1 3 := by unfold kRa; omega
theorem no_dm_2 : ¬ kRO 1 3 := by unfold kRO; omega
theorem no_dm_3 : ¬ kRa 1 11 := by unfold kRa; omega
theorem no_dm_4 : ¬ kRk 1 11 := by unfold kRk; omega
theorem no_dm_5 : ¬ kRk 1 3 := by unfold kRk; omega
theorem su_dm_9 {cd : Int} {c k : Int} (q : kRO c k) : kRx cd c k := by
  unfold kRO at q
  rcases q with ⟨q, q⟩
  · exact Or.inl ⟨(by omega), Or.inr (Or.inr ⟨(by omega), (by omega)⟩)⟩
theorem su_dm_10 {cd : Int} {c k : Int} (q : kRa c k) : kRx cd c k := by
  unfold kRa at q
  rcases q with ⟨q, ⟨q, q⟩⟩
  · exact Or.inl ⟨(by omega), Or.inr (Or.inr ⟨(by omega), (by omega)⟩)⟩
theorem su_dm_11 {cd : Int} {c k : Int} (q : kRk c k) : kRx cd c k := by
  unfold kRk at q
  rcases q with ⟨q, (q | q | ⟨q, q⟩)⟩
  · exact Or.inl ⟨(by omega), Or.inl (by omega)⟩
  · exact Or.inl ⟨(by omega), Or.inr (Or.inl (by omega))⟩
  · exact Or.inl ⟨(by omega), Or.inr (Or.inr ⟨(by omega), (by omega)⟩)⟩
set_option maxHeartbeats 4000000 in
theorem c_165 {d : Nat} (hd : 27 ≤ d) {w : eW} {cd o : Int} (hS : rS w cd) (ho : w 1 11 = o) (hor : 0 ≤ o ∧ o ≤ 30) (hE : o < 30 → ∀ k, d = k + 1 → zC 158 (o + 1) k) : e_Ok 20 elay kcode eI d 165 (0, [(0, (1, 1))], [], w) (fun r w' => r = [] ∧ xQ w w' cd) := by
  obtain ⟨d, rfl⟩ : ∃ e, d = e + 1 := ⟨d - 1, by omega⟩
  obtain ⟨hT, hH, hc, hcd, hk⟩ := hS
  have hcd2 := hcd; unfold isCd at hcd2
  have hcd3 : 2 ≤ cd ∧ cd ≤ 145 := by omega
  have pL := e_Has.get hT (c := cd) (k := 0) (lo := 0) (hi := 4000) (kD_0 hcd) (by decide)
  have p1 := e_Has.get hH (c := 1) (k := 1) (lo := (-2147483648)) (hi := 2147483647) rfl (by decide)
  have p5 := e_Has.get hH (c := 1) (k := 5) (lo := 0) (hi := 53) rfl (by decide)
  have p6 := e_Has.get hH (c := 1) (k := 6) (lo := 0) (hi := 4000) rfl (by decide)
  have p9 := e_Has.get hH (c := 1) (k := 9) (lo := (-2147483648)) (hi := 2147483647) rfl (by decide)
  have p7 := e_Has.get hH (c := 1) (k := 7) (lo := 0) (hi := 4000) rfl (by decide)
  have x0 : zS w w cd 0 (-1) := zS.refl pL.1
  refine e_Ok.ps1 (x := (1, 1)) (q := 1) 1 rfl ?_
  have h1 := (e_Has.get hH (c := 1) (k := 5) (lo := 0) (hi := 53) rfl (by decide))
  refine e_Ok.getf (z := w 1 5) rfl (el_o rfl) rfl rfl rfl (e_bq h1 (by decide) (by decide)) ?_
  refine e_Ok.ps1 (x := (0, 16)) (q := 6) 1 rfl ?_
  refine e_Ok.if2 rfl (fun h2 => ?_) (fun h2 => ?_)
  · replace h2 : (w 1 5 : Int) = 16 := h2
    refine e_Ok.ps1 (x := (1, 1)) (q := 15) 1 rfl ?_
    refine e_Ok.callV rfl (e_dq hd rfl) rfl rfl rfl rfl (c_132 (e_dq hd rfl) hT hH hk (o := o) ho (by omega)) (fun r3 w4 h5 => ?_)
    obtain ⟨z7, rfl, q6f, q6T, q6H, q6k, ⟨rfl, q6a, q6b, q6c⟩ | ⟨rfl, q6a, q6b, q6c, q6d⟩⟩ := h5
    · refine e_Ok.nrm (q := 18) (st' := [(0, 1)]) rfl rfl ?_
      have q6g : e_fr kRO w w4 := fun c k g => by have g2 : ¬ (c = 1 ∧ k = 11) := g; by_cases h : c = 1 ∧ (k = 12 ∨ k = 13); (exact q6f c k (by unfold kRo; omega)); (exact q6c c k (show ¬ (c = 1 ∧ 11 ≤ k ∧ k ≤ 13) from by omega))
      refine e_Ok.if1 rfl (fun h10 => ?_) (fun h10 => ?_)
      · replace h10 : (1 : Int) ≠ 0 := h10
        refine e_Ok.ps1 (x := (1, 1)) (q := 23) 1 rfl ?_
        refine e_Ok.callV rfl (e_dq hd rfl) rfl rfl rfl rfl (c_123 (e_dq hd rfl) q6T q6H q6k.1.2) (fun r11 w12 h13 => ?_)
        obtain ⟨rfl, q14f, q14T, q14H, q14k, q14x, q144⟩ := h13
        have k16 : w4 1 5 = w 1 5 := ((q6g 1 5 no_dm_0).trans rfl)
        refine e_Ok.nrm (q := 26) (st' := []) rfl rfl ?_
        refine e_Ok.ps1 (x := (1, 1)) (q := 27) 1 rfl ?_
        refine e_Ok.callV rfl (e_dq hd rfl) rfl rfl rfl rfl (hE (by omega) d rfl w12 cd ⟨q14T, q14H, ((q14f 1 3 no_dm_1).trans ((q6g 1 3 no_dm_2).trans hc)), hcd, q14k⟩ ((q14f 1 11 no_dm_3).trans q6b)) (fun r18 w19 h20 => ?_)
        obtain ⟨rfl, q21f, ⟨q21T, q21H, q21c, -, q21k⟩, q21o, q21x⟩ := h20
        refine e_Ok.nrm (q := 30) (st' := []) rfl rfl ?_
        refine e_Ok.ps2 (x := (0, 17)) (y := (1, 1)) (q := 33) 2 rfl ?_
        refine e_Ok.callV rfl (e_dq hd rfl) rfl rfl rfl rfl (c_129 (e_dq hd rfl) q21T q21H q21k (by omega)) (fun r24 w25 h26 => ?_)
        obtain ⟨rfl, q27f, q27T, q27H, q27k, q27x⟩ := h26
        refine e_Ok.nrm (q := 36) (st' := []) rfl rfl ?_
        refine e_Ok.ps2 (x := (1, 1)) (y := (1, 1)) (q := 38) 2 rfl ?_
        refine e_Ok.getf (z := o + 1) rfl (el_o rfl) rfl rfl ((q27f 1 11 no_dm_4).trans (q21o.trans ((q14f 1 11 no_dm_3).trans q6b))) (by omega) ?_
        refine e_Ok.ps1 (x := (0, 1)) (q := 42) 1 rfl ?_
        refine e_Ok.sub' (z := o) rfl (by omega) (by omega) ?_
        refine e_Ok.putf rfl (el_o rfl) rfl rfl ?_
        generalize hw30 : e_up w25 1 11 o = w30
        have hT32 : e_Has kTy w30 := e_Has.ups q27T hw30 (kt_o rfl)
        have hH33 : e_Has kRy w30 := e_Has.upr q27H hw30 rfl (by omega)
        have g35 : e_fr (fun c k => c = 1 ∧ 11 ≤ k ∧ k ≤ 13) w25 w30 := fun c k g => by have g2 : ¬ (c = 1 ∧ 11 ≤ k ∧ k ≤ 13) := g; rw [← hw30]; exact e_up_ne _ _ (by omega)
        refine e_Ok.rets rfl rfl ?_
        have yo : w30 1 11 = o := (e_ue hw30)
        exact ⟨rfl, (show e_fr (kRx cd) w w30 from e_fr.up (show e_fr (kRx cd) w w25 from e_fr.trans (show e_fr (kRx cd) w w19 from e_fr.trans (show e_fr (kRx cd) w w12 from e_fr.trans (show e_fr (kRx cd) w w4 from e_fr.trans (e_fr.refl w) (e_fr.mono q6g (fun c k q => by first | exact su_dm_9 q | (unfold kRO at q; unfold kRx; omega)))) (e_fr.mono q14f (fun c k q => by first | exact su_dm_10 q | (unfold kRa at q; unfold kRx; omega)))) (e_fr.mono q21f (fun c k q => by exact q))) (e_fr.mono q27f (fun c k q => by first | exact su_dm_11 q | (unfold kRk at q; unfold kRx; omega)))) hw30 (by first | exact Or.inl ⟨rfl, Or.inr (Or.inr ⟨(by decide), (by decide)⟩)⟩ | (unfold kRx; omega))), ⟨hT32, hH33, (e_uq hw30 (Or.inr (by first | decide | omega)) ((q27f 1 3 no_dm_5).trans ((q21f 1 3 (by unfold kRx; omega)).trans ((q14f 1 3 no_dm_1).trans ((q6g 1 3 no_dm_2).trans hc))))), hcd, (show tkR w30 from q27k.eq (fun k g => by rw [← hw30]; exact e_up_ne _ _ (by omega)))⟩, yo.trans ho.symm, (show zS w w30 cd (-2) (-1) from zS.trans (show zS w w25 cd (-2) (-1) from zS.trans (show zS w w19 cd (-1) (-1) from zS.trans (show zS w w12 cd (-1) (-1) from zS.trans (show zS w w4 cd 0 (-1) from zS.trans x0 (show zS w w4 cd 0 (-1) from zS.wr hcd ((e_Has.get hT (c := cd) (k := 0) (lo := 0) (hi := 4000) (kD_0 hcd) (by decide)).1) q6c) (by omega) (by omega) (by omega) (by omega)) (show zS w4 w12 cd (-1) (-1) from zS.adv hcd ((e_Has.get q6T (c := cd) (k := 0) (lo := 0) (hi := 4000) (kD_0 hcd) (by decide)).1) q14f q14x (q6k.a1 (by omega))) (by omega) (by omega) (by omega) (by omega)) (show zS w12 w19 cd 0 (-1) from q21x) (by omega) (by omega) (by omega) (by omega)) (show zS w19 w25 cd (-1) (-1) from zS.acc hcd ((e_Has.get q21T (c := cd) (k := 0) (lo := 0) (hi := 4000) (kD_0 hcd) (by decide)).1) q27f q27x (fun g => q21k.a1 (by omega))) (by omega) (by omega) (by omega) (by omega)) (show zS w25 w30 cd 0 (-1) from zS.wr hcd ((e_Has.get q27T (c := cd) (k := 0) (lo := 0) (hi := 4000) (kD_0 hcd) (by decide)).1) g35) (by omega) (by omega) (by omega) (by omega)).le (by omega)⟩
      · replace h10 : (1 : Int) = 0 := Classical.not_not.mp (show ¬ ((1 : Int) ≠ 0) from h10)
        exfalso; omega
    · refine e_Ok.nrm (q := 18) (st' := [(0, 0)]) rfl rfl ?_
      have q6n := q6a
      refine e_Ok.if1 rfl (fun h40 => ?_) (fun h40 => ?_)
      · replace h40 : (0 : Int) ≠ 0 := h40
        exfalso; omega
      · replace h40 : (0 : Int) = 0 := Classical.not_not.mp (show ¬ ((0 : Int) ≠ 0) from h40)
        refine e_Ok.rets rfl rfl ?_
        have yo : w4 1 11 = o := ((q6d 1 11 no_dm_4).trans ho)
        exact ⟨rfl, (show e_fr (kRx cd) w w4 from e_fr.trans (e_fr.refl w) (e_fr.mono q6d (fun c k q => by first | exact su_dm_11 q | (unfold kRk at q; unfold kRx; omega)))), ⟨q6T, q6H, ((q6d 1 3 no_dm_5).trans hc), hcd, q6k⟩, yo.trans ho.symm, (show zS w w4 cd 0 (-1) from zS.trans x0 (show zS w w4 cd 0 (-1) from zS.dead q6n) (by omega) (by omega) (by omega) (by omega)).le (by omega)⟩
  · replace h2 : (w 1 5 : Int) ≠ 16 := (show ¬ ((w 1 5 : Int) = 16) from h2)
    refine e_Ok.ps1 (x := (1, 1)) (q := 10) 1 rfl ?_
    refine e_Ok.callV rfl (e_dq hd rfl) rfl rfl rfl rfl (c_130 (e_dq hd rfl) hT hH hk) (fun r41 w42 h43 => ?_)
    obtain ⟨rfl, q44f, q44T, q44H, q44k, q44n, q445⟩ := h43
    refine e_Ok.nrm (q := 13) (st' := []) rfl rfl ?_
    refine e_Ok.rets rfl rfl ?_
    have yo : w42 1 11 = o := ((q44f 1 11 no_dm_4).trans ho)
    exact ⟨rfl, (show e_fr (kRx cd) w w42 from e_fr.trans (e_fr.refl w) (e_fr.mono q44f (fun c k q => by first | exact su_dm_11 q | (unfold kRk at q; unfold kRx; omega)))), ⟨q44T, q44H, ((q44f 1 3 no_dm_5).trans hc), hcd, q44k⟩, yo.trans ho.symm, (show zS w w42 cd 0 (-1) from zS.trans x0 (show zS w w42 cd 0 (-1) from zS.dead q44n) (by omega) (by omega) (by omega) (by omega)).le (by omega)⟩
theorem no_dm_6 : ¬ kRc 1 5 := by unfold kRc; omega
theorem no_dm_7 : ¬ kRc 1 11 := by unfold kRc; omega
theorem no_dm_8 : ¬ kRc 1 3 := by unfold kRc; omega
theorem su_dm_12 {cd : Int} {c k : Int} (q : kEm cd c k) : kRx cd c k := by
  unfold kEm at q
  rcases q with ⟨q, q⟩ | q
  · exact Or.inr (Or.inl ⟨(by omega), (by omega)⟩)
  · exact Or.inr (Or.inr (by omega))
theorem su_dm_13 {cd : Int} {c k : Int} (q : kRc c k) : kRx cd c k := by
  unfold kRc at q
  rcases q with ⟨q, (q | q)⟩
  · exact Or.inl ⟨(by omega), Or.inr (Or.inr ⟨(by omega), (by omega)⟩)⟩
  · exact Or.inl ⟨(by omega), Or.inr (Or.inr ⟨(by omega), (by omega)⟩)⟩
set_option maxHeartbeats 4000000 in
theorem c_164 {d : Nat} (hd : 27 ≤ d) {w : eW} {cd o : Int} (hS : rS w cd) (ho : w 1 11 = o) (hor : 0 ≤ o ∧ o ≤ 30) (hO : o < 30 → ∀ k, d = k + 1 → zC 164 (o + 1) k) (hP : ∀ k, d = k + 1 → zC 165 o k) : e_Ok 20 elay kcode eI d 164 (0, [(0, (1, 1))], [], w) (fun r w' => r = [] ∧ xQ w w' cd) := by
  obtain ⟨d, rfl⟩ : ∃ e, d = e + 1 := ⟨d - 1, by omega⟩
  obtain ⟨hT, hH, hc, hcd, hk⟩ := hS
  have hcd2 := hcd; unfold isCd at hcd2
  have hcd3 : 2 ≤ cd ∧ cd ≤ 145 := by omega
  have pL := e_Has.get hT (c := cd) (k := 0) (lo := 0) (hi := 4000) (kD_0 hcd) (by decide)
  have p1 := e_Has.get hH (c := 1) (k := 1) (lo := (-2147483648)) (hi := 2147483647) rfl (by decide)
  have p5 := e_Has.get hH (c := 1) (k := 5) (lo := 0) (hi := 53) rfl (by decide)
  have p6 := e_Has.get hH (c := 1) (k := 6) (lo := 0) (hi := 4000) rfl (by decide)
  have p9 := e_Has.get hH (c := 1) (k := 9) (lo := (-2147483648)) (hi := 2147483647) rfl (by decide)
  have p7 := e_Has.get hH (c := 1) (k := 7) (lo := 0) (hi := 4000) rfl (by decide)
  have x0 : zS w w cd 0 (-1) := zS.refl pL.1
  refine e_Ok.ps1 (x := (1, 1)) (q := 1) 1 rfl ?_
  have h1 := (e_Has.get hH (c := 1) (k := 5) (lo := 0) (hi := 53) rfl (by decide))
  refine e_Ok.getf (z := w 1 5) rfl (el_o rfl) rfl rfl rfl (e_bq h1 (by decide) (by decide)) ?_
  refine e_Ok.ps1 (x := (0, 9)) (q := 6) 1 rfl ?_
  refine e_Ok.if2 rfl (fun h2 => ?_) (fun h2 => ?_)
  · replace h2 : (w 1 5 : Int) ≠ 9 := h2
    refine e_Ok.ps1 (x := (1, 1)) (q := 50) 1 rfl ?_
    refine e_Ok.getf (z := w 1 5) rfl (el_o rfl) rfl rfl rfl (by omega) ?_
    refine e_Ok.ps1 (x := (0, 2)) (q := 54) 1 rfl ?_
    refine e_Ok.if2 rfl (fun h3 => ?_) (fun h3 => ?_)
    · replace h3 : (w 1 5 : Int) ≠ 2 := h3
      refine e_Ok.ps1 (x := (1, 1)) (q := 69) 1 rfl ?_
      refine e_Ok.getf (z := w 1 5) rfl (el_o rfl) rfl rfl rfl (by omega) ?_
      refine e_Ok.ps1 (x := (0, 1)) (q := 73) 1 rfl ?_
      refine e_Ok.if2 rfl (fun h4 => ?_) (fun h4 => ?_)
      · replace h4 : (w 1 5 : Int) ≠ 1 := h4
        refine e_Ok.ps1 (x := (1, 1)) (q := 97) 1 rfl ?_
        refine e_Ok.getf (z := w 1 5) rfl (el_o rfl) rfl rfl rfl (by omega) ?_
        refine e_Ok.ps1 (x := (0, 48)) (q := 102) 1 rfl ?_
        refine e_Ok.if2 rfl (fun h5 => ?_) (fun h5 => ?_)
        · replace h5 : (w 1 5 : Int) = 48 := h5
          refine e_Ok.ps1 (x := (1, 1)) (q := 115) 1 rfl ?_
          refine e_Ok.getf (z := w 1 5) rfl (el_o rfl) rfl rfl rfl (by omega) ?_
          refine e_Ok.ps1 (x := (0, 48)) (q := 120) 1 rfl ?_
          refine e_Ok.if2 rfl (fun h6 => ?_) (fun h6 => ?_)
          · replace h6 : (w 1 5 : Int) ≠ 48 := h6
            exfalso; omega
          · replace h6 : (w 1 5 : Int) = 48 := Classical.not_not.mp (show ¬ ((w 1 5 : Int) ≠ 48) from h6)
            refine e_Ok.run (t' := (130, [(1, (0, 3)), (0, (1, 1))], [(1, 1)], w)) 4 rfl ?_
            refine e_Ok.callV rfl (e_dq hd rfl) rfl rfl rfl rfl (c_123 (e_dq hd rfl) hT hH hk.1.2) (fun r7 w8 h9 => ?_)
            obtain ⟨rfl, q10f, q10T, q10H, q10k, q10x, q104⟩ := h9
            refine e_Ok.nrm (q := 133) (st' := []) rfl rfl ?_
            refine e_Ok.ps1 (x := (1, 1)) (q := 134) 1 rfl ?_
            refine e_Ok.callV rfl (e_dq hd rfl) rfl rfl rfl rfl (hP d rfl w8 cd ⟨q10T, q10H, ((q10f 1 3 no_dm_1).trans hc), hcd, q10k⟩ ((q10f 1 11 no_dm_3).trans ho)) (fun r13 w14 h15 => ?_)
            obtain ⟨rfl, q16f, ⟨q16T, q16H, q16c, -, q16k⟩, q16o, q16x⟩ := h15
            refine e_Ok.nrm (q := 137) (st' := []) rfl rfl ?_
            refine e_Ok.ps1 (x := (1, 1)) (q := 138) 1 rfl ?_
            refine e_Ok.getr (z := cd) rfl (el_o rfl) rfl rfl ((q16f 1 3 (by unfold kRx; omega)).trans ((q10f 1 3 no_dm_1).trans hc)) (by omega) ?_
            refine e_Ok.ps2 (x := (0, 0)) (y := (0, 3)) (q := 143) 2 rfl ?_
            refine e_Ok.callV rfl (e_dq hd rfl) rfl (lD0 hcd) rfl rfl (c_21 q16T hcd (by omega) (by omega)) (fun r19 w20 h21 => ?_)
            obtain ⟨z23, rfl, q22f, q22T, q22x⟩ := h21
            have q22z : 0 ≤ z23 ∧ z23 ≤ 4000 := by have g := e_Has.get q16T (c := cd) (k := 0) (lo := 0) (hi := 4000) (kD_0 hcd) (by decide); unfold emQ at q22x; omega
            refine e_Ok.nrm (q := 146) (st' := [(0, z23)]) rfl rfl ?_
            refine e_Ok.run (t' := (193, [(1, (0, 3)), (0, (1, 1))], [], w20)) 2 rfl ?_
            refine e_Ok.rets rfl rfl ?_
            have yo : w20 1 11 = o := ((q22f 1 11 (by unfold kEm; omega)).trans (q16o.trans ((q10f 1 11 no_dm_3).trans ho)))
            exact ⟨rfl, (show e_fr (kRx cd) w w20 from e_fr.trans (show e_fr (kRx cd) w w14 from e_fr.trans (show e_fr (kRx cd) w w8 from e_fr.trans (e_fr.refl w) (e_fr.mono q10f (fun c k q => by first | exact su_dm_10 q | (unfold kRa at q; unfold kRx; omega)))) (e_fr.mono q16f (fun c k q => by exact q))) (e_fr.mono q22f (fun c k q => by first | exact su_dm_12 q | (unfold kEm at q; unfold kRx; omega)))), ⟨q22T, (show e_Has kRy w20 from H_fr q22f (fun c k g => by unfold kEm at g; omega) q16H), ((q22f 1 3 (by unfold kEm; omega)).trans ((q16f 1 3 (by unfold kRx; omega)).trans ((q10f 1 3 no_dm_1).trans hc))), hcd, (show tkR w20 from (q16k.fr q22f (fun k g => by unfold kEm; omega)))⟩, yo.trans ho.symm, (show zS w w20 cd (-1) (-1) from zS.trans (show zS w w14 cd (-2) (-1) from zS.trans (show zS w w8 cd (-2) (-1) from zS.trans x0 (show zS w w8 cd (-2) (-1) from zS.adv hcd ((e_Has.get hT (c := cd) (k := 0) (lo := 0) (hi := 4000) (kD_0 hcd) (by decide)).1) q10f q10x (hk.a2 (by omega))) (by omega) (by omega) (by omega) (by omega)) (show zS w8 w14 cd 0 (-1) from q16x) (by omega) (by omega) (by omega) (by omega)) (show zS w14 w20 cd 1 (-1) from zS.emit hcd ((e_Has.get q16T (c := cd) (k := 0) (lo := 0) (hi := 4000) (kD_0 hcd) (by decide)).1) q22f q22x (by omega) (by omega) (by omega) (by omega)) (by omega) (by omega) (by omega) (by omega)).le (by omega)⟩
        · replace h5 : (w 1 5 : Int) ≠ 48 := (show ¬ ((w 1 5 : Int) = 48) from h5)
          refine e_Ok.ps1 (x := (1, 1)) (q := 106) 1 rfl ?_
          refine e_Ok.getf (z := w 1 5) rfl (el_o rfl) rfl rfl rfl (by omega) ?_
          refine e_Ok.ps1 (x := (0, 49)) (q := 111) 1 rfl ?_
          refine e_Ok.if2 rfl (fun h26 => ?_) (fun h26 => ?_)
          · replace h26 : (w 1 5 : Int) ≠ 49 := h26
            refine e_Ok.ps1 (x := (1, 1)) (q := 151) 1 rfl ?_
            refine e_Ok.getf (z := w 1 5) rfl (el_o rfl) rfl rfl rfl (by omega) ?_
            refine e_Ok.ps2 (x := (0, 53)) (y := (0, 50)) (q := 158) 2 rfl ?_
            refine e_Ok.callS rfl (e_dq hd rfl) rfl rfl (c_242 (by omega) (by omega) (by omega)) (fun r27 w28 h29 => ?_)
            obtain ⟨z30, rfl, rfl, q31⟩ := h29
            obtain ⟨rfl, q31⟩ | ⟨rfl, q31⟩ := q31
            · refine e_Ok.nrm (q := 161) (st' := [(0, 1)]) rfl rfl ?_
              refine e_Ok.if1 rfl (fun h32 => ?_) (fun h32 => ?_)
              · replace h32 : (1 : Int) = 0 := h32
                exfalso; omega
              · replace h32 : (1 : Int) ≠ 0 := (show ¬ ((1 : Int) = 0) from h32)
                refine e_Ok.ps1 (x := (1, 1)) (q := 165) 1 rfl ?_
                refine e_Ok.getr (z := cd) rfl (el_o rfl) rfl rfl hc (by omega) ?_
                refine e_Ok.ps2 (x := (1, 1)) (y := (0, 5)) (q := 170) 2 rfl ?_
                refine e_Ok.getf (z := w 1 5) rfl (el_o rfl) rfl rfl rfl (by omega) ?_
                refine e_Ok.add (z := w 1 5 + 5) rfl (Int.add_comm _ _) (by omega) ?_
                refine e_Ok.ps1 (x := (0, 50)) (q := 176) 1 rfl ?_
                refine e_Ok.sub' (z := w 1 5 - 45) rfl (by omega) (by omega) ?_
                refine e_Ok.ps1 (x := (0, 0)) (q := 178) 1 rfl ?_
                refine e_Ok.callV rfl (e_dq hd rfl) rfl (lD0 hcd) rfl rfl (c_21 hT hcd (by omega) (by omega)) (fun r33 w34 h35 => ?_)
                obtain ⟨z37, rfl, q36f, q36T, q36x⟩ := h35
                have q36k : tkR w34 := (hk.fr q36f (fun k g => by unfold kEm; omega))
                have q36z : 0 ≤ z37 ∧ z37 ≤ 4000 := by have g := e_Has.get hT (c := cd) (k := 0) (lo := 0) (hi := 4000) (kD_0 hcd) (by decide); unfold emQ at q36x; omega
                refine e_Ok.nrm (q := 181) (st' := [(0, z37)]) rfl rfl ?_
                refine e_Ok.run (t' := (183, [(0, (1, 1))], [(1, 1)], w34)) 2 rfl ?_
                refine e_Ok.callV rfl (e_dq hd rfl) rfl rfl rfl rfl (c_123 (e_dq hd rfl) q36T (show e_Has kRy w34 from H_fr q36f (fun c k g => by unfold kEm at g; omega) hH) q36k.1.2) (fun r41 w42 h43 => ?_)
                obtain ⟨rfl, q44f, q44T, q44H, q44k, q44x, q444⟩ := h43
                have k46 : w34 1 5 = w 1 5 := ((q36f 1 5 (by unfold kEm; omega)).trans rfl)
                refine e_Ok.nrm (q := 186) (st' := []) rfl rfl ?_
                refine e_Ok.ps0 (q := 193) 1 rfl ?_
                refine e_Ok.rets rfl rfl ?_
                have yo : w42 1 11 = o := ((q44f 1 11 no_dm_3).trans ((q36f 1 11 (by unfold kEm; omega)).trans ho))
                exact ⟨rfl, (show e_fr (kRx cd) w w42 from e_fr.trans (show e_fr (kRx cd) w w34 from e_fr.trans (e_fr.refl w) (e_fr.mono q36f (fun c k q => by first | exact su_dm_12 q | (unfold kEm at q; unfold kRx; omega)))) (e_fr.mono q44f (fun c k q => by first | exact su_dm_10 q | (unfold kRa at q; unfold kRx; omega)))), ⟨q44T, q44H, ((q44f 1 3 no_dm_1).trans ((q36f 1 3 (by unfold kEm; omega)).trans hc)), hcd, q44k⟩, yo.trans ho.symm, (show zS w w42 cd (-1) (-1) from zS.trans (show zS w w34 cd 1 (-1) from zS.trans x0 (show zS w w34 cd 1 (-1) from zS.emit hcd ((e_Has.get hT (c := cd) (k := 0) (lo := 0) (hi := 4000) (kD_0 hcd) (by decide)).1) q36f q36x (by omega) (by omega) (by omega) (by omega)) (by omega) (by omega) (by omega) (by omega)) (show zS w34 w42 cd (-2) (-1) from zS.adv hcd ((e_Has.get q36T (c := cd) (k := 0) (lo := 0) (hi := 4000) (kD_0 hcd) (by decide)).1) q44f q44x (q36k.a2 (by omega))) (by omega) (by omega) (by omega) (by omega)).le (by omega)⟩
            · refine e_Ok.nrm (q := 161) (st' := [(0, 0)]) rfl rfl ?_
              refine e_Ok.if1 rfl (fun h48 => ?_) (fun h48 => ?_)
              · replace h48 : (0 : Int) = 0 := h48
                refine e_Ok.ps1 (x := (1, 1)) (q := 190) 1 rfl ?_
                refine e_Ok.callV rfl (e_dq hd rfl) rfl rfl rfl rfl (hP d rfl w cd ⟨hT, hH, hc, hcd, hk⟩ ho) (fun r49 w50 h51 => ?_)
                obtain ⟨rfl, q52f, ⟨q52T, q52H, q52c, -, q52k⟩, q52o, q52x⟩ := h51
                refine e_Ok.nrm (q := 193) (st' := []) rfl rfl ?_
                refine e_Ok.rets rfl rfl ?_
                have yo : w50 1 11 = o := (q52o.trans ho)
                exact ⟨rfl, (show e_fr (kRx cd) w w50 from e_fr.trans (e_fr.refl w) (e_fr.mono q52f (fun c k q => by exact q))), ⟨q52T, q52H, ((q52f 1 3 (by unfold kRx; omega)).trans hc), hcd, q52k⟩, yo.trans ho.symm, (show zS w w50 cd 0 (-1) from zS.trans x0 (show zS w w50 cd 0 (-1) from q52x) (by omega) (by omega) (by omega) (by omega)).le (by omega)⟩
              · replace h48 : (0 : Int) ≠ 0 := (show ¬ ((0 : Int) = 0) from h48)
                exfalso; omega
          · replace h26 : (w 1 5 : Int) = 49 := Classical.not_not.mp (show ¬ ((w 1 5 : Int) ≠ 49) from h26)
            refine e_Ok.ps1 (x := (1, 1)) (q := 115) 1 rfl ?_
            refine e_Ok.getf (z := w 1 5) rfl (el_o rfl) rfl rfl rfl (by omega) ?_
            refine e_Ok.ps1 (x := (0, 48)) (q := 120) 1 rfl ?_
            refine e_Ok.if2 rfl (fun h55 => ?_) (fun h55 => ?_)
            · replace h55 : (w 1 5 : Int) ≠ 48 := h55
              refine e_Ok.run (t' := (130, [(1, (0, 4)), (0, (1, 1))], [(1, 1)], w)) 3 rfl ?_
              refine e_Ok.callV rfl (e_dq hd rfl) rfl rfl rfl rfl (c_123 (e_dq hd rfl) hT hH hk.1.2) (fun r56 w57 h58 => ?_)
              obtain ⟨rfl, q59f, q59T, q59H, q59k, q59x, q594⟩ := h58
              refine e_Ok.nrm (q := 133) (st' := []) rfl rfl ?_
              refine e_Ok.ps1 (x := (1, 1)) (q := 134) 1 rfl ?_
              refine e_Ok.callV rfl (e_dq hd rfl) rfl rfl rfl rfl (hP d rfl w57 cd ⟨q59T, q59H, ((q59f 1 3 no_dm_1).trans hc), hcd, q59k⟩ ((q59f 1 11 no_dm_3).trans ho)) (fun r62 w63 h64 => ?_)
              obtain ⟨rfl, q65f, ⟨q65T, q65H, q65c, -, q65k⟩, q65o, q65x⟩ := h64
              refine e_Ok.nrm (q := 137) (st' := []) rfl rfl ?_
              refine e_Ok.ps1 (x := (1, 1)) (q := 138) 1 rfl ?_
              refine e_Ok.getr (z := cd) rfl (el_o rfl) rfl rfl ((q65f 1 3 (by unfold kRx; omega)).trans ((q59f 1 3 no_dm_1).trans hc)) (by omega) ?_
              refine e_Ok.ps2 (x := (0, 0)) (y := (0, 4)) (q := 143) 2 rfl ?_
              refine e_Ok.callV rfl (e_dq hd rfl) rfl (lD0 hcd) rfl rfl (c_21 q65T hcd (by omega) (by omega)) (fun r68 w69 h70 => ?_)
              obtain ⟨z72, rfl, q71f, q71T, q71x⟩ := h70
              have q71z : 0 ≤ z72 ∧ z72 ≤ 4000 := by have g := e_Has.get q65T (c := cd) (k := 0) (lo := 0) (hi := 4000) (kD_0 hcd) (by decide); unfold emQ at q71x; omega
              refine e_Ok.nrm (q := 146) (st' := [(0, z72)]) rfl rfl ?_
              refine e_Ok.run (t' := (193, [(1, (0, 4)), (0, (1, 1))], [], w69)) 2 rfl ?_
              refine e_Ok.rets rfl rfl ?_
              have yo : w69 1 11 = o := ((q71f 1 11 (by unfold kEm; omega)).trans (q65o.trans ((q59f 1 11 no_dm_3).trans ho)))
              exact ⟨rfl, (show e_fr (kRx cd) w w69 from e_fr.trans (show e_fr (kRx cd) w w63 from e_fr.trans (show e_fr (kRx cd) w w57 from e_fr.trans (e_fr.refl w) (e_fr.mono q59f (fun c k q => by first | exact su_dm_10 q | (unfold kRa at q; unfold kRx; omega)))) (e_fr.mono q65f (fun c k q => by exact q))) (e_fr.mono q71f (fun c k q => by first | exact su_dm_12 q | (unfold kEm at q; unfold kRx; omega)))), ⟨q71T, (show e_Has kRy w69 from H_fr q71f (fun c k g => by unfold kEm at g; omega) q65H), ((q71f 1 3 (by unfold kEm; omega)).trans ((q65f 1 3 (by unfold kRx; omega)).trans ((q59f 1 3 no_dm_1).trans hc))), hcd, (show tkR w69 from (q65k.fr q71f (fun k g => by unfold kEm; omega)))⟩, yo.trans ho.symm, (show zS w w69 cd (-1) (-1) from zS.trans (show zS w w63 cd (-2) (-1) from zS.trans (show zS w w57 cd (-2) (-1) from zS.trans x0 (show zS w w57 cd (-2) (-1) from zS.adv hcd ((e_Has.get hT (c := cd) (k := 0) (lo := 0) (hi := 4000) (kD_0 hcd) (by decide)).1) q59f q59x (hk.a2 (by omega))) (by omega) (by omega) (by omega) (by omega)) (show zS w57 w63 cd 0 (-1) from q65x) (by omega) (by omega) (by omega) (by omega)) (show zS w63 w69 cd 1 (-1) from zS.emit hcd ((e_Has.get q65T (c := cd) (k := 0) (lo := 0) (hi := 4000) (kD_0 hcd) (by decide)).1) q71f q71x (by omega) (by omega) (by omega) (by omega)) (by omega) (by omega) (by omega) (by omega)).le (by omega)⟩
            · replace h55 : (w 1 5 : Int) = 48 := Classical.not_not.mp (show ¬ ((w 1 5 : Int) ≠ 48) from h55)
              exfalso; omega
      · replace h4 : (w 1 5 : Int) = 1 := Classical.not_not.mp (show ¬ ((w 1 5 : Int) ≠ 1) from h4)
        refine e_Ok.ps1 (x := (1, 1)) (q := 77) 1 rfl ?_
        refine e_Ok.getr (z := cd) rfl (el_o rfl) rfl rfl hc (by omega) ?_
        refine e_Ok.ps2 (x := (1, 1)) (y := (0, 2)) (q := 82) 2 rfl ?_
        refine e_Ok.callV rfl (e_dq hd rfl) rfl rfl rfl rfl (c_137 (e_dq hd rfl) hT hH hk hc hcd) (fun r75 w76 h77 => ?_)
        obtain ⟨z79, rfl, q78f, q78T, q78H, q78k, q78x, q78r⟩ := h77
        refine e_Ok.nrm (q := 85) (st' := [(0, z79), (0, 2), (1, cd)]) rfl rfl ?_
        refine e_Ok.callV rfl (e_dq hd rfl) rfl (lD0 hcd) rfl rfl (c_21 q78T hcd (by omega) (by omega)) (fun r82 w83 h84 => ?_)
        obtain ⟨z86, rfl, q85f, q85T, q85x⟩ := h84
        have q85k : tkR w83 := (q78k.fr q85f (fun k g => by unfold kEm; omega))
        have q85z : 0 ≤ z86 ∧ z86 ≤ 4000 := by have g := e_Has.get q78T (c := cd) (k := 0) (lo := 0) (hi := 4000) (kD_0 hcd) (by decide); unfold emQ at q85x; omega
        refine e_Ok.nrm (q := 88) (st' := [(0, z86)]) rfl rfl ?_
        refine e_Ok.run (t' := (90, [(0, (1, 1))], [(1, 1)], w83)) 2 rfl ?_
        refine e_Ok.callV rfl (e_dq hd rfl) rfl rfl rfl rfl (c_123 (e_dq hd rfl) q85T (show e_Has kRy w83 from H_fr q85f (fun c k g => by unfold kEm at g; omega) q78H) q85k.1.2) (fun r89 w90 h91 => ?_)
        obtain ⟨rfl, q92f, q92T, q92H, q92k, q92x, q924⟩ := h91
        have k94 : w83 1 5 = w 1 5 := ((q85f 1 5 (by unfold kEm; omega)).trans ((q78f 1 5 no_dm_6).trans rfl))
        refine e_Ok.nrm (q := 93) (st' := []) rfl rfl ?_
        refine e_Ok.ps0 (q := 193) 1 rfl ?_
        refine e_Ok.rets rfl rfl ?_
        have yo : w90 1 11 = o := ((q92f 1 11 no_dm_3).trans ((q85f 1 11 (by unfold kEm; omega)).trans ((q78f 1 11 no_dm_7).trans ho)))
        exact ⟨rfl, (show e_fr (kRx cd) w w90 from e_fr.trans (show e_fr (kRx cd) w w83 from e_fr.trans (show e_fr (kRx cd) w w76 from e_fr.trans (e_fr.refl w) (e_fr.mono q78f (fun c k q => by first | exact su_dm_13 q | (unfold kRc at q; unfold kRx; omega)))) (e_fr.mono q85f (fun c k q => by first | exact su_dm_12 q | (unfold kEm at q; unfold kRx; omega)))) (e_fr.mono q92f (fun c k q => by first | exact su_dm_10 q | (unfold kRa at q; unfold kRx; omega)))), ⟨q92T, q92H, ((q92f 1 3 no_dm_1).trans ((q85f 1 3 (by unfold kEm; omega)).trans ((q78f 1 3 no_dm_8).trans hc))), hcd, q92k⟩, yo.trans ho.symm, (show zS w w90 cd 0 (-1) from zS.trans (show zS w w83 cd 1 (-1) from zS.trans (show zS w w76 cd 0 (-1) from zS.trans x0 (show zS w w76 cd 0 (-1) from zS.cmp hcd ((e_Has.get hT (c := cd) (k := 0) (lo := 0) (hi := 4000) (kD_0 hcd) (by decide)).1) q78f q78x) (by omega) (by omega) (by omega) (by omega)) (show zS w76 w83 cd 1 (-1) from zS.emit hcd ((e_Has.get q78T (c := cd) (k := 0) (lo := 0) (hi := 4000) (kD_0 hcd) (by decide)).1) q85f q85x (by omega) (by omega) (by omega) (by omega)) (by omega) (by omega) (by omega) (by omega)) (show zS w83 w90 cd (-1) (-1) from zS.adv hcd ((e_Has.get q85T (c := cd) (k := 0) (lo := 0) (hi := 4000) (kD_0 hcd) (by decide)).1) q92f q92x (q85k.a1 (by omega))) (by omega) (by omega) (by omega) (by omega)).le (by omega)⟩
    · replace h3 : (w 1 5 : Int) = 2 := Classical.not_not.mp (show ¬ ((w 1 5 : Int) ≠ 2) from h3)
      refine e_Ok.ps1 (x := (1, 1)) (q := 58) 1 rfl ?_
      have e5 : w 1 5 = w 1 5 := rfl
      refine e_Ok.callV rfl (e_dq hd rfl) rfl rfl rfl rfl (c_166 (e_dq hd rfl) ⟨hT, hH, hc, hcd, hk⟩ (by omega)) (fun r101 w103 h104 => ?_)
      obtain ⟨rfl, q105f, q105T, q105H, q105x | ⟨q105x, q105y⟩⟩ := h104
      · refine e_Ok.nrm (q := 61) (st' := []) rfl rfl ?_
        have q105k : tkR w103 := hk.fr q105f (fun k g => by unfold kEm; omega)
        refine e_Ok.ps1 (x := (1, 1)) (q := 62) 1 rfl ?_
        refine e_Ok.callV rfl (e_dq hd rfl) rfl rfl rfl rfl (c_123 (e_dq hd rfl) q105T q105H q105k.1.2) (fun r108 w109 h110 => ?_)
        obtain ⟨rfl, q111f, q111T, q111H, q111k, q111x, q1114⟩ := h110
        have k113 : w103 1 5 = w 1 5 := ((q105f 1 5 (by unfold kEm; omega)).trans rfl)
        refine e_Ok.nrm (q := 65) (st' := []) rfl rfl ?_
        refine e_Ok.ps0 (q := 193) 1 rfl ?_
        refine e_Ok.rets rfl rfl ?_
        have yo : w109 1 11 = o := ((q111f 1 11 no_dm_3).trans ((q105f 1 11 (by unfold kEm; omega)).trans ho))
        exact ⟨rfl, (show e_fr (kRx cd) w w109 from e_fr.trans (show e_fr (kRx cd) w w103 from e_fr.trans (e_fr.refl w) (e_fr.mono q105f (fun c k q => by first | exact su_dm_12 q | (unfold kEm at q; unfold kRx; omega)))) (e_fr.mono q111f (fun c k q => by first | exact su_dm_10 q | (unfold kRa at q; unfold kRx; omega)))), ⟨q111T, q111H, ((q111f 1 3 no_dm_1).trans ((q105f 1 3 (by unfold kEm; omega)).trans hc)), hcd, q111k⟩, yo.trans ho.symm, (show zS w w109 cd 0 (-1) from zS.trans (show zS w w103 cd 1 (-1) from zS.trans x0 (show zS w w103 cd 1 (-1) from q105x) (by omega) (by omega) (by omega) (by omega)) (show zS w103 w109 cd (-1) (-1) from zS.adv hcd ((e_Has.get q105T (c := cd) (k := 0) (lo := 0) (hi := 4000) (kD_0 hcd) (by decide)).1) q111f q111x (q105k.a1 (by omega))) (by omega) (by omega) (by omega) (by omega)).le (by omega)⟩
      · refine e_Ok.nrm (q := 61) (st' := []) rfl rfl ?_
        have q105k : tkR w103 := hk.fr q105f (fun k g => by unfold kEm; omega)
        have q105m : w103 1 6 + 2 ≤ w103 1 7 := by rw [q105f 1 6 (by unfold kEm; omega), q105f 1 7 (by unfold kEm; omega)]; exact q105y
        refine e_Ok.ps1 (x := (1, 1)) (q := 62) 1 rfl ?_
        refine e_Ok.callV rfl (e_dq hd rfl) rfl rfl rfl rfl (c_123 (e_dq hd rfl) q105T q105H q105k.1.2) (fun r117 w118 h119 => ?_)
        obtain ⟨rfl, q120f, q120T, q120H, q120k, q120x, q1204⟩ := h119
        refine e_Ok.nrm (q := 65) (st' := []) rfl rfl ?_
        refine e_Ok.ps0 (q := 193) 1 rfl ?_
        refine e_Ok.rets rfl rfl ?_
        have yo : w118 1 11 = o := ((q120f 1 11 no_dm_3).trans ((q105f 1 11 (by unfold kEm; omega)).trans ho))
        exact ⟨rfl, (show e_fr (kRx cd) w w118 from e_fr.trans (show e_fr (kRx cd) w w103 from e_fr.trans (e_fr.refl w) (e_fr.mono q105f (fun c k q => by first | exact su_dm_12 q | (unfold kEm at q; unfold kRx; omega)))) (e_fr.mono q120f (fun c k q => by first | exact su_dm_10 q | (unfold kRa at q; unfold kRx; omega)))), ⟨q120T, q120H, ((q120f 1 3 no_dm_1).trans ((q105f 1 3 (by unfold kEm; omega)).trans hc)), hcd, q120k⟩, yo.trans ho.symm, (show zS w w118 cd 0 (-1) from zS.trans (show zS w w103 cd 2 (-1) from zS.trans x0 (show zS w w103 cd 2 (-1) from q105x) (by omega) (by omega) (by omega) (by omega)) (show zS w103 w118 cd (-2) (-1) from zS.adv hcd ((e_Has.get q105T (c := cd) (k := 0) (lo := 0) (hi := 4000) (kD_0 hcd) (by decide)).1) q120f q120x q105m) (by omega) (by omega) (by omega) (by omega)).le (by omega)⟩
  · replace h2 : (w 1 5 : Int) = 9 := Classical.not_not.mp (show ¬ ((w 1 5 : Int) ≠ 9) from h2)
    refine e_Ok.ps1 (x := (1, 1)) (q := 10) 1 rfl ?_
    refine e_Ok.callV rfl (e_dq hd rfl) rfl rfl rfl rfl (c_132 (e_dq hd rfl) hT hH hk (o := o) ho (by omega)) (fun r123 w124 h125 => ?_)
    obtain ⟨z127, rfl, q126f, q126T, q126H, q126k, ⟨rfl, q126a, q126b, q126c⟩ | ⟨rfl, q126a, q126b, q126c, q126d⟩⟩ := h125
    · refine e_Ok.nrm (q := 13) (st' := [(0, 1)]) rfl rfl ?_
      have q126g : e_fr kRO w w124 := fun c k g => by have g2 : ¬ (c = 1 ∧ k = 11) := g; by_cases h : c = 1 ∧ (k = 12 ∨ k = 13); (exact q126f c k (by unfold kRo; omega)); (exact q126c c k (show ¬ (c = 1 ∧ 11 ≤ k ∧ k ≤ 13) from by omega))
      refine e_Ok.if1 rfl (fun h130 => ?_) (fun h130 => ?_)
      · replace h130 : (1 : Int) ≠ 0 := h130
        refine e_Ok.ps1 (x := (1, 1)) (q := 18) 1 rfl ?_
        refine e_Ok.callV rfl (e_dq hd rfl) rfl rfl rfl rfl (c_123 (e_dq hd rfl) q126T q126H q126k.1.2) (fun r131 w132 h133 => ?_)
        obtain ⟨rfl, q134f, q134T, q134H, q134k, q134x, q1344⟩ := h133
        have k136 : w124 1 5 = w 1 5 := ((q126g 1 5 no_dm_0).trans rfl)
        refine e_Ok.nrm (q := 21) (st' := []) rfl rfl ?_
        refine e_Ok.ps1 (x := (1, 1)) (q := 22) 1 rfl ?_
        refine e_Ok.callV rfl (e_dq hd rfl) rfl rfl rfl rfl (hO (by omega) d rfl w132 cd ⟨q134T, q134H, ((q134f 1 3 no_dm_1).trans ((q126g 1 3 no_dm_2).trans hc)), hcd, q134k⟩ ((q134f 1 11 no_dm_3).trans q126b)) (fun r138 w139 h140 => ?_)
        obtain ⟨rfl, q141f, ⟨q141T, q141H, q141c, -, q141k⟩, q141o, q141x⟩ := h140
        refine e_Ok.nrm (q := 25) (st' := []) rfl rfl ?_
        refine e_Ok.ps2 (x := (1, 1)) (y := (1, 1)) (q := 27) 2 rfl ?_
        refine e_Ok.getf (z := o + 1) rfl (el_o rfl) rfl rfl (q141o.trans ((q134f 1 11 no_dm_3).trans q126b)) (by omega) ?_
        refine e_Ok.ps1 (x := (0, 1)) (q := 31) 1 rfl ?_
        refine e_Ok.sub' (z := o) rfl (by omega) (by omega) ?_
        refine e_Ok.putf rfl (el_o rfl) rfl rfl ?_
        generalize hw144 : e_up w139 1 11 o = w144
        have hT146 : e_Has kTy w144 := e_Has.ups q141T hw144 (kt_o rfl)
        have hH147 : e_Has kRy w144 := e_Has.upr q141H hw144 rfl (by omega)
        have g149 : e_fr (fun c k => c = 1 ∧ 11 ≤ k ∧ k ≤ 13) w139 w144 := fun c k g => by have g2 : ¬ (c = 1 ∧ 11 ≤ k ∧ k ≤ 13) := g; rw [← hw144]; exact e_up_ne _ _ (by omega)
        refine e_Ok.ps1 (x := (1, 1)) (q := 36) 1 rfl ?_
        refine e_Ok.getr (z := cd) rfl (el_o rfl) rfl rfl (e_uq hw144 (Or.inr (by decide)) ((q141f 1 3 (by unfold kRx; omega)).trans ((q134f 1 3 no_dm_1).trans ((q126g 1 3 no_dm_2).trans hc)))) (by omega) ?_
        refine e_Ok.ps2 (x := (0, 0)) (y := (0, 9)) (q := 42) 2 rfl ?_
        refine e_Ok.callV rfl (e_dq hd rfl) rfl (lD0 hcd) rfl rfl (c_21 hT146 hcd (by omega) (by omega)) (fun r151 w152 h153 => ?_)
        obtain ⟨z155, rfl, q154f, q154T, q154x⟩ := h153
        have q154z : 0 ≤ z155 ∧ z155 ≤ 4000 := by have g := e_Has.get hT146 (c := cd) (k := 0) (lo := 0) (hi := 4000) (kD_0 hcd) (by decide); unfold emQ at q154x; omega
        refine e_Ok.nrm (q := 45) (st' := [(0, z155)]) rfl rfl ?_
        refine e_Ok.run (t' := (193, [(0, (1, 1))], [], w152)) 2 rfl ?_
        refine e_Ok.rets rfl rfl ?_
        have yo : w152 1 11 = o := ((q154f 1 11 (by unfold kEm; omega)).trans (e_ue hw144))
        exact ⟨rfl, (show e_fr (kRx cd) w w152 from e_fr.trans (show e_fr (kRx cd) w w144 from e_fr.up (show e_fr (kRx cd) w w139 from e_fr.trans (show e_fr (kRx cd) w w132 from e_fr.trans (show e_fr (kRx cd) w w124 from e_fr.trans (e_fr.refl w) (e_fr.mono q126g (fun c k q => by first | exact su_dm_9 q | (unfold kRO at q; unfold kRx; omega)))) (e_fr.mono q134f (fun c k q => by first | exact su_dm_10 q | (unfold kRa at q; unfold kRx; omega)))) (e_fr.mono q141f (fun c k q => by exact q))) hw144 (by first | exact Or.inl ⟨rfl, Or.inr (Or.inr ⟨(by decide), (by decide)⟩)⟩ | (unfold kRx; omega))) (e_fr.mono q154f (fun c k q => by first | exact su_dm_12 q | (unfold kEm at q; unfold kRx; omega)))), ⟨q154T, (show e_Has kRy w152 from H_fr q154f (fun c k g => by unfold kEm at g; omega) hH147), ((q154f 1 3 (by unfold kEm; omega)).trans (e_uq hw144 (Or.inr (by first | decide | omega)) ((q141f 1 3 (by unfold kRx; omega)).trans ((q134f 1 3 no_dm_1).trans ((q126g 1 3 no_dm_2).trans hc))))), hcd, (show tkR w152 from ((show tkR w144 from q141k.eq (fun k g => by rw [← hw144]; exact e_up_ne _ _ (by omega))).fr q154f (fun k g => by unfold kEm; omega)))⟩, yo.trans ho.symm, (show zS w w152 cd 0 (-1) from zS.trans (show zS w w144 cd (-1) (-1) from zS.trans (show zS w w139 cd (-1) (-1) from zS.trans (show zS w w132 cd (-1) (-1) from zS.trans (show zS w w124 cd 0 (-1) from zS.trans x0 (show zS w w124 cd 0 (-1) from zS.wr hcd ((e_Has.get hT (c := cd) (k := 0) (lo := 0) (hi := 4000) (kD_0 hcd) (by decide)).1) q126c) (by omega) (by omega) (by omega) (by omega)) (show zS w124 w132 cd (-1) (-1) from zS.adv hcd ((e_Has.get q126T (c := cd) (k := 0) (lo := 0) (hi := 4000) (kD_0 hcd) (by decide)).1) q134f q134x (q126k.a1 (by omega))) (by omega) (by omega) (by omega) (by omega)) (show zS w132 w139 cd 0 (-1) from q141x) (by omega) (by omega) (by omega) (by omega)) (show zS w139 w144 cd 0 (-1) from zS.wr hcd ((e_Has.get q141T (c := cd) (k := 0) (lo := 0) (hi := 4000) (kD_0 hcd) (by decide)).1) g149) (by omega) (by omega) (by omega) (by omega)) (show zS w144 w152 cd 1 (-1) from zS.emit hcd ((e_Has.get hT146 (c := cd) (k := 0) (lo := 0) (hi := 4000) (kD_0 hcd) (by decide)).1) q154f q154x (by omega) (by omega) (by omega) (by omega)) (by omega) (by omega) (by omega) (by omega)).le (by omega)⟩
      · replace h130 : (1 : Int) = 0 := Classical.not_not.mp (show ¬ ((1 : Int) ≠ 0) from h130)
        exfalso; omega
    · refine e_Ok.nrm (q := 13) (st' := [(0, 0)]) rfl rfl ?_
      have q126n := q126a
      refine e_Ok.if1 rfl (fun h160 => ?_) (fun h160 => ?_)
      · replace h160 : (0 : Int) ≠ 0 := h160
        exfalso; omega
      · replace h160 : (0 : Int) = 0 := Classical.not_not.mp (show ¬ ((0 : Int) ≠ 0) from h160)
        refine e_Ok.rets rfl rfl ?_
        have yo : w124 1 11 = o := ((q126d 1 11 no_dm_4).trans ho)
        exact ⟨rfl, (show e_fr (kRx cd) w w124 from e_fr.trans (e_fr.refl w) (e_fr.mono q126d (fun c k q => by first | exact su_dm_11 q | (unfold kRk at q; unfold kRx; omega)))), ⟨q126T, q126H, ((q126d 1 3 no_dm_5).trans hc), hcd, q126k⟩, yo.trans ho.symm, (show zS w w124 cd 0 (-1) from zS.trans x0 (show zS w w124 cd 0 (-1) from zS.dead q126n) (by omega) (by omega) (by omega) (by omega)).le (by omega)⟩
set_option maxHeartbeats 4000000 in
theorem c_163 {d : Nat} (hd : 27 ≤ d) {w : eW} {cd o : Int} (hS : rS w cd) (ho : w 1 11 = o) (hor : 0 ≤ o ∧ o ≤ 30) (hI : ∀ k, d = k + 1 → zC 164 o k) : e_Ok 20 elay kcode eI d 163 (0, [(0, (1, 1))], [], w) (fun r w' => r = [] ∧ xQ w w' cd) := by
  obtain ⟨d, rfl⟩ : ∃ e, d = e + 1 := ⟨d - 1, by omega⟩
  obtain ⟨hT, hH, hc, hcd, hk⟩ := hS
  have hcd2 := hcd; unfold isCd at hcd2
  have hcd3 : 2 ≤ cd ∧ cd ≤ 145 := by omega
  have pL := e_Has.get hT (c := cd) (k := 0) (lo := 0) (hi := 4000) (kD_0 hcd) (by decide)
  have p1 := e_Has.get hH (c := 1) (k := 1) (lo := (-2147483648)) (hi := 2147483647) rfl (by decide)
  have p5 := e_Has.get hH (c := 1) (k := 5) (lo := 0) (hi := 53) rfl (by decide)
  have p6 := e_Has.get hH (c := 1) (k := 6) (lo := 0) (hi := 4000) rfl (by decide)
  have p9 := e_Has.get hH (c := 1) (k := 9) (lo := (-2147483648)) (hi := 2147483647) rfl (by decide)
  have p7 := e_Has.get hH (c := 1) (k := 7) (lo := 0) (hi := 4000) rfl (by decide)
  refine e_Ok.ps1 (x := (1, 1)) (q := 1) 1 rfl ?_
  refine e_Ok.callV rfl (e_dq hd rfl) rfl rfl rfl rfl (hI d rfl w cd ⟨hT, hH, hc, hcd, hk⟩ ho) (fun r1 w2 h3 => ?_)
  obtain ⟨rfl, q4f, ⟨q4T, q4H, q4c, -, q4k⟩, q4o, q4x⟩ := h3
  refine e_Ok.nrm (q := 4) (st' := []) rfl rfl ?_
  refine e_Ok.run (t' := (6, [(1, (0, 0)), (0, (1, 1))], [], w2)) 2 rfl ?_
  have hL7 : ∀ (nn : Nat) (y1 : Int) (v1 : eW), e_fr (kRx cd) w v1 ∧ e_Has kTy v1 ∧ e_Has kRy v1 ∧ v1 1 11 = o ∧ tkR v1 ∧ zS w v1 cd 0 (-1) ∧ ((0 ≤ y1 ∧ y1 ≤ 4000)) → 4001 - y1 < nn → e_Ok 20 elay kcode eI (d + 1) 163 (6, [(0, (1, 1)), (1, (0, y1))], [], v1) (fun r w' => r = [] ∧ xQ w w' cd) := by
    intro nn
    induction nn with
    | zero => intro y1 v1 hj hm; obtain ⟨j9, j10, j11, j12, j13, j14, j15⟩ := hj; exfalso; omega
    | succ nn ih8 =>
      intro y1 v1 hj hm
      obtain ⟨j9, j10, j11, j12, j13, j14, j15⟩ := hj
      refine e_Ok.run (t' := (10, [(0, (1, 1)), (1, (0, y1))], [(0, 4000), (0, y1)], v1)) 2 rfl ?_
      refine e_Ok.if2 rfl (fun h16 => ?_) (fun h16 => ?_)
      · replace h16 : (y1 : Int) ≥ 4000 := h16
        refine e_Ok.rets rfl rfl ?_
        have yo : v1 1 11 = o := j12
        exact ⟨rfl, j9, ⟨j10, j11, ((j9 1 3 (by unfold kRx; omega)).trans hc), hcd, j13⟩, yo.trans ho.symm, j14.le (by omega)⟩
      · replace h16 : (y1 : Int) < 4000 := Int.not_le.mp (show ¬ ((y1 : Int) ≥ 4000) from h16)
        refine e_Ok.ps1 (x := (1, 1)) (q := 14) 1 rfl ?_
        have h17 := (e_Has.get j11 (c := 1) (k := 5) (lo := 0) (hi := 53) rfl (by decide))
        refine e_Ok.getf (z := v1 1 5) rfl (el_o rfl) rfl rfl rfl (e_bq h17 (by decide) (by decide)) ?_
        refine e_Ok.ps2 (x := (0, 12)) (y := (0, 10)) (q := 21) 2 rfl ?_
        refine e_Ok.callS rfl (e_dq hd rfl) rfl rfl (c_242 (by omega) (by omega) (by omega)) (fun r18 w19 h20 => ?_)
        obtain ⟨z21, rfl, rfl, q22⟩ := h20
        obtain ⟨rfl, q22⟩ | ⟨rfl, q22⟩ := q22
        · refine e_Ok.nrm (q := 24) (st' := [(0, 1)]) rfl rfl ?_
          refine e_Ok.if1 rfl (fun h23 => ?_) (fun h23 => ?_)
          · replace h23 : (1 : Int) = 0 := h23
            exfalso; omega
          · replace h23 : (1 : Int) ≠ 0 := (show ¬ ((1 : Int) = 0) from h23)
            refine e_Ok.ps2 (x := (1, 1)) (y := (0, 16)) (q := 30) 2 rfl ?_
            refine e_Ok.getf (z := v1 1 5) rfl (el_o rfl) rfl rfl rfl (by omega) ?_
            refine e_Ok.add (z := v1 1 5 + 16) rfl (Int.add_comm _ _) (by omega) ?_
            refine e_Ok.ps1 (x := (0, 10)) (q := 36) 1 rfl ?_
            refine e_Ok.sub' (z := v1 1 5 + 6) rfl (by omega) (by omega) ?_
            refine e_Ok.run (t' := (39, [(2, (0, v1 1 5 + 6)), (0, (1, 1)), (1, (0, y1))], [(1, 1)], v1)) 2 rfl ?_
            refine e_Ok.callV rfl (e_dq hd rfl) rfl rfl rfl rfl (c_123 (e_dq hd rfl) j10 j11 j13.1.2) (fun r24 w25 h26 => ?_)
            obtain ⟨rfl, q27f, q27T, q27H, q27k, q27x, q274⟩ := h26
            refine e_Ok.nrm (q := 42) (st' := []) rfl rfl ?_
            refine e_Ok.ps1 (x := (1, 1)) (q := 43) 1 rfl ?_
            refine e_Ok.callV rfl (e_dq hd rfl) rfl rfl rfl rfl (hI d rfl w25 cd ⟨q27T, q27H, ((q27f 1 3 no_dm_1).trans ((j9 1 3 (by unfold kRx; omega)).trans hc)), hcd, q27k⟩ ((q27f 1 11 no_dm_3).trans j12)) (fun r30 w31 h32 => ?_)
            obtain ⟨rfl, q33f, ⟨q33T, q33H, q33c, -, q33k⟩, q33o, q33x⟩ := h32
            refine e_Ok.nrm (q := 46) (st' := []) rfl rfl ?_
            refine e_Ok.ps1 (x := (1, 1)) (q := 47) 1 rfl ?_
            refine e_Ok.getr (z := cd) rfl (el_o rfl) rfl rfl ((q33f 1 3 (by unfold kRx; omega)).trans ((q27f 1 3 no_dm_1).trans ((j9 1 3 (by unfold kRx; omega)).trans hc))) (by omega) ?_
            refine e_Ok.ps2 (x := (0, 0)) (y := (0, v1 1 5 + 6)) (q := 52) 2 rfl ?_
            refine e_Ok.callV rfl (e_dq hd rfl) rfl (lD0 hcd) rfl rfl (c_21 q33T hcd (by omega) (by omega)) (fun r36 w37 h38 => ?_)
            obtain ⟨z41, rfl, q40f, q40T, q40x⟩ := h38
            have q40z : 0 ≤ z41 ∧ z41 ≤ 4000 := by have g := e_Has.get q33T (c := cd) (k := 0) (lo := 0) (hi := 4000) (kD_0 hcd) (by decide); unfold emQ at q40x; omega
            refine e_Ok.nrm (q := 55) (st' := [(0, z41)]) rfl rfl ?_
            refine e_Ok.run (t' := (56, [(2, (0, v1 1 5 + 6)), (0, (1, 1)), (1, (0, y1))], [], w37)) 1 rfl ?_
            refine e_Ok.inc (z := y1 + 1) rfl rfl (by first | with_reducible rfl | omega) (by omega) ?_
            show e_Ok 20 elay kcode eI (d + 1) 163 (59, [(1, (0, y1 + 1)), (2, (0, v1 1 5 + 6)), (0, (1, 1))], [], w37) _
            refine e_Ok.ps0 (q := 6) 1 rfl ?_
            refine e_Ok.sub kAlk (e_sub_of rfl ?_) (ih8 (y1 + 1) w37 ⟨(show e_fr (kRx cd) w w37 from e_fr.trans (show e_fr (kRx cd) w w31 from e_fr.trans (show e_fr (kRx cd) w w25 from e_fr.trans j9 (e_fr.mono q27f (fun c k q => by first | exact su_dm_10 q | (unfold kRa at q; unfold kRx; omega)))) (e_fr.mono q33f (fun c k q => by exact q))) (e_fr.mono q40f (fun c k q => by first | exact su_dm_12 q | (unfold kEm at q; unfold kRx; omega)))), q40T, (show e_Has kRy w37 from H_fr q40f (fun c k g => by unfold kEm at g; omega) q33H), ((q40f 1 11 (by unfold kEm; omega)).trans (q33o.trans ((q27f 1 11 no_dm_3).trans j12))), (show tkR w37 from (q33k.fr q40f (fun k g => by unfold kEm; omega))), ((show zS w w37 cd 0 (-1) from zS.trans (show zS w w31 cd (-1) (-1) from zS.trans (show zS w w25 cd (-1) (-1) from zS.trans j14 (show zS v1 w25 cd (-1) (-1) from zS.adv hcd ((e_Has.get j10 (c := cd) (k := 0) (lo := 0) (hi := 4000) (kD_0 hcd) (by decide)).1) q27f q27x (j13.a1 (by omega))) (by omega) (by omega) (by omega) (by omega)) (show zS w25 w31 cd 0 (-1) from q33x) (by omega) (by omega) (by omega) (by omega)) (show zS w31 w37 cd 1 (-1) from zS.emit hcd ((e_Has.get q33T (c := cd) (k := 0) (lo := 0) (hi := 4000) (kD_0 hcd) (by decide)).1) q40f q40x (by omega) (by omega) (by omega) (by omega)) (by omega) (by omega) (by omega) (by omega)).le (by omega)), (by omega)⟩ (by omega))
            exact ⟨rfl, rfl, trivial⟩
        · refine e_Ok.nrm (q := 24) (st' := [(0, 0)]) rfl rfl ?_
          refine e_Ok.if1 rfl (fun h44 => ?_) (fun h44 => ?_)
          · replace h44 : (0 : Int) = 0 := h44
            refine e_Ok.rets rfl rfl ?_
            have yo : v1 1 11 = o := j12
            exact ⟨rfl, j9, ⟨j10, j11, ((j9 1 3 (by unfold kRx; omega)).trans hc), hcd, j13⟩, yo.trans ho.symm, j14.le (by omega)⟩
          · replace h44 : (0 : Int) ≠ 0 := (show ¬ ((0 : Int) = 0) from h44)
            exfalso; omega
  refine e_Ok.sub kAlk (e_sub_of rfl ?_) (hL7 (4001 + 1 : Int).toNat 0 w2 ⟨(show e_fr (kRx cd) w w2 from e_fr.trans (e_fr.refl w) (e_fr.mono q4f (fun c k q => by exact q))), q4T, q4H, (q4o.trans ho), q4k, ((show zS w w2 cd 0 (-1) from zS.trans (show zS w w cd 0 (-1) from zS.refl pL.1) (show zS w w2 cd 0 (-1) from q4x) (by omega) (by omega) (by omega) (by omega)).le (by omega)), (by omega)⟩ (by omega))
  exact ⟨rfl, rfl, trivial⟩
set_option maxHeartbeats 4000000 in
theorem c_162 {d : Nat} (hd : 27 ≤ d) {w : eW} {cd o : Int} (hS : rS w cd) (ho : w 1 11 = o) (hor : 0 ≤ o ∧ o ≤ 30) (hI : ∀ k, d = k + 1 → zC 163 o k) : e_Ok 20 elay kcode eI d 162 (0, [(0, (1, 1))], [], w) (fun r w' => r = [] ∧ xQ w w' cd) := by
  obtain ⟨d, rfl⟩ : ∃ e, d = e + 1 := ⟨d - 1, by omega⟩
  obtain ⟨hT, hH, hc, hcd, hk⟩ := hS
  have hcd2 := hcd; unfold isCd at hcd2
  have hcd3 : 2 ≤ cd ∧ cd ≤ 145 := by omega
  have pL := e_Has.get hT (c := cd) (k := 0) (lo := 0) (hi := 4000) (kD_0 hcd) (by decide)
  have p1 := e_Has.get hH (c := 1) (k := 1) (lo := (-2147483648)) (hi := 2147483647) rfl (by decide)
  have p5 := e_Has.get hH (c := 1) (k := 5) (lo := 0) (hi := 53) rfl (by decide)
  have p6 := e_Has.get hH (c := 1) (k := 6) (lo := 0) (hi := 4000) rfl (by decide)
  have p9 := e_Has.get hH (c := 1) (k := 9) (lo := (-2147483648)) (hi := 2147483647) rfl (by decide)
  have p7 := e_Has.get hH (c := 1) (k := 7) (lo := 0) (hi := 4000) rfl (by decide)
  refine e_Ok.ps1 (x := (1, 1)) (q := 1) 1 rfl ?_
  refine e_Ok.callV rfl (e_dq hd rfl) rfl rfl rfl rfl (hI d rfl w cd ⟨hT, hH, hc, hcd, hk⟩ ho) (fun r1 w2 h3 => ?_)
  obtain ⟨rfl, q4f, ⟨q4T, q4H, q4c, -, q4k⟩, q4o, q4x⟩ := h3
  refine e_Ok.nrm (q := 4) (st' := []) rfl rfl ?_
  refine e_Ok.run (t' := (6, [(1, (0, 0)), (0, (1, 1))], [], w2)) 2 rfl ?_
  have hL7 : ∀ (nn : Nat) (y1 : Int) (v1 : eW), e_fr (kRx cd) w v1 ∧ e_Has kTy v1 ∧ e_Has kRy v1 ∧ v1 1 11 = o ∧ tkR v1 ∧ zS w v1 cd 0 (-1) ∧ ((0 ≤ y1 ∧ y1 ≤ 4000)) → 4001 - y1 < nn → e_Ok 20 elay kcode eI (d + 1) 162 (6, [(0, (1, 1)), (1, (0, y1))], [], v1) (fun r w' => r = [] ∧ xQ w w' cd) := by
    intro nn
    induction nn with
    | zero => intro y1 v1 hj hm; obtain ⟨j9, j10, j11, j12, j13, j14, j15⟩ := hj; exfalso; omega
    | succ nn ih8 =>
      intro y1 v1 hj hm
      obtain ⟨j9, j10, j11, j12, j13, j14, j15⟩ := hj
      refine e_Ok.run (t' := (10, [(0, (1, 1)), (1, (0, y1))], [(0, 4000), (0, y1)], v1)) 2 rfl ?_
      refine e_Ok.if2 rfl (fun h16 => ?_) (fun h16 => ?_)
      · replace h16 : (y1 : Int) ≥ 4000 := h16
        refine e_Ok.rets rfl rfl ?_
        have yo : v1 1 11 = o := j12
        exact ⟨rfl, j9, ⟨j10, j11, ((j9 1 3 (by unfold kRx; omega)).trans hc), hcd, j13⟩, yo.trans ho.symm, j14.le (by omega)⟩
      · replace h16 : (y1 : Int) < 4000 := Int.not_le.mp (show ¬ ((y1 : Int) ≥ 4000) from h16)
        refine e_Ok.ps1 (x := (1, 1)) (q := 14) 1 rfl ?_
        have h17 := (e_Has.get j11 (c := 1) (k := 5) (lo := 0) (hi := 53) rfl (by decide))
        refine e_Ok.getf (z := v1 1 5) rfl (el_o rfl) rfl rfl rfl (e_bq h17 (by decide) (by decide)) ?_
        refine e_Ok.ps2 (x := (0, 9)) (y := (0, 8)) (q := 21) 2 rfl ?_
        refine e_Ok.callS rfl (e_dq hd rfl) rfl rfl (c_242 (by omega) (by omega) (by omega)) (fun r18 w19 h20 => ?_)
        obtain ⟨z21, rfl, rfl, q22⟩ := h20
        obtain ⟨rfl, q22⟩ | ⟨rfl, q22⟩ := q22
        · refine e_Ok.nrm (q := 24) (st' := [(0, 1)]) rfl rfl ?_
          refine e_Ok.if1 rfl (fun h23 => ?_) (fun h23 => ?_)
          · replace h23 : (1 : Int) = 0 := h23
            exfalso; omega
          · replace h23 : (1 : Int) ≠ 0 := (show ¬ ((1 : Int) = 0) from h23)
            refine e_Ok.ps1 (x := (1, 1)) (q := 28) 1 rfl ?_
            refine e_Ok.getf (z := v1 1 5) rfl (el_o rfl) rfl rfl rfl (by omega) ?_
            refine e_Ok.ps1 (x := (0, 8)) (q := 33) 1 rfl ?_
            refine e_Ok.if2 rfl (fun h24 => ?_) (fun h24 => ?_)
            · replace h24 : (v1 1 5 : Int) ≠ 8 := h24
              refine e_Ok.run (t' := (45, [(2, (0, 15)), (0, (1, 1)), (1, (0, y1))], [(1, 1)], v1)) 3 rfl ?_
              refine e_Ok.callV rfl (e_dq hd rfl) rfl rfl rfl rfl (c_123 (e_dq hd rfl) j10 j11 j13.1.2) (fun r25 w26 h27 => ?_)
              obtain ⟨rfl, q28f, q28T, q28H, q28k, q28x, q284⟩ := h27
              refine e_Ok.nrm (q := 48) (st' := []) rfl rfl ?_
              refine e_Ok.ps1 (x := (1, 1)) (q := 49) 1 rfl ?_
              refine e_Ok.callV rfl (e_dq hd rfl) rfl rfl rfl rfl (hI d rfl w26 cd ⟨q28T, q28H, ((q28f 1 3 no_dm_1).trans ((j9 1 3 (by unfold kRx; omega)).trans hc)), hcd, q28k⟩ ((q28f 1 11 no_dm_3).trans j12)) (fun r31 w32 h33 => ?_)
              obtain ⟨rfl, q34f, ⟨q34T, q34H, q34c, -, q34k⟩, q34o, q34x⟩ := h33
              refine e_Ok.nrm (q := 52) (st' := []) rfl rfl ?_
              refine e_Ok.ps1 (x := (1, 1)) (q := 53) 1 rfl ?_
              refine e_Ok.getr (z := cd) rfl (el_o rfl) rfl rfl ((q34f 1 3 (by unfold kRx; omega)).trans ((q28f 1 3 no_dm_1).trans ((j9 1 3 (by unfold kRx; omega)).trans hc))) (by omega) ?_
              refine e_Ok.ps2 (x := (0, 0)) (y := (0, 15)) (q := 58) 2 rfl ?_
              refine e_Ok.callV rfl (e_dq hd rfl) rfl (lD0 hcd) rfl rfl (c_21 q34T hcd (by omega) (by omega)) (fun r37 w38 h40 => ?_)
              obtain ⟨z42, rfl, q41f, q41T, q41x⟩ := h40
              have q41z : 0 ≤ z42 ∧ z42 ≤ 4000 := by have g := e_Has.get q34T (c := cd) (k := 0) (lo := 0) (hi := 4000) (kD_0 hcd) (by decide); unfold emQ at q41x; omega
              refine e_Ok.nrm (q := 61) (st' := [(0, z42)]) rfl rfl ?_
              refine e_Ok.run (t' := (62, [(2, (0, 15)), (0, (1, 1)), (1, (0, y1))], [], w38)) 1 rfl ?_
              refine e_Ok.inc (z := y1 + 1) rfl rfl (by first | with_reducible rfl | omega) (by omega) ?_
              show e_Ok 20 elay kcode eI (d + 1) 162 (65, [(1, (0, y1 + 1)), (2, (0, 15)), (0, (1, 1))], [], w38) _
              refine e_Ok.ps0 (q := 6) 1 rfl ?_
              refine e_Ok.sub kAlk (e_sub_of rfl ?_) (ih8 (y1 + 1) w38 ⟨(show e_fr (kRx cd) w w38 from e_fr.trans (show e_fr (kRx cd) w w32 from e_fr.trans (show e_fr (kRx cd) w w26 from e_fr.trans j9 (e_fr.mono q28f (fun c k q => by first | exact su_dm_10 q | (unfold kRa at q; unfold kRx; omega)))) (e_fr.mono q34f (fun c k q => by exact q))) (e_fr.mono q41f (fun c k q => by first | exact su_dm_12 q | (unfold kEm at q; unfold kRx; omega)))), q41T, (show e_Has kRy w38 from H_fr q41f (fun c k g => by unfold kEm at g; omega) q34H), ((q41f 1 11 (by unfold kEm; omega)).trans (q34o.trans ((q28f 1 11 no_dm_3).trans j12))), (show tkR w38 from (q34k.fr q41f (fun k g => by unfold kEm; omega))), ((show zS w w38 cd 0 (-1) from zS.trans (show zS w w32 cd (-1) (-1) from zS.trans (show zS w w26 cd (-1) (-1) from zS.trans j14 (show zS v1 w26 cd (-1) (-1) from zS.adv hcd ((e_Has.get j10 (c := cd) (k := 0) (lo := 0) (hi := 4000) (kD_0 hcd) (by decide)).1) q28f q28x (j13.a1 (by omega))) (by omega) (by omega) (by omega) (by omega)) (show zS w26 w32 cd 0 (-1) from q34x) (by omega) (by omega) (by omega) (by omega)) (show zS w32 w38 cd 1 (-1) from zS.emit hcd ((e_Has.get q34T (c := cd) (k := 0) (lo := 0) (hi := 4000) (kD_0 hcd) (by decide)).1) q41f q41x (by omega) (by omega) (by omega) (by omega)) (by omega) (by omega) (by omega) (by omega)).le (by omega)), (by omega)⟩ (by omega))
              exact ⟨rfl, rfl, trivial⟩
            · replace h24 : (v1 1 5 : Int) = 8 := Classical.not_not.mp (show ¬ ((v1 1 5 : Int) ≠ 8) from h24)
              refine e_Ok.run (t' := (45, [(2, (0, 14)), (0, (1, 1)), (1, (0, y1))], [(1, 1)], v1)) 4 rfl ?_
              refine e_Ok.callV rfl (e_dq hd rfl) rfl rfl rfl rfl (c_123 (e_dq hd rfl) j10 j11 j13.1.2) (fun r45 w46 h47 => ?_)
              obtain ⟨rfl, q48f, q48T, q48H, q48k, q48x, q484⟩ := h47
              refine e_Ok.nrm (q := 48) (st' := []) rfl rfl ?_
              refine e_Ok.ps1 (x := (1, 1)) (q := 49) 1 rfl ?_
              refine e_Ok.callV rfl (e_dq hd rfl) rfl rfl rfl rfl (hI d rfl w46 cd ⟨q48T, q48H, ((q48f 1 3 no_dm_1).trans ((j9 1 3 (by unfold kRx; omega)).trans hc)), hcd, q48k⟩ ((q48f 1 11 no_dm_3).trans j12)) (fun r51 w52 h53 => ?_)
              obtain ⟨rfl, q54f, ⟨q54T, q54H, q54c, -, q54k⟩, q54o, q54x⟩ := h53
              refine e_Ok.nrm (q := 52) (st' := []) rfl rfl ?_
              refine e_Ok.ps1 (x := (1, 1)) (q := 53) 1 rfl ?_
              refine e_Ok.getr (z := cd) rfl (el_o rfl) rfl rfl ((q54f 1 3 (by unfold kRx; omega)).trans ((q48f 1 3 no_dm_1).trans ((j9 1 3 (by unfold kRx; omega)).trans hc))) (by omega) ?_
              refine e_Ok.ps2 (x := (0, 0)) (y := (0, 14)) (q := 58) 2 rfl ?_
              refine e_Ok.callV rfl (e_dq hd rfl) rfl (lD0 hcd) rfl rfl (c_21 q54T hcd (by omega) (by omega)) (fun r57 w58 h59 => ?_)
              obtain ⟨z61, rfl, q60f, q60T, q60x⟩ := h59
              have q60z : 0 ≤ z61 ∧ z61 ≤ 4000 := by have g := e_Has.get q54T (c := cd) (k := 0) (lo := 0) (hi := 4000) (kD_0 hcd) (by decide); unfold emQ at q60x; omega
              refine e_Ok.nrm (q := 61) (st' := [(0, z61)]) rfl rfl ?_
              refine e_Ok.run (t' := (62, [(2, (0, 14)), (0, (1, 1)), (1, (0, y1))], [], w58)) 1 rfl ?_
              refine e_Ok.inc (z := y1 + 1) rfl rfl (by first | with_reducible rfl | omega) (by omega) ?_
              show e_Ok 20 elay kcode eI (d + 1) 162 (65, [(1, (0, y1 + 1)), (2, (0, 14)), (0, (1, 1))], [], w58) _
              refine e_Ok.ps0 (q := 6) 1 rfl ?_
              refine e_Ok.sub kAlk (e_sub_of rfl ?_) (ih8 (y1 + 1) w58 ⟨(show e_fr (kRx cd) w w58 from e_fr.trans (show e_fr (kRx cd) w w52 from e_fr.trans (show e_fr (kRx cd) w w46 from e_fr.trans j9 (e_fr.mono q48f (fun c k q => by first | exact su_dm_10 q | (unfold kRa at q; unfold kRx; omega)))) (e_fr.mono q54f (fun c k q => by exact q))) (e_fr.mono q60f (fun c k q => by first | exact su_dm_12 q | (unfold kEm at q; unfold kRx; omega)))), q60T, (show e_Has kRy w58 from H_fr q60f (fun c k g => by unfold kEm at g; omega) q54H), ((q60f 1 11 (by unfold kEm; omega)).trans (q54o.trans ((q48f 1 11 no_dm_3).trans j12))), (show tkR w58 from (q54k.fr q60f (fun k g => by unfold kEm; omega))), ((show zS w w58 cd 0 (-1) from zS.trans (show zS w w52 cd (-1) (-1) from zS.trans (show zS w w46 cd (-1) (-1) from zS.trans j14 (show zS v1 w46 cd (-1) (-1) from zS.adv hcd ((e_Has.get j10 (c := cd) (k := 0) (lo := 0) (hi := 4000) (kD_0 hcd) (by decide)).1) q48f q48x (j13.a1 (by omega))) (by omega) (by omega) (by omega) (by omega)) (show zS w46 w52 cd 0 (-1) from q54x) (by omega) (by omega) (by omega) (by omega)) (show zS w52 w58 cd 1 (-1) from zS.emit hcd ((e_Has.get q54T (c := cd) (k := 0) (lo := 0) (hi := 4000) (kD_0 hcd) (by decide)).1) q60f q60x (by omega) (by omega) (by omega) (by omega)) (by omega) (by omega) (by omega) (by omega)).le (by omega)), (by omega)⟩ (by omega))
              exact ⟨rfl, rfl, trivial⟩
        · refine e_Ok.nrm (q := 24) (st' := [(0, 0)]) rfl rfl ?_
          refine e_Ok.if1 rfl (fun h64 => ?_) (fun h64 => ?_)
          · replace h64 : (0 : Int) = 0 := h64
            refine e_Ok.rets rfl rfl ?_
            have yo : v1 1 11 = o := j12
            exact ⟨rfl, j9, ⟨j10, j11, ((j9 1 3 (by unfold kRx; omega)).trans hc), hcd, j13⟩, yo.trans ho.symm, j14.le (by omega)⟩
          · replace h64 : (0 : Int) ≠ 0 := (show ¬ ((0 : Int) = 0) from h64)
            exfalso; omega
  refine e_Ok.sub kAlk (e_sub_of rfl ?_) (hL7 (4001 + 1 : Int).toNat 0 w2 ⟨(show e_fr (kRx cd) w w2 from e_fr.trans (e_fr.refl w) (e_fr.mono q4f (fun c k q => by exact q))), q4T, q4H, (q4o.trans ho), q4k, ((show zS w w2 cd 0 (-1) from zS.trans (show zS w w cd 0 (-1) from zS.refl pL.1) (show zS w w2 cd 0 (-1) from q4x) (by omega) (by omega) (by omega) (by omega)).le (by omega)), (by omega)⟩ (by omega))
  exact ⟨rfl, rfl, trivial⟩
set_option maxHeartbeats 4000000 in
theorem c_160 {d : Nat} (hd : 27 ≤ d) {w : eW} {cd o : Int} (hS : rS w cd) (ho : w 1 11 = o) (hor : 0 ≤ o ∧ o ≤ 30) (hI : ∀ k, d = k + 1 → zC 162 o k) (hN : o < 30 → ∀ k, d = k + 1 → zC 160 (o + 1) k) : e_Ok 20 elay kcode eI d 160 (0, [(0, (1, 1))], [], w) (fun r w' => r = [] ∧ xQ w w' cd) := by
  obtain ⟨d, rfl⟩ : ∃ e, d = e + 1 := ⟨d - 1, by omega⟩
  obtain ⟨hT, hH, hc, hcd, hk⟩ := hS
  have hcd2 := hcd; unfold isCd at hcd2
  have hcd3 : 2 ≤ cd ∧ cd ≤ 145 := by omega
  have pL := e_Has.get hT (c := cd) (k := 0) (lo := 0) (hi := 4000) (kD_0 hcd) (by decide)
  have p1 := e_Has.get hH (c := 1) (k := 1) (lo := (-2147483648)) (hi := 2147483647) rfl (by decide)
  have p5 := e_Has.get hH (c := 1) (k := 5) (lo := 0) (hi := 53) rfl (by decide)
  have p6 := e_Has.get hH (c := 1) (k := 6) (lo := 0) (hi := 4000) rfl (by decide)
  have p9 := e_Has.get hH (c := 1) (k := 9) (lo := (-2147483648)) (hi := 2147483647) rfl (by decide)
  have p7 := e_Has.get hH (c := 1) (k := 7) (lo := 0) (hi := 4000) rfl (by decide)
  have x0 : zS w w cd 0 (-1) := zS.refl pL.1
  refine e_Ok.ps1 (x := (1, 1)) (q := 1) 1 rfl ?_
  have h1 := (e_Has.get hH (c := 1) (k := 5) (lo := 0) (hi := 53) rfl (by decide))
  refine e_Ok.getf (z := w 1 5) rfl (el_o rfl) rfl rfl rfl (e_bq h1 (by decide) (by decide)) ?_
  refine e_Ok.ps1 (x := (0, 47)) (q := 6) 1 rfl ?_
  refine e_Ok.if2 rfl (fun h2 => ?_) (fun h2 => ?_)
  · replace h2 : (w 1 5 : Int) ≠ 47 := h2
    refine e_Ok.ps1 (x := (1, 1)) (q := 48) 1 rfl ?_
    refine e_Ok.callV rfl (e_dq hd rfl) rfl rfl rfl rfl (hI d rfl w cd ⟨hT, hH, hc, hcd, hk⟩ ho) (fun r3 w4 h5 => ?_)
    obtain ⟨rfl, q6f, ⟨q6T, q6H, q6c, -, q6k⟩, q6o, q6x⟩ := h5
    have f7 : e_fr (kRx cd) w w4 := e_fr.trans (e_fr.refl w) (e_fr.mono q6f (fun c k q => by exact q))
    have x8 : zS w w4 cd 0 (-1) := zS.trans x0 (show zS w w4 cd 0 (-1) from q6x) (by omega) (by omega) (by omega) (by omega)
    refine e_Ok.nrm (q := 51) (st' := []) rfl rfl ?_
    refine e_Ok.ps1 (x := (1, 1)) (q := 52) 1 rfl ?_
    refine e_Ok.callV rfl (e_dq hd rfl) rfl rfl rfl rfl (c_161 q6T q6H) (fun r9 w10 h11 => ?_)
    obtain ⟨z12, rfl, rfl, ⟨q13a, q13b⟩ | rfl⟩ := h11
    · refine e_Ok.nrm (q := 55) (st' := [(0, z12)]) rfl rfl ?_
      refine e_Ok.run (t' := (59, [(1, (0, z12)), (0, (1, 1))], [(0, 49), (0, z12)], w4)) 3 rfl ?_
      refine e_Ok.if2 rfl (fun h14 => ?_) (fun h14 => ?_)
      · replace h14 : (z12 : Int) ≠ 49 := h14
        refine e_Ok.ps1 (x := (1, 1)) (q := 64) 1 rfl ?_
        refine e_Ok.callV rfl (e_dq hd rfl) rfl rfl rfl rfl (c_123 (e_dq hd rfl) q6T q6H q6k.1.2) (fun r15 w16 h17 => ?_)
        obtain ⟨rfl, q18f, q18T, q18H, q18k, q18x, q184⟩ := h17
        refine e_Ok.nrm (q := 67) (st' := []) rfl rfl ?_
        refine e_Ok.ps1 (x := (1, 1)) (q := 68) 1 rfl ?_
        refine e_Ok.callV rfl (e_dq hd rfl) rfl rfl rfl rfl (hI d rfl w16 cd ⟨q18T, q18H, ((q18f 1 3 no_dm_1).trans ((q6f 1 3 (by unfold kRx; omega)).trans hc)), hcd, q18k⟩ ((q18f 1 11 no_dm_3).trans (q6o.trans ho))) (fun r21 w22 h23 => ?_)
        obtain ⟨rfl, q24f, ⟨q24T, q24H, q24c, -, q24k⟩, q24o, q24x⟩ := h23
        refine e_Ok.nrm (q := 71) (st' := []) rfl rfl ?_
        refine e_Ok.ps1 (x := (1, 1)) (q := 72) 1 rfl ?_
        refine e_Ok.getr (z := cd) rfl (el_o rfl) rfl rfl ((q24f 1 3 (by unfold kRx; omega)).trans ((q18f 1 3 no_dm_1).trans ((q6f 1 3 (by unfold kRx; omega)).trans hc))) (by omega) ?_
        refine e_Ok.ps2 (x := (0, 0)) (y := (0, z12)) (q := 77) 2 rfl ?_
        refine e_Ok.callV rfl (e_dq hd rfl) rfl (lD0 hcd) rfl rfl (c_21 q24T hcd (by omega) (by omega)) (fun r27 w28 h29 => ?_)
        obtain ⟨z31, rfl, q30f, q30T, q30x⟩ := h29
        have q30z : 0 ≤ z31 ∧ z31 ≤ 4000 := by have g := e_Has.get q24T (c := cd) (k := 0) (lo := 0) (hi := 4000) (kD_0 hcd) (by decide); unfold emQ at q30x; omega
        refine e_Ok.nrm (q := 80) (st' := [(0, z31)]) rfl rfl ?_
        refine e_Ok.run (t' := (81, [(1, (0, z12)), (0, (1, 1))], [], w28)) 1 rfl ?_
        refine e_Ok.rets rfl rfl ?_
        have yo : w28 1 11 = o := ((q30f 1 11 (by unfold kEm; omega)).trans (q24o.trans ((q18f 1 11 no_dm_3).trans (q6o.trans ho))))
        exact ⟨rfl, (show e_fr (kRx cd) w w28 from e_fr.trans (show e_fr (kRx cd) w w22 from e_fr.trans (show e_fr (kRx cd) w w16 from e_fr.trans f7 (e_fr.mono q18f (fun c k q => by first | exact su_dm_10 q | (unfold kRa at q; unfold kRx; omega)))) (e_fr.mono q24f (fun c k q => by exact q))) (e_fr.mono q30f (fun c k q => by first | exact su_dm_12 q | (unfold kEm at q; unfold kRx; omega)))), ⟨q30T, (show e_Has kRy w28 from H_fr q30f (fun c k g => by unfold kEm at g; omega) q24H), ((q30f 1 3 (by unfold kEm; omega)).trans ((q24f 1 3 (by unfold kRx; omega)).trans ((q18f 1 3 no_dm_1).trans ((q6f 1 3 (by unfold kRx; omega)).trans hc)))), hcd, (show tkR w28 from (q24k.fr q30f (fun k g => by unfold kEm; omega)))⟩, yo.trans ho.symm, (show zS w w28 cd 0 (-1) from zS.trans (show zS w w22 cd (-1) (-1) from zS.trans (show zS w w16 cd (-1) (-1) from zS.trans x8 (show zS w4 w16 cd (-1) (-1) from zS.adv hcd ((e_Has.get q6T (c := cd) (k := 0) (lo := 0) (hi := 4000) (kD_0 hcd) (by decide)).1) q18f q18x (q6k.a1 (by omega))) (by omega) (by omega) (by omega) (by omega)) (show zS w16 w22 cd 0 (-1) from q24x) (by omega) (by omega) (by omega) (by omega)) (show zS w22 w28 cd 1 (-1) from zS.emit hcd ((e_Has.get q24T (c := cd) (k := 0) (lo := 0) (hi := 4000) (kD_0 hcd) (by decide)).1) q30f q30x (by omega) (by omega) (by omega) (by omega)) (by omega) (by omega) (by omega) (by omega)).le (by omega)⟩
      · replace h14 : (z12 : Int) = 49 := Classical.not_not.mp (show ¬ ((z12 : Int) ≠ 49) from h14)
        exfalso; omega
    · refine e_Ok.nrm (q := 55) (st' := [(0, 49)]) rfl rfl ?_
      refine e_Ok.run (t' := (59, [(1, (0, 49)), (0, (1, 1))], [(0, 49), (0, 49)], w4)) 3 rfl ?_
      refine e_Ok.if2 rfl (fun h34 => ?_) (fun h34 => ?_)
      · replace h34 : (49 : Int) ≠ 49 := h34
        exfalso; omega
      · replace h34 : (49 : Int) = 49 := Classical.not_not.mp (show ¬ ((49 : Int) ≠ 49) from h34)
        refine e_Ok.rets rfl rfl ?_
        have yo : w4 1 11 = o := (q6o.trans ho)
        exact ⟨rfl, f7, ⟨q6T, q6H, ((q6f 1 3 (by unfold kRx; omega)).trans hc), hcd, q6k⟩, yo.trans ho.symm, x8.le (by omega)⟩
  · replace h2 : (w 1 5 : Int) = 47 := Classical.not_not.mp (show ¬ ((w 1 5 : Int) ≠ 47) from h2)
    refine e_Ok.ps1 (x := (1, 1)) (q := 10) 1 rfl ?_
    refine e_Ok.callV rfl (e_dq hd rfl) rfl rfl rfl rfl (c_132 (e_dq hd rfl) hT hH hk (o := o) ho (by omega)) (fun r35 w36 h37 => ?_)
    obtain ⟨z40, rfl, q38f, q38T, q38H, q38k, ⟨rfl, q38a, q38b, q38c⟩ | ⟨rfl, q38a, q38b, q38c, q38d⟩⟩ := h37
    · refine e_Ok.nrm (q := 13) (st' := [(0, 1)]) rfl rfl ?_
      have q38g : e_fr kRO w w36 := fun c k g => by have g2 : ¬ (c = 1 ∧ k = 11) := g; by_cases h : c = 1 ∧ (k = 12 ∨ k = 13); (exact q38f c k (by unfold kRo; omega)); (exact q38c c k (show ¬ (c = 1 ∧ 11 ≤ k ∧ k ≤ 13) from by omega))
      refine e_Ok.if1 rfl (fun h43 => ?_) (fun h43 => ?_)
      · replace h43 : (1 : Int) ≠ 0 := h43
        refine e_Ok.ps1 (x := (1, 1)) (q := 18) 1 rfl ?_
        refine e_Ok.callV rfl (e_dq hd rfl) rfl rfl rfl rfl (c_123 (e_dq hd rfl) q38T q38H q38k.1.2) (fun r44 w45 h46 => ?_)
        obtain ⟨rfl, q47f, q47T, q47H, q47k, q47x, q474⟩ := h46
        have k49 : w36 1 5 = w 1 5 := ((q38g 1 5 no_dm_0).trans rfl)
        refine e_Ok.nrm (q := 21) (st' := []) rfl rfl ?_
        refine e_Ok.ps1 (x := (1, 1)) (q := 22) 1 rfl ?_
        refine e_Ok.callV rfl (e_dq hd rfl) rfl rfl rfl rfl (hN (by omega) d rfl w45 cd ⟨q47T, q47H, ((q47f 1 3 no_dm_1).trans ((q38g 1 3 no_dm_2).trans hc)), hcd, q47k⟩ ((q47f 1 11 no_dm_3).trans q38b)) (fun r51 w52 h53 => ?_)
        obtain ⟨rfl, q54f, ⟨q54T, q54H, q54c, -, q54k⟩, q54o, q54x⟩ := h53
        refine e_Ok.nrm (q := 25) (st' := []) rfl rfl ?_
        refine e_Ok.ps2 (x := (1, 1)) (y := (1, 1)) (q := 27) 2 rfl ?_
        refine e_Ok.getf (z := o + 1) rfl (el_o rfl) rfl rfl (q54o.trans ((q47f 1 11 no_dm_3).trans q38b)) (by omega) ?_
        refine e_Ok.ps1 (x := (0, 1)) (q := 31) 1 rfl ?_
        refine e_Ok.sub' (z := o) rfl (by omega) (by omega) ?_
        refine e_Ok.putf rfl (el_o rfl) rfl rfl ?_
        generalize hw57 : e_up w52 1 11 o = w57
        have hT59 : e_Has kTy w57 := e_Has.ups q54T hw57 (kt_o rfl)
        have hH60 : e_Has kRy w57 := e_Has.upr q54H hw57 rfl (by omega)
        have g62 : e_fr (fun c k => c = 1 ∧ 11 ≤ k ∧ k ≤ 13) w52 w57 := fun c k g => by have g2 : ¬ (c = 1 ∧ 11 ≤ k ∧ k ≤ 13) := g; rw [← hw57]; exact e_up_ne _ _ (by omega)
        refine e_Ok.ps1 (x := (1, 1)) (q := 36) 1 rfl ?_
        refine e_Ok.getr (z := cd) rfl (el_o rfl) rfl rfl (e_uq hw57 (Or.inr (by decide)) ((q54f 1 3 (by unfold kRx; omega)).trans ((q47f 1 3 no_dm_1).trans ((q38g 1 3 no_dm_2).trans hc)))) (by omega) ?_
        refine e_Ok.ps2 (x := (0, 0)) (y := (0, 10)) (q := 42) 2 rfl ?_
        refine e_Ok.callV rfl (e_dq hd rfl) rfl (lD0 hcd) rfl rfl (c_21 hT59 hcd (by omega) (by omega)) (fun r64 w65 h66 => ?_)
        obtain ⟨z68, rfl, q67f, q67T, q67x⟩ := h66
        have q67z : 0 ≤ z68 ∧ z68 ≤ 4000 := by have g := e_Has.get hT59 (c := cd) (k := 0) (lo := 0) (hi := 4000) (kD_0 hcd) (by decide); unfold emQ at q67x; omega
        refine e_Ok.nrm (q := 45) (st' := [(0, z68)]) rfl rfl ?_
        refine e_Ok.run (t' := (46, [(0, (1, 1))], [], w65)) 1 rfl ?_
        refine e_Ok.rets rfl rfl ?_
        have yo : w65 1 11 = o := ((q67f 1 11 (by unfold kEm; omega)).trans (e_ue hw57))
        exact ⟨rfl, (show e_fr (kRx cd) w w65 from e_fr.trans (show e_fr (kRx cd) w w57 from e_fr.up (show e_fr (kRx cd) w w52 from e_fr.trans (show e_fr (kRx cd) w w45 from e_fr.trans (show e_fr (kRx cd) w w36 from e_fr.trans (e_fr.refl w) (e_fr.mono q38g (fun c k q => by first | exact su_dm_9 q | (unfold kRO at q; unfold kRx; omega)))) (e_fr.mono q47f (fun c k q => by first | exact su_dm_10 q | (unfold kRa at q; unfold kRx; omega)))) (e_fr.mono q54f (fun c k q => by exact q))) hw57 (by first | exact Or.inl ⟨rfl, Or.inr (Or.inr ⟨(by decide), (by decide)⟩)⟩ | (unfold kRx; omega))) (e_fr.mono q67f (fun c k q => by first | exact su_dm_12 q | (unfold kEm at q; unfold kRx; omega)))), ⟨q67T, (show e_Has kRy w65 from H_fr q67f (fun c k g => by unfold kEm at g; omega) hH60), ((q67f 1 3 (by unfold kEm; omega)).trans (e_uq hw57 (Or.inr (by first | decide | omega)) ((q54f 1 3 (by unfold kRx; omega)).trans ((q47f 1 3 no_dm_1).trans ((q38g 1 3 no_dm_2).trans hc))))), hcd, (show tkR w65 from ((show tkR w57 from q54k.eq (fun k g => by rw [← hw57]; exact e_up_ne _ _ (by omega))).fr q67f (fun k g => by unfold kEm; omega)))⟩, yo.trans ho.symm, (show zS w w65 cd (-1) (-1) from zS.trans (show zS w w57 cd (-2) (-1) from zS.trans (show zS w w52 cd (-2) (-1) from zS.trans (show zS w w45 cd (-2) (-1) from zS.trans (show zS w w36 cd 0 (-1) from zS.trans x0 (show zS w w36 cd 0 (-1) from zS.wr hcd ((e_Has.get hT (c := cd) (k := 0) (lo := 0) (hi := 4000) (kD_0 hcd) (by decide)).1) q38c) (by omega) (by omega) (by omega) (by omega)) (show zS w36 w45 cd (-2) (-1) from zS.adv hcd ((e_Has.get q38T (c := cd) (k := 0) (lo := 0) (hi := 4000) (kD_0 hcd) (by decide)).1) q47f q47x (q38k.a2 (by omega))) (by omega) (by omega) (by omega) (by omega)) (show zS w45 w52 cd 0 (-1) from q54x) (by omega) (by omega) (by omega) (by omega)) (show zS w52 w57 cd 0 (-1) from zS.wr hcd ((e_Has.get q54T (c := cd) (k := 0) (lo := 0) (hi := 4000) (kD_0 hcd) (by decide)).1) g62) (by omega) (by omega) (by omega) (by omega)) (show zS w57 w65 cd 1 (-1) from zS.emit hcd ((e_Has.get hT59 (c := cd) (k := 0) (lo := 0) (hi := 4000) (kD_0 hcd) (by decide)).1) q67f q67x (by omega) (by omega) (by omega) (by omega)) (by omega) (by omega) (by omega) (by omega)).le (by omega)⟩
      · replace h43 : (1 : Int) = 0 := Classical.not_not.mp (show ¬ ((1 : Int) ≠ 0) from h43)
        exfalso; omega
    · refine e_Ok.nrm (q := 13) (st' := [(0, 0)]) rfl rfl ?_
      have q38n := q38a
      refine e_Ok.if1 rfl (fun h73 => ?_) (fun h73 => ?_)
      · replace h73 : (0 : Int) ≠ 0 := h73
        exfalso; omega
      · replace h73 : (0 : Int) = 0 := Classical.not_not.mp (show ¬ ((0 : Int) ≠ 0) from h73)
        refine e_Ok.rets rfl rfl ?_
        have yo : w36 1 11 = o := ((q38d 1 11 no_dm_4).trans ho)
        exact ⟨rfl, (show e_fr (kRx cd) w w36 from e_fr.trans (e_fr.refl w) (e_fr.mono q38d (fun c k q => by first | exact su_dm_11 q | (unfold kRk at q; unfold kRx; omega)))), ⟨q38T, q38H, ((q38d 1 3 no_dm_5).trans hc), hcd, q38k⟩, yo.trans ho.symm, (show zS w w36 cd 0 (-1) from zS.trans x0 (show zS w w36 cd 0 (-1) from zS.dead q38n) (by omega) (by omega) (by omega) (by omega)).le (by omega)⟩
theorem su_dm_14 {cd : Int} {c k : Int} (q : kPa cd c k) : kRx cd c k := by
  unfold kPa at q
  rcases q with q
  · exact Or.inr (Or.inr (by omega))
set_option maxHeartbeats 4000000 in
theorem c_159 {d : Nat} (hd : 27 ≤ d) {w : eW} {cd o : Int} (hS : rS w cd) (ho : w 1 11 = o) (hor : 0 ≤ o ∧ o ≤ 30) (hI : ∀ k, d = k + 1 → zC 160 o k) : e_Ok 20 elay kcode eI d 159 (0, [(0, (1, 1))], [], w) (fun r w' => r = [] ∧ xQ w w' cd) := by
  obtain ⟨d, rfl⟩ : ∃ e, d = e + 1 := ⟨d - 1, by omega⟩
  obtain ⟨hT, hH, hc, hcd, hk⟩ := hS
  have hcd2 := hcd; unfold isCd at hcd2
  have hcd3 : 2 ≤ cd ∧ cd ≤ 145 := by omega
  have pL := e_Has.get hT (c := cd) (k := 0) (lo := 0) (hi := 4000) (kD_0 hcd) (by decide)
  have p1 := e_Has.get hH (c := 1) (k := 1) (lo := (-2147483648)) (hi := 2147483647) rfl (by decide)
  have p5 := e_Has.get hH (c := 1) (k := 5) (lo := 0) (hi := 53) rfl (by decide)
  have p6 := e_Has.get hH (c := 1) (k := 6) (lo := 0) (hi := 4000) rfl (by decide)
  have p9 := e_Has.get hH (c := 1) (k := 9) (lo := (-2147483648)) (hi := 2147483647) rfl (by decide)
  have p7 := e_Has.get hH (c := 1) (k := 7) (lo := 0) (hi := 4000) rfl (by decide)
  refine e_Ok.ps1 (x := (1, 1)) (q := 1) 1 rfl ?_
  refine e_Ok.callV rfl (e_dq hd rfl) rfl rfl rfl rfl (hI d rfl w cd ⟨hT, hH, hc, hcd, hk⟩ ho) (fun r1 w2 h3 => ?_)
  obtain ⟨rfl, q4f, ⟨q4T, q4H, q4c, -, q4k⟩, q4o, q4x⟩ := h3
  refine e_Ok.nrm (q := 4) (st' := []) rfl rfl ?_
  refine e_Ok.run (t' := (6, [(1, (0, 0)), (0, (1, 1))], [], w2)) 2 rfl ?_
  have hL7 : ∀ (nn : Nat) (y1 : Int) (v1 : eW), e_fr (kRx cd) w v1 ∧ e_Has kTy v1 ∧ e_Has kRy v1 ∧ v1 1 11 = o ∧ tkR v1 ∧ zS w v1 cd 0 (-1) ∧ ((0 ≤ y1 ∧ y1 ≤ 4000)) → 4001 - y1 < nn → e_Ok 20 elay kcode eI (d + 1) 159 (6, [(0, (1, 1)), (1, (0, y1))], [], v1) (fun r w' => r = [] ∧ xQ w w' cd) := by
    intro nn
    induction nn with
    | zero => intro y1 v1 hj hm; obtain ⟨j9, j10, j11, j12, j13, j14, j15⟩ := hj; exfalso; omega
    | succ nn ih8 =>
      intro y1 v1 hj hm
      obtain ⟨j9, j10, j11, j12, j13, j14, j15⟩ := hj
      refine e_Ok.run (t' := (10, [(0, (1, 1)), (1, (0, y1))], [(0, 4000), (0, y1)], v1)) 2 rfl ?_
      refine e_Ok.if2 rfl (fun h16 => ?_) (fun h16 => ?_)
      · replace h16 : (y1 : Int) ≥ 4000 := h16
        refine e_Ok.rets rfl rfl ?_
        have yo : v1 1 11 = o := j12
        exact ⟨rfl, j9, ⟨j10, j11, ((j9 1 3 (by unfold kRx; omega)).trans hc), hcd, j13⟩, yo.trans ho.symm, j14.le (by omega)⟩
      · replace h16 : (y1 : Int) < 4000 := Int.not_le.mp (show ¬ ((y1 : Int) ≥ 4000) from h16)
        refine e_Ok.ps1 (x := (1, 1)) (q := 14) 1 rfl ?_
        have h17 := (e_Has.get j11 (c := 1) (k := 5) (lo := 0) (hi := 53) rfl (by decide))
        refine e_Ok.getf (z := v1 1 5) rfl (el_o rfl) rfl rfl rfl (e_bq h17 (by decide) (by decide)) ?_
        refine e_Ok.ps1 (x := (0, 46)) (q := 19) 1 rfl ?_
        refine e_Ok.if2 rfl (fun h18 => ?_) (fun h18 => ?_)
        · replace h18 : (v1 1 5 : Int) ≠ 46 := h18
          refine e_Ok.rets rfl rfl ?_
          have yo : v1 1 11 = o := j12
          exact ⟨rfl, j9, ⟨j10, j11, ((j9 1 3 (by unfold kRx; omega)).trans hc), hcd, j13⟩, yo.trans ho.symm, j14.le (by omega)⟩
        · replace h18 : (v1 1 5 : Int) = 46 := Classical.not_not.mp (show ¬ ((v1 1 5 : Int) ≠ 46) from h18)
          refine e_Ok.ps1 (x := (1, 1)) (q := 23) 1 rfl ?_
          refine e_Ok.getr (z := cd) rfl (el_o rfl) rfl rfl ((j9 1 3 (by unfold kRx; omega)).trans hc) (by omega) ?_
          refine e_Ok.ps2 (x := (0, 0)) (y := (0, 13)) (q := 29) 2 rfl ?_
          refine e_Ok.callV rfl (e_dq hd rfl) rfl (lD0 hcd) rfl rfl (c_21 j10 hcd (by omega) (by omega)) (fun r19 w20 h21 => ?_)
          obtain ⟨z23, rfl, q22f, q22T, q22x⟩ := h21
          have q22k : tkR w20 := (j13.fr q22f (fun k g => by unfold kEm; omega))
          have q22z : 0 ≤ z23 ∧ z23 ≤ 4000 := by have g := e_Has.get j10 (c := cd) (k := 0) (lo := 0) (hi := 4000) (kD_0 hcd) (by decide); unfold emQ at q22x; omega
          refine e_Ok.nrm (q := 32) (st' := [(0, z23)]) rfl rfl ?_
          refine e_Ok.run (t' := (34, [(2, (0, z23)), (0, (1, 1)), (1, (0, y1))], [(1, 1)], w20)) 2 rfl ?_
          refine e_Ok.callV rfl (e_dq hd rfl) rfl rfl rfl rfl (c_123 (e_dq hd rfl) q22T (show e_Has kRy w20 from H_fr q22f (fun c k g => by unfold kEm at g; omega) j11) q22k.1.2) (fun r26 w27 h28 => ?_)
          obtain ⟨rfl, q29f, q29T, q29H, q29k, q29x, q294⟩ := h28
          have k31 : w20 1 5 = v1 1 5 := ((q22f 1 5 (by unfold kEm; omega)).trans rfl)
          refine e_Ok.nrm (q := 37) (st' := []) rfl rfl ?_
          refine e_Ok.ps1 (x := (1, 1)) (q := 38) 1 rfl ?_
          refine e_Ok.callV rfl (e_dq hd rfl) rfl rfl rfl rfl (hI d rfl w27 cd ⟨q29T, q29H, ((q29f 1 3 no_dm_1).trans ((q22f 1 3 (by unfold kEm; omega)).trans ((j9 1 3 (by unfold kRx; omega)).trans hc))), hcd, q29k⟩ ((q29f 1 11 no_dm_3).trans ((q22f 1 11 (by unfold kEm; omega)).trans j12))) (fun r33 w34 h35 => ?_)
          obtain ⟨rfl, q36f, ⟨q36T, q36H, q36c, -, q36k⟩, q36o, q36x⟩ := h35
          refine e_Ok.nrm (q := 41) (st' := []) rfl rfl ?_
          refine e_Ok.ps1 (x := (1, 1)) (q := 42) 1 rfl ?_
          refine e_Ok.getr (z := cd) rfl (el_o rfl) rfl rfl ((q36f 1 3 (by unfold kRx; omega)).trans ((q29f 1 3 no_dm_1).trans ((q22f 1 3 (by unfold kEm; omega)).trans ((j9 1 3 (by unfold kRx; omega)).trans hc)))) (by omega) ?_
          refine e_Ok.ps2 (x := (0, 0)) (y := (0, 11)) (q := 48) 2 rfl ?_
          refine e_Ok.callV rfl (e_dq hd rfl) rfl (lD0 hcd) rfl rfl (c_21 q36T hcd (by omega) (by omega)) (fun r40 w41 h42 => ?_)
          obtain ⟨z44, rfl, q43f, q43T, q43x⟩ := h42
          have q43z : 0 ≤ z44 ∧ z44 ≤ 4000 := by have g := e_Has.get q36T (c := cd) (k := 0) (lo := 0) (hi := 4000) (kD_0 hcd) (by decide); unfold emQ at q43x; omega
          refine e_Ok.nrm (q := 51) (st' := [(0, z44)]) rfl rfl ?_
          refine e_Ok.run (t' := (53, [(2, (0, z23)), (0, (1, 1)), (1, (0, y1))], [(1, 1)], w41)) 2 rfl ?_
          refine e_Ok.getr (z := cd) rfl (el_o rfl) rfl rfl ((q43f 1 3 (by unfold kEm; omega)).trans ((q36f 1 3 (by unfold kRx; omega)).trans ((q29f 1 3 no_dm_1).trans ((q22f 1 3 (by unfold kEm; omega)).trans ((j9 1 3 (by unfold kRx; omega)).trans hc))))) (by omega) ?_
          refine e_Ok.ps2 (x := (1, 1)) (y := (0, z23)) (q := 58) 2 rfl ?_
          refine e_Ok.getr (z := cd) rfl (el_o rfl) rfl rfl ((q43f 1 3 (by unfold kEm; omega)).trans ((q36f 1 3 (by unfold kRx; omega)).trans ((q29f 1 3 no_dm_1).trans ((q22f 1 3 (by unfold kEm; omega)).trans ((j9 1 3 (by unfold kRx; omega)).trans hc))))) (by omega) ?_
          have h47 := (e_Has.get q43T (c := cd) (k := 0) (lo := 0) (hi := 4000) (kD_0 hcd) (by decide))
          refine e_Ok.getf (z := w41 cd 0) rfl (lD0 hcd) rfl rfl rfl (e_bq h47 (by decide) (by decide)) ?_
          refine e_Ok.callV rfl (e_dq hd rfl) rfl (lD0 hcd) rfl rfl (c_22 q43T hcd (by omega) (by have g := e_Has.get q43T (c := cd) (k := 0) (lo := 0) (hi := 4000) (kD_0 hcd) (by decide); omega)) (fun r48 w49 h50 => ?_)
          obtain ⟨rfl, q51f, q51T, q51x⟩ := h50
          refine e_Ok.nrm (q := 67) (st' := []) rfl rfl ?_
          refine e_Ok.inc (z := y1 + 1) rfl rfl (by first | with_reducible rfl | omega) (by omega) ?_
          show e_Ok 20 elay kcode eI (d + 1) 159 (70, [(1, (0, y1 + 1)), (2, (0, z23)), (0, (1, 1))], [], w49) _
          refine e_Ok.ps0 (q := 6) 1 rfl ?_
          refine e_Ok.sub kAlk (e_sub_of rfl ?_) (ih8 (y1 + 1) w49 ⟨(show e_fr (kRx cd) w w49 from e_fr.trans (show e_fr (kRx cd) w w41 from e_fr.trans (show e_fr (kRx cd) w w34 from e_fr.trans (show e_fr (kRx cd) w w27 from e_fr.trans (show e_fr (kRx cd) w w20 from e_fr.trans j9 (e_fr.mono q22f (fun c k q => by first | exact su_dm_12 q | (unfold kEm at q; unfold kRx; omega)))) (e_fr.mono q29f (fun c k q => by first | exact su_dm_10 q | (unfold kRa at q; unfold kRx; omega)))) (e_fr.mono q36f (fun c k q => by exact q))) (e_fr.mono q43f (fun c k q => by first | exact su_dm_12 q | (unfold kEm at q; unfold kRx; omega)))) (e_fr.mono q51f (fun c k q => by first | exact su_dm_14 q | (unfold kPa at q; unfold kRx; omega)))), q51T, (show e_Has kRy w49 from H_fr q51f (fun c k g => by unfold kPa at g; omega) (show e_Has kRy w41 from H_fr q43f (fun c k g => by unfold kEm at g; omega) q36H)), ((q51f 1 11 (by unfold kPa; omega)).trans ((q43f 1 11 (by unfold kEm; omega)).trans (q36o.trans ((q29f 1 11 no_dm_3).trans ((q22f 1 11 (by unfold kEm; omega)).trans j12))))), (show tkR w49 from (show tkR w41 from (q36k.fr q43f (fun k g => by unfold kEm; omega))).fr q51f (fun k g => by unfold kPa; omega)), ((show zS w w49 cd 0 (-1) from zS.patch hcd (show zS w w41 cd 0 z23 from zS.trans (show zS w w34 cd (-1) z23 from zS.trans (show zS w w27 cd (-1) z23 from zS.trans (show zS w w20 cd 1 z23 from zS.trans j14 (show zS v1 w20 cd 1 z23 from zS.emit hcd ((e_Has.get j10 (c := cd) (k := 0) (lo := 0) (hi := 4000) (kD_0 hcd) (by decide)).1) q22f q22x (by omega) (by omega) (by omega) (by omega)) (by omega) (by omega) (by omega) (by omega)) (show zS w20 w27 cd (-2) (-1) from zS.adv hcd ((e_Has.get q22T (c := cd) (k := 0) (lo := 0) (hi := 4000) (kD_0 hcd) (by decide)).1) q29f q29x (q22k.a2 (by omega))) (by omega) (by omega) (by omega) (by omega)) (show zS w27 w34 cd 0 (-1) from q36x) (by omega) (by omega) (by omega) (by omega)) (show zS w34 w41 cd 1 (-1) from zS.emit hcd ((e_Has.get q36T (c := cd) (k := 0) (lo := 0) (hi := 4000) (kD_0 hcd) (by decide)).1) q43f q43x (by omega) (by omega) (by omega) (by omega)) (by omega) (by omega) (by omega) (by omega)) q51f q51x rfl).le (by omega)), (by omega)⟩ (by omega))
          exact ⟨rfl, rfl, trivial⟩
  refine e_Ok.sub kAlk (e_sub_of rfl ?_) (hL7 (4001 + 1 : Int).toNat 0 w2 ⟨(show e_fr (kRx cd) w w2 from e_fr.trans (e_fr.refl w) (e_fr.mono q4f (fun c k q => by exact q))), q4T, q4H, (q4o.trans ho), q4k, ((show zS w w2 cd 0 (-1) from zS.trans (show zS w w cd 0 (-1) from zS.refl pL.1) (show zS w w2 cd 0 (-1) from q4x) (by omega) (by omega) (by omega) (by omega)).le (by omega)), (by omega)⟩ (by omega))
  exact ⟨rfl, rfl, trivial⟩
set_option maxHeartbeats 4000000 in
theorem c_158 {d : Nat} (hd : 27 ≤ d) {w : eW} {cd o : Int} (hS : rS w cd) (ho : w 1 11 = o) (hor : 0 ≤ o ∧ o ≤ 30) (hI : ∀ k, d = k + 1 → zC 159 o k) : e_Ok 20 elay kcode eI d 158 (0, [(0, (1, 1))], [], w) (fun r w' => r = [] ∧ xQ w w' cd) := by
  obtain ⟨d, rfl⟩ : ∃ e, d = e + 1 := ⟨d - 1, by omega⟩
  obtain ⟨hT, hH, hc, hcd, hk⟩ := hS
  have hcd2 := hcd; unfold isCd at hcd2
  have hcd3 : 2 ≤ cd ∧ cd ≤ 145 := by omega
  have pL := e_Has.get hT (c := cd) (k := 0) (lo := 0) (hi := 4000) (kD_0 hcd) (by decide)
  have p1 := e_Has.get hH (c := 1) (k := 1) (lo := (-2147483648)) (hi := 2147483647) rfl (by decide)
  have p5 := e_Has.get hH (c := 1) (k := 5) (lo := 0) (hi := 53) rfl (by decide)
  have p6 := e_Has.get hH (c := 1) (k := 6) (lo := 0) (hi := 4000) rfl (by decide)
  have p9 := e_Has.get hH (c := 1) (k := 9) (lo := (-2147483648)) (hi := 2147483647) rfl (by decide)
  have p7 := e_Has.get hH (c := 1) (k := 7) (lo := 0) (hi := 4000) rfl (by decide)
  refine e_Ok.ps1 (x := (1, 1)) (q := 1) 1 rfl ?_
  refine e_Ok.callV rfl (e_dq hd rfl) rfl rfl rfl rfl (hI d rfl w cd ⟨hT, hH, hc, hcd, hk⟩ ho) (fun r1 w2 h3 => ?_)
  obtain ⟨rfl, q4f, ⟨q4T, q4H, q4c, -, q4k⟩, q4o, q4x⟩ := h3
  refine e_Ok.nrm (q := 4) (st' := []) rfl rfl ?_
  refine e_Ok.run (t' := (6, [(1, (0, 0)), (0, (1, 1))], [], w2)) 2 rfl ?_
  have hL7 : ∀ (nn : Nat) (y1 : Int) (v1 : eW), e_fr (kRx cd) w v1 ∧ e_Has kTy v1 ∧ e_Has kRy v1 ∧ v1 1 11 = o ∧ tkR v1 ∧ zS w v1 cd 0 (-1) ∧ ((0 ≤ y1 ∧ y1 ≤ 4000)) → 4001 - y1 < nn → e_Ok 20 elay kcode eI (d + 1) 158 (6, [(0, (1, 1)), (1, (0, y1))], [], v1) (fun r w' => r = [] ∧ xQ w w' cd) := by
    intro nn
    induction nn with
    | zero => intro y1 v1 hj hm; obtain ⟨j9, j10, j11, j12, j13, j14, j15⟩ := hj; exfalso; omega
    | succ nn ih8 =>
      intro y1 v1 hj hm
      obtain ⟨j9, j10, j11, j12, j13, j14, j15⟩ := hj
      refine e_Ok.run (t' := (10, [(0, (1, 1)), (1, (0, y1))], [(0, 4000), (0, y1)], v1)) 2 rfl ?_
      refine e_Ok.if2 rfl (fun h16 => ?_) (fun h16 => ?_)
      · replace h16 : (y1 : Int) ≥ 4000 := h16
        refine e_Ok.rets rfl rfl ?_
        have yo : v1 1 11 = o := j12
        exact ⟨rfl, j9, ⟨j10, j11, ((j9 1 3 (by unfold kRx; omega)).trans hc), hcd, j13⟩, yo.trans ho.symm, j14.le (by omega)⟩
      · replace h16 : (y1 : Int) < 4000 := Int.not_le.mp (show ¬ ((y1 : Int) ≥ 4000) from h16)
        refine e_Ok.ps1 (x := (1, 1)) (q := 14) 1 rfl ?_
        have h17 := (e_Has.get j11 (c := 1) (k := 5) (lo := 0) (hi := 53) rfl (by decide))
        refine e_Ok.getf (z := v1 1 5) rfl (el_o rfl) rfl rfl rfl (e_bq h17 (by decide) (by decide)) ?_
        refine e_Ok.ps1 (x := (0, 45)) (q := 19) 1 rfl ?_
        refine e_Ok.if2 rfl (fun h18 => ?_) (fun h18 => ?_)
        · replace h18 : (v1 1 5 : Int) ≠ 45 := h18
          refine e_Ok.rets rfl rfl ?_
          have yo : v1 1 11 = o := j12
          exact ⟨rfl, j9, ⟨j10, j11, ((j9 1 3 (by unfold kRx; omega)).trans hc), hcd, j13⟩, yo.trans ho.symm, j14.le (by omega)⟩
        · replace h18 : (v1 1 5 : Int) = 45 := Classical.not_not.mp (show ¬ ((v1 1 5 : Int) ≠ 45) from h18)
          refine e_Ok.ps1 (x := (1, 1)) (q := 23) 1 rfl ?_
          refine e_Ok.getr (z := cd) rfl (el_o rfl) rfl rfl ((j9 1 3 (by unfold kRx; omega)).trans hc) (by omega) ?_
          refine e_Ok.ps2 (x := (0, 0)) (y := (0, 12)) (q := 29) 2 rfl ?_
          refine e_Ok.callV rfl (e_dq hd rfl) rfl (lD0 hcd) rfl rfl (c_21 j10 hcd (by omega) (by omega)) (fun r19 w20 h21 => ?_)
          obtain ⟨z23, rfl, q22f, q22T, q22x⟩ := h21
          have q22k : tkR w20 := (j13.fr q22f (fun k g => by unfold kEm; omega))
          have q22z : 0 ≤ z23 ∧ z23 ≤ 4000 := by have g := e_Has.get j10 (c := cd) (k := 0) (lo := 0) (hi := 4000) (kD_0 hcd) (by decide); unfold emQ at q22x; omega
          refine e_Ok.nrm (q := 32) (st' := [(0, z23)]) rfl rfl ?_
          refine e_Ok.run (t' := (34, [(2, (0, z23)), (0, (1, 1)), (1, (0, y1))], [(1, 1)], w20)) 2 rfl ?_
          refine e_Ok.callV rfl (e_dq hd rfl) rfl rfl rfl rfl (c_123 (e_dq hd rfl) q22T (show e_Has kRy w20 from H_fr q22f (fun c k g => by unfold kEm at g; omega) j11) q22k.1.2) (fun r26 w27 h28 => ?_)
          obtain ⟨rfl, q29f, q29T, q29H, q29k, q29x, q294⟩ := h28
          have k31 : w20 1 5 = v1 1 5 := ((q22f 1 5 (by unfold kEm; omega)).trans rfl)
          refine e_Ok.nrm (q := 37) (st' := []) rfl rfl ?_
          refine e_Ok.ps1 (x := (1, 1)) (q := 38) 1 rfl ?_
          refine e_Ok.callV rfl (e_dq hd rfl) rfl rfl rfl rfl (hI d rfl w27 cd ⟨q29T, q29H, ((q29f 1 3 no_dm_1).trans ((q22f 1 3 (by unfold kEm; omega)).trans ((j9 1 3 (by unfold kRx; omega)).trans hc))), hcd, q29k⟩ ((q29f 1 11 no_dm_3).trans ((q22f 1 11 (by unfold kEm; omega)).trans j12))) (fun r33 w34 h35 => ?_)
          obtain ⟨rfl, q36f, ⟨q36T, q36H, q36c, -, q36k⟩, q36o, q36x⟩ := h35
          refine e_Ok.nrm (q := 41) (st' := []) rfl rfl ?_
          refine e_Ok.ps1 (x := (1, 1)) (q := 42) 1 rfl ?_
          refine e_Ok.getr (z := cd) rfl (el_o rfl) rfl rfl ((q36f 1 3 (by unfold kRx; omega)).trans ((q29f 1 3 no_dm_1).trans ((q22f 1 3 (by unfold kEm; omega)).trans ((j9 1 3 (by unfold kRx; omega)).trans hc)))) (by omega) ?_
          refine e_Ok.ps2 (x := (0, 0)) (y := (0, 11)) (q := 48) 2 rfl ?_
          refine e_Ok.callV rfl (e_dq hd rfl) rfl (lD0 hcd) rfl rfl (c_21 q36T hcd (by omega) (by omega)) (fun r40 w41 h42 => ?_)
          obtain ⟨z44, rfl, q43f, q43T, q43x⟩ := h42
          have q43z : 0 ≤ z44 ∧ z44 ≤ 4000 := by have g := e_Has.get q36T (c := cd) (k := 0) (lo := 0) (hi := 4000) (kD_0 hcd) (by decide); unfold emQ at q43x; omega
          refine e_Ok.nrm (q := 51) (st' := [(0, z44)]) rfl rfl ?_
          refine e_Ok.run (t' := (53, [(2, (0, z23)), (0, (1, 1)), (1, (0, y1))], [(1, 1)], w41)) 2 rfl ?_
          refine e_Ok.getr (z := cd) rfl (el_o rfl) rfl rfl ((q43f 1 3 (by unfold kEm; omega)).trans ((q36f 1 3 (by unfold kRx; omega)).trans ((q29f 1 3 no_dm_1).trans ((q22f 1 3 (by unfold kEm; omega)).trans ((j9 1 3 (by unfold kRx; omega)).trans hc))))) (by omega) ?_
          refine e_Ok.ps2 (x := (1, 1)) (y := (0, z23)) (q := 58) 2 rfl ?_
          refine e_Ok.getr (z := cd) rfl (el_o rfl) rfl rfl ((q43f 1 3 (by unfold kEm; omega)).trans ((q36f 1 3 (by unfold kRx; omega)).trans ((q29f 1 3 no_dm_1).trans ((q22f 1 3 (by unfold kEm; omega)).trans ((j9 1 3 (by unfold kRx; omega)).trans hc))))) (by omega) ?_
          have h47 := (e_Has.get q43T (c := cd) (k := 0) (lo := 0) (hi := 4000) (kD_0 hcd) (by decide))
          refine e_Ok.getf (z := w41 cd 0) rfl (lD0 hcd) rfl rfl rfl (e_bq h47 (by decide) (by decide)) ?_
          refine e_Ok.callV rfl (e_dq hd rfl) rfl (lD0 hcd) rfl rfl (c_22 q43T hcd (by omega) (by have g := e_Has.get q43T (c := cd) (k := 0) (lo := 0) (hi := 4000) (kD_0 hcd) (by decide); omega)) (fun r48 w49 h50 => ?_)
          obtain ⟨rfl, q51f, q51T, q51x⟩ := h50
          refine e_Ok.nrm (q := 67) (st' := []) rfl rfl ?_
          refine e_Ok.inc (z := y1 + 1) rfl rfl (by first | with_reducible rfl | omega) (by omega) ?_
          show e_Ok 20 elay kcode eI (d + 1) 158 (70, [(1, (0, y1 + 1)), (2, (0, z23)), (0, (1, 1))], [], w49) _
          refine e_Ok.ps0 (q := 6) 1 rfl ?_
          refine e_Ok.sub kAlk (e_sub_of rfl ?_) (ih8 (y1 + 1) w49 ⟨(show e_fr (kRx cd) w w49 from e_fr.trans (show e_fr (kRx cd) w w41 from e_fr.trans (show e_fr (kRx cd) w w34 from e_fr.trans (show e_fr (kRx cd) w w27 from e_fr.trans (show e_fr (kRx cd) w w20 from e_fr.trans j9 (e_fr.mono q22f (fun c k q => by first | exact su_dm_12 q | (unfold kEm at q; unfold kRx; omega)))) (e_fr.mono q29f (fun c k q => by first | exact su_dm_10 q | (unfold kRa at q; unfold kRx; omega)))) (e_fr.mono q36f (fun c k q => by exact q))) (e_fr.mono q43f (fun c k q => by first | exact su_dm_12 q | (unfold kEm at q; unfold kRx; omega)))) (e_fr.mono q51f (fun c k q => by first | exact su_dm_14 q | (unfold kPa at q; unfold kRx; omega)))), q51T, (show e_Has kRy w49 from H_fr q51f (fun c k g => by unfold kPa at g; omega) (show e_Has kRy w41 from H_fr q43f (fun c k g => by unfold kEm at g; omega) q36H)), ((q51f 1 11 (by unfold kPa; omega)).trans ((q43f 1 11 (by unfold kEm; omega)).trans (q36o.trans ((q29f 1 11 no_dm_3).trans ((q22f 1 11 (by unfold kEm; omega)).trans j12))))), (show tkR w49 from (show tkR w41 from (q36k.fr q43f (fun k g => by unfold kEm; omega))).fr q51f (fun k g => by unfold kPa; omega)), ((show zS w w49 cd 0 (-1) from zS.patch hcd (show zS w w41 cd 0 z23 from zS.trans (show zS w w34 cd (-1) z23 from zS.trans (show zS w w27 cd (-1) z23 from zS.trans (show zS w w20 cd 1 z23 from zS.trans j14 (show zS v1 w20 cd 1 z23 from zS.emit hcd ((e_Has.get j10 (c := cd) (k := 0) (lo := 0) (hi := 4000) (kD_0 hcd) (by decide)).1) q22f q22x (by omega) (by omega) (by omega) (by omega)) (by omega) (by omega) (by omega) (by omega)) (show zS w20 w27 cd (-2) (-1) from zS.adv hcd ((e_Has.get q22T (c := cd) (k := 0) (lo := 0) (hi := 4000) (kD_0 hcd) (by decide)).1) q29f q29x (q22k.a2 (by omega))) (by omega) (by omega) (by omega) (by omega)) (show zS w27 w34 cd 0 (-1) from q36x) (by omega) (by omega) (by omega) (by omega)) (show zS w34 w41 cd 1 (-1) from zS.emit hcd ((e_Has.get q36T (c := cd) (k := 0) (lo := 0) (hi := 4000) (kD_0 hcd) (by decide)).1) q43f q43x (by omega) (by omega) (by omega) (by omega)) (by omega) (by omega) (by omega) (by omega)) q51f q51x rfl).le (by omega)), (by omega)⟩ (by omega))
          exact ⟨rfl, rfl, trivial⟩
  refine e_Ok.sub kAlk (e_sub_of rfl ?_) (hL7 (4001 + 1 : Int).toNat 0 w2 ⟨(show e_fr (kRx cd) w w2 from e_fr.trans (e_fr.refl w) (e_fr.mono q4f (fun c k q => by exact q))), q4T, q4H, (q4o.trans ho), q4k, ((show zS w w2 cd 0 (-1) from zS.trans (show zS w w cd 0 (-1) from zS.refl pL.1) (show zS w w2 cd 0 (-1) from q4x) (by omega) (by omega) (by omega) (by omega)).le (by omega)), (by omega)⟩ (by omega))
  exact ⟨rfl, rfl, trivial⟩
theorem x165 {d : Nat} {o : Int} (hd : 27 ≤ d) (hor : 0 ≤ o ∧ o ≤ 30) (hE : o < 30 → ∀ k, d = k + 1 → zC 158 (o + 1) k) : zC 165 o d := fun _ _ h1 h2 => c_165 hd h1 h2 hor hE
theorem x164 {d : Nat} {o : Int} (hd : 27 ≤ d) (hor : 0 ≤ o ∧ o ≤ 30) (hO : o < 30 → ∀ k, d = k + 1 → zC 164 (o + 1) k) (hP : ∀ k, d = k + 1 → zC 165 o k) : zC 164 o d := fun _ _ h1 h2 => c_164 hd h1 h2 hor hO hP
theorem x163 {d : Nat} {o : Int} (hd : 27 ≤ d) (hor : 0 ≤ o ∧ o ≤ 30) (hI : ∀ k, d = k + 1 → zC 164 o k) : zC 163 o d := fun _ _ h1 h2 => c_163 hd h1 h2 hor hI
theorem x162 {d : Nat} {o : Int} (hd : 27 ≤ d) (hor : 0 ≤ o ∧ o ≤ 30) (hI : ∀ k, d = k + 1 → zC 163 o k) : zC 162 o d := fun _ _ h1 h2 => c_162 hd h1 h2 hor hI
theorem x160 {d : Nat} {o : Int} (hd : 27 ≤ d) (hor : 0 ≤ o ∧ o ≤ 30) (hI : ∀ k, d = k + 1 → zC 162 o k) (hN : o < 30 → ∀ k, d = k + 1 → zC 160 (o + 1) k) : zC 160 o d := fun _ _ h1 h2 => c_160 hd h1 h2 hor hI hN
theorem x159 {d : Nat} {o : Int} (hd : 27 ≤ d) (hor : 0 ≤ o ∧ o ≤ 30) (hI : ∀ k, d = k + 1 → zC 160 o k) : zC 159 o d := fun _ _ h1 h2 => c_159 hd h1 h2 hor hI
theorem x158 {d : Nat} {o : Int} (hd : 27 ≤ d) (hor : 0 ≤ o ∧ o ≤ 30) (hI : ∀ k, d = k + 1 → zC 159 o k) : zC 158 o d := fun _ _ h1 h2 => c_158 hd h1 h2 hor hI
/-- one level: from what stands a thing deeper (o + 1) -/
theorem x_step {o : Int} {D : Nat} (hor : 0 ≤ o ∧ o ≤ 30) (hD : 30 ≤ D) (h1 : o < 30 → ∀ d, D ≤ d + 3 → zC 164 (o + 1) d) (h2 : o < 30 → ∀ d, D ≤ d + 3 → zC 158 (o + 1) d) (h3 : o < 30 → ∀ d, D ≤ d + 3 → zC 160 (o + 1) d) : (∀ d, D ≤ d → zC 164 o d) ∧ (∀ d, D + 3 ≤ d → zC 160 o d) ∧ (∀ d, D + 5 ≤ d → zC 158 o d) := by
  have s5 : ∀ d, D ≤ d + 1 → zC 165 o d := fun d hd => x165 (by omega) hor (fun ho k e => h2 ho k (by omega))
  have s4 : ∀ d, D ≤ d → zC 164 o d := fun d hd => x164 (by omega) hor (fun ho k e => h1 ho k (by omega)) (fun k e => s5 k (by omega))
  have s3 : ∀ d, D + 1 ≤ d → zC 163 o d := fun d hd => x163 (by omega) hor (fun k e => s4 k (by omega))
  have s2 : ∀ d, D + 2 ≤ d → zC 162 o d := fun d hd => x162 (by omega) hor (fun k e => s3 k (by omega))
  have s0 : ∀ d, D + 3 ≤ d → zC 160 o d := fun d hd => x160 (by omega) hor (fun k e => s2 k (by omega)) (fun ho k e => h3 ho k (by omega))
  have s9 : ∀ d, D + 4 ≤ d → zC 159 o d := fun d hd => x159 (by omega) hor (fun k e => s0 k (by omega))
  exact ⟨s4, s0, fun d hd => x158 (by omega) hor (fun k e => s9 k (by omega))⟩
theorem x_lv : ∀ (k : Nat), k ≤ 30 → (∀ d, 30 + 8 * k ≤ d → zC 164 (30 - (k : Int)) d) ∧ (∀ d, 33 + 8 * k ≤ d → zC 160 (30 - (k : Int)) d) ∧ (∀ d, 35 + 8 * k ≤ d → zC 158 (30 - (k : Int)) d)
  | 0, _ => by
    have q := x_step (o := 30) (D := 30) (by omega) (by omega) (fun h => by omega) (fun h => by omega) (fun h => by omega)
    exact ⟨fun d hd => q.1 d (by omega), fun d hd => q.2.1 d (by omega), fun d hd => q.2.2 d (by omega)⟩
  | k + 1, hk => by
    obtain ⟨a1, a2, a3⟩ := x_lv k (by omega)
    have eo : 30 - ((k + 1 : Nat) : Int) + 1 = 30 - (k : Int) := by omega
    have q := x_step (o := 30 - ((k + 1 : Nat) : Int)) (D := 38 + 8 * k) (by omega) (by omega) (fun _ d hd => by rw [eo]; exact a1 d (by omega)) (fun _ d hd => by rw [eo]; exact a3 d (by omega)) (fun _ d hd => by rw [eo]; exact a2 d (by omega))
    exact ⟨fun d hd => q.1 d (by omega), fun d hd => q.2.1 d (by omega), fun d hd => q.2.2 d (by omega)⟩
/-- an expression, with o things open -/
theorem x_exp {d : Nat} {o : Int} (hd : 275 ≤ d) (hor : 0 ≤ o ∧ o ≤ 30) : zC 158 o d := by
  have hk : ((30 - o).toNat : Int) = 30 - o := by omega
  have q := (x_lv (30 - o).toNat (by omega)).2.2
  rw [hk, show 30 - (30 - o) = o by omega] at q
  exact q d (by omega)
end
