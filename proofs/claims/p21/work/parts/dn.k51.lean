noncomputable section
/-! the class: the reader, statements -/
/-- the loop that a break would leave -/
def lpK (w : eW) (cd lp : Int) : Prop := lp = -1 ∨ zpl w cd (lp + 1) 49
theorem lpK.step {w v : eW} {cd lp s b c b' c' : Int} (h : lpK w cd lp) (g : gS w v cd s b c b' c') : lpK v cd lp := by
  rcases h with h | h
  · exact Or.inl h
  · exact Or.inr (h.step g)
def gQ (w w' : eW) (cd s b c : Int) : Prop := e_fr (kRt cd) w w' ∧ rS w' cd ∧ (w' 1 11 = w 1 11 ∧ w' 1 12 = w 1 12 ∧ w' 1 13 = w 1 13) ∧ gS w w' cd s b c 0 0
/-- a method for statements -/
def zgC (M : Nat) (o s b : Int) (K : Int → Prop) (d : Nat) : Prop := ∀ (w : eW) (cd t lp : Int), rS w cd → w 1 11 = o → w 1 12 = t → (0 ≤ t ∧ t ≤ o) → w 1 13 = lp → lpK w cd lp → K (w 1 5) → e_Ok 20 elay kcode eI d M (0, [(0, (1, 1))], [], w) (fun r w' => r = [] ∧ gQ w w' cd s b 0)
def isK (k : Int) : Prop := k = 1 ∨ (24 ≤ k ∧ k ≤ 39) ∨ k = 41 ∨ k = 42
set_option maxHeartbeats 4000000 in
theorem c_146_a {d : Nat} (hd : 281 ≤ d) {w : eW} {cd o : Int} (hS : rS w cd) (ho : w 1 11 = o) (hor : 0 ≤ o ∧ o ≤ 30) {op : Int} (g_op : 37 ≤ op ∧ op ≤ 38) (h5 : 34 ≤ w 1 5 ∧ w 1 5 ≤ 35) : e_Ok 20 elay kcode eI d 146 (0, [(0, (1, 1)), (1, (0, op))], [], w) (fun r w' => r = [] ∧ gQ w w' cd (-1) 1 0) := by
  obtain ⟨d, rfl⟩ : ∃ e, d = e + 1 := ⟨d - 1, by omega⟩
  obtain ⟨hT, hH, hc, hcd, hk⟩ := hS
  have hcd2 := hcd; unfold isCd at hcd2
  have hcd3 : 2 ≤ cd ∧ cd ≤ 145 := by omega
  have pL := e_Has.get hT (c := cd) (k := 0) (lo := 0) (hi := 4000) (kD_0 hcd) (by decide)
  have p1 := e_Has.get hH (c := 1) (k := 1) (lo := (-2147483648)) (hi := 2147483647) rfl (by decide)
  have p5 := e_Has.get hH (c := 1) (k := 5) (lo := 0) (hi := 53) rfl (by decide)
  have p6 := e_Has.get hH (c := 1) (k := 6) (lo := 0) (hi := 4000) rfl (by decide)
  have p9 := e_Has.get hH (c := 1) (k := 9) (lo := (-2147483648)) (hi := 2147483647) rfl (by decide)
  have p7 := e_Has.get hH (c := 1) (k := 7) (lo := 0) (hi := 4000) rfl (by decide)
  have p12 := e_Has.get hH (c := 1) (k := 12) (lo := 0) (hi := 30) rfl (by decide)
  have p13 := e_Has.get hH (c := 1) (k := 13) (lo := (-1)) (hi := 4000) rfl (by decide)
  have x0 : gS w w cd 0 1 0 1 0 := gS.refl pL.1
  refine e_Ok.run (t' := (1, [(0, (1, 1)), (1, (0, op))], [(1, 1)], w)) 1 rfl ?_
  refine e_Ok.callV rfl (by omega) rfl rfl rfl rfl (c_123 (by omega) hT hH hk.1.2) (fun r1 w2 h3 => ?_)
  obtain ⟨rfl, q4f, q4T, q4H, q4k, q4x, q44⟩ := h3
  have f5 : e_fr (kRx cd) w w2 := e_fr.trans (e_fr.refl w) (e_fr.mono q4f (fun c k q => by unfold kRa at q; unfold kRx; omega))
  have s6 : gS w w2 cd (-2) 1 0 1 0 := gS.adv hcd ((e_Has.get hT (c := cd) (k := 0) (lo := 0) (hi := 4000) (kD_0 hcd) (by decide)).1) (by omega) q4f q4x (hk.a2 (by omega))
  have x7 : gS w w2 cd (-2) 1 0 1 0 := gS.trans x0 s6 (by omega)
  show e_Ok 20 elay kcode eI (d + 1) 146 (4, [(0, (1, 1)), (1, (0, op))], [], w2) _
  refine e_Ok.run (t' := (7, [(0, (1, 1)), (1, (0, op))], [(0, 19), (1, 1)], w2)) 2 rfl ?_
  refine e_Ok.callV rfl (by omega) rfl rfl rfl rfl (c_129 (by omega) q4T q4H q4k (by omega)) (fun r8 w9 h10 => ?_)
  obtain ⟨rfl, q11f, q11T, q11H, q11k, q11x⟩ := h10
  have f12 : e_fr (kRx cd) w w9 := e_fr.trans f5 (e_fr.mono q11f (fun c k q => by unfold kRk at q; unfold kRx; omega))
  have s13 : gS w2 w9 cd (-1) 1 0 1 0 := gS.acc hcd ((e_Has.get q4T (c := cd) (k := 0) (lo := 0) (hi := 4000) (kD_0 hcd) (by decide)).1) (by omega) q11f q11x (fun g => q4k.a1 (by omega))
  have x14 : gS w w9 cd (-3) 1 0 1 0 := gS.trans x7 s13 (by omega)
  show e_Ok 20 elay kcode eI (d + 1) 146 (10, [(0, (1, 1)), (1, (0, op))], [], w9) _
  refine e_Ok.run (t' := (11, [(0, (1, 1)), (1, (0, op))], [(1, 1)], w9)) 1 rfl ?_
  refine e_Ok.getr (z := cd) rfl (el_o rfl) rfl rfl ((q11f 1 3 (by unfold kRk; omega)).trans ((q4f 1 3 (by unfold kRa; omega)).trans hc)) (by omega) ?_
  refine e_Ok.run (t' := (16, [(0, (1, 1)), (1, (0, op))], [(0, 0), (0, op), (1, cd)], w9)) 2 rfl ?_
  refine e_Ok.callV rfl (by omega) rfl (lD0 hcd) rfl rfl (c_21 q11T hcd (by omega) (by omega)) (fun r15 w16 h17 => ?_)
  obtain ⟨z19, rfl, q18f, q18T, q18x⟩ := h17
  have q18H : e_Has kRy w16 := H_fr q18f (fun c k g => by unfold kEm at g; omega) q11H
  have q18k : tkR w16 := (q11k.fr q18f (fun k g => by unfold kEm; omega))
  have q18z : 0 ≤ z19 ∧ z19 ≤ 4000 := by have g := e_Has.get q11T (c := cd) (k := 0) (lo := 0) (hi := 4000) (kD_0 hcd) (by decide); unfold emQ at q18x; omega
  have f20 : e_fr (kRx cd) w w16 := e_fr.trans f12 (e_fr.mono q18f (fun c k q => by unfold kEm at q; unfold kRx; omega))
  have s21 : gS w9 w16 cd 1 1 0 0 0 := gS.act hcd ((e_Has.get q11T (c := cd) (k := 0) (lo := 0) (hi := 4000) (kD_0 hcd) (by decide)).1) q18f q18x (by omega) (by omega) (by omega) (by omega)
  have x22 : gS w w16 cd (-2) 1 0 0 0 := gS.trans x14 s21 (by omega)
  show e_Ok 20 elay kcode eI (d + 1) 146 (19, [(0, (1, 1)), (1, (0, op))], [(0, z19)], w16) _
  refine e_Ok.run (t' := (20, [(0, (1, 1)), (1, (0, op))], [], w16)) 1 rfl ?_
  refine e_Ok.rets rfl rfl ?_
  exact ⟨rfl, (e_fr.mono f20 (fun c k q => by unfold kRx at q; unfold kRt; omega)), ⟨q18T, q18H, ((q18f 1 3 (by unfold kEm; omega)).trans ((q11f 1 3 (by unfold kRk; omega)).trans ((q4f 1 3 (by unfold kRa; omega)).trans hc))), hcd, q18k⟩, ⟨(by have g1 : w16 1 11 = o := ((q18f 1 11 (by unfold kEm; omega)).trans ((q11f 1 11 (by unfold kRk; omega)).trans ((q4f 1 11 (by unfold kRa; omega)).trans ho))); have g0 : w 1 11 = o := ho; omega), (by have g1 : w16 1 12 = w 1 12 := ((q18f 1 12 (by unfold kEm; omega)).trans ((q11f 1 12 (by unfold kRk; omega)).trans ((q4f 1 12 (by unfold kRa; omega)).trans rfl))); have g0 : w 1 12 = w 1 12 := rfl; omega), (by have g1 : w16 1 13 = w 1 13 := ((q18f 1 13 (by unfold kEm; omega)).trans ((q11f 1 13 (by unfold kRk; omega)).trans ((q4f 1 13 (by unfold kRa; omega)).trans rfl))); have g0 : w 1 13 = w 1 13 := rfl; omega)⟩, x22.le (by omega)⟩
set_option maxHeartbeats 4000000 in
theorem c_146_r {d : Nat} (hd : 281 ≤ d) {w : eW} {cd o : Int} (hS : rS w cd) (ho : w 1 11 = o) (hor : 0 ≤ o ∧ o ≤ 30) (h5 : w 1 5 = 37) : e_Ok 20 elay kcode eI d 146 (0, [(0, (1, 1)), (1, (0, 42))], [], w) (fun r w' => r = [] ∧ gQ w w' cd (-1) 1 0) := by
  obtain ⟨d, rfl⟩ : ∃ e, d = e + 1 := ⟨d - 1, by omega⟩
  obtain ⟨hT, hH, hc, hcd, hk⟩ := hS
  have hcd2 := hcd; unfold isCd at hcd2
  have hcd3 : 2 ≤ cd ∧ cd ≤ 145 := by omega
  have pL := e_Has.get hT (c := cd) (k := 0) (lo := 0) (hi := 4000) (kD_0 hcd) (by decide)
  have p1 := e_Has.get hH (c := 1) (k := 1) (lo := (-2147483648)) (hi := 2147483647) rfl (by decide)
  have p5 := e_Has.get hH (c := 1) (k := 5) (lo := 0) (hi := 53) rfl (by decide)
  have p6 := e_Has.get hH (c := 1) (k := 6) (lo := 0) (hi := 4000) rfl (by decide)
  have p9 := e_Has.get hH (c := 1) (k := 9) (lo := (-2147483648)) (hi := 2147483647) rfl (by decide)
  have p7 := e_Has.get hH (c := 1) (k := 7) (lo := 0) (hi := 4000) rfl (by decide)
  have p12 := e_Has.get hH (c := 1) (k := 12) (lo := 0) (hi := 30) rfl (by decide)
  have p13 := e_Has.get hH (c := 1) (k := 13) (lo := (-1)) (hi := 4000) rfl (by decide)
  have x0 : gS w w cd 0 1 0 1 0 := gS.refl pL.1
  refine e_Ok.run (t' := (1, [(0, (1, 1)), (1, (0, 42))], [(1, 1)], w)) 1 rfl ?_
  refine e_Ok.callV rfl (by omega) rfl rfl rfl rfl (c_123 (by omega) hT hH hk.1.2) (fun r1 w2 h3 => ?_)
  obtain ⟨rfl, q4f, q4T, q4H, q4k, q4x, q44⟩ := h3
  have f5 : e_fr (kRx cd) w w2 := e_fr.trans (e_fr.refl w) (e_fr.mono q4f (fun c k q => by unfold kRa at q; unfold kRx; omega))
  have s6 : gS w w2 cd (-2) 1 0 1 0 := gS.adv hcd ((e_Has.get hT (c := cd) (k := 0) (lo := 0) (hi := 4000) (kD_0 hcd) (by decide)).1) (by omega) q4f q4x (hk.a2 (by omega))
  have x7 : gS w w2 cd (-2) 1 0 1 0 := gS.trans x0 s6 (by omega)
  show e_Ok 20 elay kcode eI (d + 1) 146 (4, [(0, (1, 1)), (1, (0, 42))], [], w2) _
  refine e_Ok.run (t' := (7, [(0, (1, 1)), (1, (0, 42))], [(0, 19), (1, 1)], w2)) 2 rfl ?_
  refine e_Ok.callV rfl (by omega) rfl rfl rfl rfl (c_129 (by omega) q4T q4H q4k (by omega)) (fun r8 w9 h10 => ?_)
  obtain ⟨rfl, q11f, q11T, q11H, q11k, q11x⟩ := h10
  have f12 : e_fr (kRx cd) w w9 := e_fr.trans f5 (e_fr.mono q11f (fun c k q => by unfold kRk at q; unfold kRx; omega))
  have s13 : gS w2 w9 cd (-1) 1 0 1 0 := gS.acc hcd ((e_Has.get q4T (c := cd) (k := 0) (lo := 0) (hi := 4000) (kD_0 hcd) (by decide)).1) (by omega) q11f q11x (fun g => q4k.a1 (by omega))
  have x14 : gS w w9 cd (-3) 1 0 1 0 := gS.trans x7 s13 (by omega)
  show e_Ok 20 elay kcode eI (d + 1) 146 (10, [(0, (1, 1)), (1, (0, 42))], [], w9) _
  refine e_Ok.run (t' := (11, [(0, (1, 1)), (1, (0, 42))], [(1, 1)], w9)) 1 rfl ?_
  refine e_Ok.getr (z := cd) rfl (el_o rfl) rfl rfl ((q11f 1 3 (by unfold kRk; omega)).trans ((q4f 1 3 (by unfold kRa; omega)).trans hc)) (by omega) ?_
  refine e_Ok.run (t' := (16, [(0, (1, 1)), (1, (0, 42))], [(0, 0), (0, 42), (1, cd)], w9)) 2 rfl ?_
  refine e_Ok.callV rfl (by omega) rfl (lD0 hcd) rfl rfl (c_21 q11T hcd (by omega) (by omega)) (fun r15 w16 h17 => ?_)
  obtain ⟨z19, rfl, q18f, q18T, q18x⟩ := h17
  have q18H : e_Has kRy w16 := H_fr q18f (fun c k g => by unfold kEm at g; omega) q11H
  have q18k : tkR w16 := (q11k.fr q18f (fun k g => by unfold kEm; omega))
  have q18z : 0 ≤ z19 ∧ z19 ≤ 4000 := by have g := e_Has.get q11T (c := cd) (k := 0) (lo := 0) (hi := 4000) (kD_0 hcd) (by decide); unfold emQ at q18x; omega
  have f20 : e_fr (kRx cd) w w16 := e_fr.trans f12 (e_fr.mono q18f (fun c k q => by unfold kEm at q; unfold kRx; omega))
  have s21 : gS w9 w16 cd 1 1 0 0 0 := gS.big hcd ((e_Has.get q11T (c := cd) (k := 0) (lo := 0) (hi := 4000) (kD_0 hcd) (by decide)).1) (by omega) q18f q18x (by omega) (by omega) (fun g => by omega) (fun g => by omega)
  have x22 : gS w w16 cd (-2) 1 0 0 0 := gS.trans x14 s21 (by omega)
  show e_Ok 20 elay kcode eI (d + 1) 146 (19, [(0, (1, 1)), (1, (0, 42))], [(0, z19)], w16) _
  refine e_Ok.run (t' := (20, [(0, (1, 1)), (1, (0, 42))], [], w16)) 1 rfl ?_
  refine e_Ok.rets rfl rfl ?_
  exact ⟨rfl, (e_fr.mono f20 (fun c k q => by unfold kRx at q; unfold kRt; omega)), ⟨q18T, q18H, ((q18f 1 3 (by unfold kEm; omega)).trans ((q11f 1 3 (by unfold kRk; omega)).trans ((q4f 1 3 (by unfold kRa; omega)).trans hc))), hcd, q18k⟩, ⟨(by have g1 : w16 1 11 = o := ((q18f 1 11 (by unfold kEm; omega)).trans ((q11f 1 11 (by unfold kRk; omega)).trans ((q4f 1 11 (by unfold kRa; omega)).trans ho))); have g0 : w 1 11 = o := ho; omega), (by have g1 : w16 1 12 = w 1 12 := ((q18f 1 12 (by unfold kEm; omega)).trans ((q11f 1 12 (by unfold kRk; omega)).trans ((q4f 1 12 (by unfold kRa; omega)).trans rfl))); have g0 : w 1 12 = w 1 12 := rfl; omega), (by have g1 : w16 1 13 = w 1 13 := ((q18f 1 13 (by unfold kEm; omega)).trans ((q11f 1 13 (by unfold kRk; omega)).trans ((q4f 1 13 (by unfold kRa; omega)).trans rfl))); have g0 : w 1 13 = w 1 13 := rfl; omega)⟩, x22.le (by omega)⟩
set_option maxHeartbeats 4000000 in
theorem c_147 {d : Nat} (hd : 281 ≤ d) {w : eW} {cd o : Int} (hS : rS w cd) (ho : w 1 11 = o) (hor : 0 ≤ o ∧ o ≤ 30) {op : Int} (g_op : 28 ≤ op ∧ op ≤ 36) (h5 : 24 ≤ w 1 5 ∧ w 1 5 ≤ 39) : e_Ok 20 elay kcode eI d 147 (0, [(0, (1, 1)), (1, (0, op))], [], w) (fun r w' => r = [] ∧ gQ w w' cd (-1) 1 0) := by
  obtain ⟨d, rfl⟩ : ∃ e, d = e + 1 := ⟨d - 1, by omega⟩
  obtain ⟨hT, hH, hc, hcd, hk⟩ := hS
  have hcd2 := hcd; unfold isCd at hcd2
  have hcd3 : 2 ≤ cd ∧ cd ≤ 145 := by omega
  have pL := e_Has.get hT (c := cd) (k := 0) (lo := 0) (hi := 4000) (kD_0 hcd) (by decide)
  have p1 := e_Has.get hH (c := 1) (k := 1) (lo := (-2147483648)) (hi := 2147483647) rfl (by decide)
  have p5 := e_Has.get hH (c := 1) (k := 5) (lo := 0) (hi := 53) rfl (by decide)
  have p6 := e_Has.get hH (c := 1) (k := 6) (lo := 0) (hi := 4000) rfl (by decide)
  have p9 := e_Has.get hH (c := 1) (k := 9) (lo := (-2147483648)) (hi := 2147483647) rfl (by decide)
  have p7 := e_Has.get hH (c := 1) (k := 7) (lo := 0) (hi := 4000) rfl (by decide)
  have p12 := e_Has.get hH (c := 1) (k := 12) (lo := 0) (hi := 30) rfl (by decide)
  have p13 := e_Has.get hH (c := 1) (k := 13) (lo := (-1)) (hi := 4000) rfl (by decide)
  have x0 : zS w w cd 0 (-1) := zS.refl pL.1
  refine e_Ok.run (t' := (1, [(0, (1, 1)), (1, (0, op))], [(1, 1)], w)) 1 rfl ?_
  refine e_Ok.callV rfl (by omega) rfl rfl rfl rfl (c_123 (by omega) hT hH hk.1.2) (fun r1 w2 h3 => ?_)
  obtain ⟨rfl, q4f, q4T, q4H, q4k, q4x, q44⟩ := h3
  have f5 : e_fr (kRt cd) w w2 := e_fr.trans (e_fr.refl w) (e_fr.mono q4f (fun c k q => by unfold kRa at q; unfold kRt; omega))
  have x6 : zS w w2 cd (-2) (-1) := zS.trans x0 (show zS w w2 cd (-2) (-1) from zS.adv hcd ((e_Has.get hT (c := cd) (k := 0) (lo := 0) (hi := 4000) (kD_0 hcd) (by decide)).1) q4f q4x (hk.a2 (by omega))) (by omega) (by omega) (by omega) (by omega)
  show e_Ok 20 elay kcode eI (d + 1) 147 (4, [(0, (1, 1)), (1, (0, op))], [], w2) _
  refine e_Ok.run (t' := (5, [(0, (1, 1)), (1, (0, op))], [(1, 1)], w2)) 1 rfl ?_
  refine e_Ok.getr (z := cd) rfl (el_o rfl) rfl rfl ((q4f 1 3 (by unfold kRa; omega)).trans hc) (by omega) ?_
  have h7 := (e_Has.get hT (c := cd) (k := 0) (lo := 0) (hi := 4000) (kD_0 hcd) (by decide))
  refine e_Ok.getf (z := w cd 0) rfl (lD0 hcd) rfl rfl ((q4f cd 0 (by unfold kRa; omega)).trans rfl) (by omega) ?_
  refine e_Ok.run (t' := (13, [(2, (0, w cd 0)), (0, (1, 1)), (1, (0, op))], [(1, 1)], w2)) 2 rfl ?_
  refine e_Ok.callV rfl (by omega) rfl rfl rfl rfl (x_exp (o := o) (by omega) (by omega) w2 cd ⟨q4T, q4H, ((q4f 1 3 (by unfold kRa; omega)).trans hc), hcd, q4k⟩ ((q4f 1 11 (by unfold kRa; omega)).trans ho)) (fun r8 w9 h10 => ?_)
  obtain ⟨rfl, q11f, ⟨q11T, q11H, q11c, -, q11k⟩, q11o, q11x⟩ := h10
  have f12 : e_fr (kRt cd) w w9 := e_fr.trans f5 (e_fr.mono q11f (fun c k q => by unfold kRx at q; unfold kRt; omega))
  have x13 : zS w w9 cd (-2) (-1) := zS.trans x6 (show zS w2 w9 cd 0 (-1) from q11x) (by omega) (by omega) (by omega) (by omega)
  show e_Ok 20 elay kcode eI (d + 1) 147 (16, [(2, (0, w cd 0)), (0, (1, 1)), (1, (0, op))], [], w9) _
  refine e_Ok.run (t' := (19, [(2, (0, w cd 0)), (0, (1, 1)), (1, (0, op))], [(0, 19), (1, 1)], w9)) 2 rfl ?_
  refine e_Ok.callV rfl (by omega) rfl rfl rfl rfl (c_129 (by omega) q11T q11H q11k (by omega)) (fun r14 w15 h16 => ?_)
  obtain ⟨rfl, q17f, q17T, q17H, q17k, q17x⟩ := h16
  have f18 : e_fr (kRt cd) w w15 := e_fr.trans f12 (e_fr.mono q17f (fun c k q => by unfold kRk at q; unfold kRt; omega))
  have x19 : zS w w15 cd (-3) (-1) := zS.trans x13 (show zS w9 w15 cd (-1) (-1) from zS.acc hcd ((e_Has.get q11T (c := cd) (k := 0) (lo := 0) (hi := 4000) (kD_0 hcd) (by decide)).1) q17f q17x (fun g => q11k.a1 (by omega))) (by omega) (by omega) (by omega) (by omega)
  show e_Ok 20 elay kcode eI (d + 1) 147 (22, [(2, (0, w cd 0)), (0, (1, 1)), (1, (0, op))], [], w15) _
  refine e_Ok.run (t' := (23, [(2, (0, w cd 0)), (0, (1, 1)), (1, (0, op))], [(1, 1)], w15)) 1 rfl ?_
  refine e_Ok.getr (z := cd) rfl (el_o rfl) rfl rfl ((q17f 1 3 (by unfold kRk; omega)).trans ((q11f 1 3 (by unfold kRx; omega)).trans ((q4f 1 3 (by unfold kRa; omega)).trans hc))) (by omega) ?_
  refine e_Ok.run (t' := (28, [(2, (0, w cd 0)), (0, (1, 1)), (1, (0, op))], [(0, w cd 0), (0, op), (1, cd)], w15)) 2 rfl ?_
  refine e_Ok.callV rfl (by omega) rfl (lD0 hcd) rfl rfl (c_21 q17T hcd (by omega) (by omega)) (fun r20 w21 h22 => ?_)
  obtain ⟨z24, rfl, q23f, q23T, q23x⟩ := h22
  have q23H : e_Has kRy w21 := H_fr q23f (fun c k g => by unfold kEm at g; omega) q17H
  have q23k : tkR w21 := (q17k.fr q23f (fun k g => by unfold kEm; omega))
  have q23z : 0 ≤ z24 ∧ z24 ≤ 4000 := by have g := e_Has.get q17T (c := cd) (k := 0) (lo := 0) (hi := 4000) (kD_0 hcd) (by decide); unfold emQ at q23x; omega
  have f25 : e_fr (kRt cd) w w21 := e_fr.trans f18 (e_fr.mono q23f (fun c k q => by unfold kEm at q; unfold kRt; omega))
  have x26 : gS w w21 cd ((-3) + 1) 1 0 0 0 := gS.wn hcd x19 q23f q23x (show w cd 0 = w cd 0 from rfl) (by omega) ((e_Has.get q17T (c := cd) (k := 0) (lo := 0) (hi := 4000) (kD_0 hcd) (by decide)).1)
  show e_Ok 20 elay kcode eI (d + 1) 147 (31, [(2, (0, w cd 0)), (0, (1, 1)), (1, (0, op))], [(0, z24)], w21) _
  refine e_Ok.run (t' := (32, [(2, (0, w cd 0)), (0, (1, 1)), (1, (0, op))], [], w21)) 1 rfl ?_
  refine e_Ok.rets rfl rfl ?_
  exact ⟨rfl, f25, ⟨q23T, q23H, ((q23f 1 3 (by unfold kEm; omega)).trans ((q17f 1 3 (by unfold kRk; omega)).trans ((q11f 1 3 (by unfold kRx; omega)).trans ((q4f 1 3 (by unfold kRa; omega)).trans hc)))), hcd, q23k⟩, ⟨(by have g1 : w21 1 11 = o := ((q23f 1 11 (by unfold kEm; omega)).trans ((q17f 1 11 (by unfold kRk; omega)).trans (q11o.trans ((q4f 1 11 (by unfold kRa; omega)).trans ho)))); have g0 : w 1 11 = o := ho; omega), (by have g1 : w21 1 12 = w 1 12 := ((q23f 1 12 (by unfold kEm; omega)).trans ((q17f 1 12 (by unfold kRk; omega)).trans ((q11f 1 12 (by unfold kRx; omega)).trans ((q4f 1 12 (by unfold kRa; omega)).trans rfl)))); have g0 : w 1 12 = w 1 12 := rfl; omega), (by have g1 : w21 1 13 = w 1 13 := ((q23f 1 13 (by unfold kEm; omega)).trans ((q17f 1 13 (by unfold kRk; omega)).trans ((q11f 1 13 (by unfold kRx; omega)).trans ((q4f 1 13 (by unfold kRa; omega)).trans rfl)))); have g0 : w 1 13 = w 1 13 := rfl; omega)⟩, x26.le (by omega)⟩
set_option maxHeartbeats 4000000 in
theorem c_148 {d : Nat} (hd : 281 ≤ d) {w : eW} {cd o : Int} (hS : rS w cd) (ho : w 1 11 = o) (hor : 0 ≤ o ∧ o ≤ 30) {op : Int} (g_op : 33 ≤ op ∧ op ≤ 34) (h5 : 24 ≤ w 1 5 ∧ w 1 5 ≤ 39) : e_Ok 20 elay kcode eI d 148 (0, [(0, (1, 1)), (1, (0, op))], [], w) (fun r w' => r = [] ∧ gQ w w' cd (-1) 1 0) := by
  obtain ⟨d, rfl⟩ : ∃ e, d = e + 1 := ⟨d - 1, by omega⟩
  obtain ⟨hT, hH, hc, hcd, hk⟩ := hS
  have hcd2 := hcd; unfold isCd at hcd2
  have hcd3 : 2 ≤ cd ∧ cd ≤ 145 := by omega
  have pL := e_Has.get hT (c := cd) (k := 0) (lo := 0) (hi := 4000) (kD_0 hcd) (by decide)
  have p1 := e_Has.get hH (c := 1) (k := 1) (lo := (-2147483648)) (hi := 2147483647) rfl (by decide)
  have p5 := e_Has.get hH (c := 1) (k := 5) (lo := 0) (hi := 53) rfl (by decide)
  have p6 := e_Has.get hH (c := 1) (k := 6) (lo := 0) (hi := 4000) rfl (by decide)
  have p9 := e_Has.get hH (c := 1) (k := 9) (lo := (-2147483648)) (hi := 2147483647) rfl (by decide)
  have p7 := e_Has.get hH (c := 1) (k := 7) (lo := 0) (hi := 4000) rfl (by decide)
  have p12 := e_Has.get hH (c := 1) (k := 12) (lo := 0) (hi := 30) rfl (by decide)
  have p13 := e_Has.get hH (c := 1) (k := 13) (lo := (-1)) (hi := 4000) rfl (by decide)
  have x0 : gS w w cd 0 1 0 1 0 := gS.refl pL.1
  refine e_Ok.run (t' := (1, [(0, (1, 1)), (1, (0, op))], [(1, 1)], w)) 1 rfl ?_
  refine e_Ok.callV rfl (by omega) rfl rfl rfl rfl (c_123 (by omega) hT hH hk.1.2) (fun r1 w2 h3 => ?_)
  obtain ⟨rfl, q4f, q4T, q4H, q4k, q4x, q44⟩ := h3
  have f5 : e_fr (kRx cd) w w2 := e_fr.trans (e_fr.refl w) (e_fr.mono q4f (fun c k q => by unfold kRa at q; unfold kRx; omega))
  have s6 : gS w w2 cd (-2) 1 0 1 0 := gS.adv hcd ((e_Has.get hT (c := cd) (k := 0) (lo := 0) (hi := 4000) (kD_0 hcd) (by decide)).1) (by omega) q4f q4x (hk.a2 (by omega))
  have x7 : gS w w2 cd (-2) 1 0 1 0 := gS.trans x0 s6 (by omega)
  show e_Ok 20 elay kcode eI (d + 1) 148 (4, [(0, (1, 1)), (1, (0, op))], [], w2) _
  refine e_Ok.run (t' := (5, [(0, (1, 1)), (1, (0, op))], [(1, 1)], w2)) 1 rfl ?_
  have h8 := (e_Has.get q4H (c := 1) (k := 6) (lo := 0) (hi := 4000) rfl (by decide))
  refine e_Ok.getf (z := w2 1 6) rfl (el_o rfl) rfl rfl rfl (by omega) ?_
  refine e_Ok.run (t' := (11, [(2, (0, w2 1 6)), (0, (1, 1)), (1, (0, op))], [(0, 1), (1, 1)], w2)) 3 rfl ?_
  refine e_Ok.callV rfl (by omega) rfl rfl rfl rfl (c_129 (by omega) q4T q4H q4k (by omega)) (fun r9 w10 h11 => ?_)
  obtain ⟨rfl, q12f, q12T, q12H, q12k, q12x⟩ := h11
  have f13 : e_fr (kRx cd) w w10 := e_fr.trans f5 (e_fr.mono q12f (fun c k q => by unfold kRk at q; unfold kRx; omega))
  have s14 : gS w2 w10 cd (-1) 1 0 1 0 := gS.acc hcd ((e_Has.get q4T (c := cd) (k := 0) (lo := 0) (hi := 4000) (kD_0 hcd) (by decide)).1) (by omega) q12f q12x (fun g => q4k.a1 (by omega))
  have x15 : gS w w10 cd (-3) 1 0 1 0 := gS.trans x7 s14 (by omega)
  show e_Ok 20 elay kcode eI (d + 1) 148 (14, [(2, (0, w2 1 6)), (0, (1, 1)), (1, (0, op))], [], w10) _
  refine e_Ok.run (t' := (17, [(2, (0, w2 1 6)), (0, (1, 1)), (1, (0, op))], [(0, 19), (1, 1)], w10)) 2 rfl ?_
  refine e_Ok.callV rfl (by omega) rfl rfl rfl rfl (c_129 (by omega) q12T q12H q12k (by omega)) (fun r16 w17 h18 => ?_)
  obtain ⟨rfl, q19f, q19T, q19H, q19k, q19x⟩ := h18
  have f20 : e_fr (kRx cd) w w17 := e_fr.trans f13 (e_fr.mono q19f (fun c k q => by unfold kRk at q; unfold kRx; omega))
  have s21 : gS w10 w17 cd (-1) 1 0 1 0 := gS.acc hcd ((e_Has.get q12T (c := cd) (k := 0) (lo := 0) (hi := 4000) (kD_0 hcd) (by decide)).1) (by omega) q19f q19x (fun g => q12k.a1 (by omega))
  have x22 : gS w w17 cd (-4) 1 0 1 0 := gS.trans x15 s21 (by omega)
  show e_Ok 20 elay kcode eI (d + 1) 148 (20, [(2, (0, w2 1 6)), (0, (1, 1)), (1, (0, op))], [], w17) _
  refine e_Ok.run (t' := (21, [(2, (0, w2 1 6)), (0, (1, 1)), (1, (0, op))], [(1, 1)], w17)) 1 rfl ?_
  refine e_Ok.getr (z := cd) rfl (el_o rfl) rfl rfl ((q19f 1 3 (by unfold kRk; omega)).trans ((q12f 1 3 (by unfold kRk; omega)).trans ((q4f 1 3 (by unfold kRa; omega)).trans hc))) (by omega) ?_
  refine e_Ok.run (t' := (26, [(2, (0, w2 1 6)), (0, (1, 1)), (1, (0, op))], [(0, w2 1 6), (0, op), (1, cd)], w17)) 2 rfl ?_
  refine e_Ok.callV rfl (by omega) rfl (lD0 hcd) rfl rfl (c_21 q19T hcd (by omega) (by omega)) (fun r23 w24 h25 => ?_)
  obtain ⟨z27, rfl, q26f, q26T, q26x⟩ := h25
  have q26H : e_Has kRy w24 := H_fr q26f (fun c k g => by unfold kEm at g; omega) q19H
  have q26k : tkR w24 := (q19k.fr q26f (fun k g => by unfold kEm; omega))
  have q26z : 0 ≤ z27 ∧ z27 ≤ 4000 := by have g := e_Has.get q19T (c := cd) (k := 0) (lo := 0) (hi := 4000) (kD_0 hcd) (by decide); unfold emQ at q26x; omega
  have f28 : e_fr (kRx cd) w w24 := e_fr.trans f20 (e_fr.mono q26f (fun c k q => by unfold kEm at q; unfold kRx; omega))
  have s29 : gS w17 w24 cd 1 1 0 0 0 := gS.act hcd ((e_Has.get q19T (c := cd) (k := 0) (lo := 0) (hi := 4000) (kD_0 hcd) (by decide)).1) q26f q26x (by omega) (by omega) (by omega) (by omega)
  have x30 : gS w w24 cd (-3) 1 0 0 0 := gS.trans x22 s29 (by omega)
  show e_Ok 20 elay kcode eI (d + 1) 148 (29, [(2, (0, w2 1 6)), (0, (1, 1)), (1, (0, op))], [(0, z27)], w24) _
  refine e_Ok.run (t' := (30, [(2, (0, w2 1 6)), (0, (1, 1)), (1, (0, op))], [], w24)) 1 rfl ?_
  refine e_Ok.rets rfl rfl ?_
  exact ⟨rfl, (e_fr.mono f28 (fun c k q => by unfold kRx at q; unfold kRt; omega)), ⟨q26T, q26H, ((q26f 1 3 (by unfold kEm; omega)).trans ((q19f 1 3 (by unfold kRk; omega)).trans ((q12f 1 3 (by unfold kRk; omega)).trans ((q4f 1 3 (by unfold kRa; omega)).trans hc)))), hcd, q26k⟩, ⟨(by have g1 : w24 1 11 = o := ((q26f 1 11 (by unfold kEm; omega)).trans ((q19f 1 11 (by unfold kRk; omega)).trans ((q12f 1 11 (by unfold kRk; omega)).trans ((q4f 1 11 (by unfold kRa; omega)).trans ho)))); have g0 : w 1 11 = o := ho; omega), (by have g1 : w24 1 12 = w 1 12 := ((q26f 1 12 (by unfold kEm; omega)).trans ((q19f 1 12 (by unfold kRk; omega)).trans ((q12f 1 12 (by unfold kRk; omega)).trans ((q4f 1 12 (by unfold kRa; omega)).trans rfl)))); have g0 : w 1 12 = w 1 12 := rfl; omega), (by have g1 : w24 1 13 = w 1 13 := ((q26f 1 13 (by unfold kEm; omega)).trans ((q19f 1 13 (by unfold kRk; omega)).trans ((q12f 1 13 (by unfold kRk; omega)).trans ((q4f 1 13 (by unfold kRa; omega)).trans rfl)))); have g0 : w 1 13 = w 1 13 := rfl; omega)⟩, x30.le (by omega)⟩
set_option maxHeartbeats 4000000 in
theorem c_149 {d : Nat} (hd : 281 ≤ d) {w : eW} {cd o : Int} (hS : rS w cd) (ho : w 1 11 = o) (hor : 0 ≤ o ∧ o ≤ 30) (h5 : w 1 5 = 1) : e_Ok 20 elay kcode eI d 149 (0, [(0, (1, 1))], [], w) (fun r w' => r = [] ∧ gQ w w' cd (-1) 1 0) := by
  obtain ⟨d, rfl⟩ : ∃ e, d = e + 1 := ⟨d - 1, by omega⟩
  obtain ⟨hT, hH, hc, hcd, hk⟩ := hS
  have hcd2 := hcd; unfold isCd at hcd2
  have hcd3 : 2 ≤ cd ∧ cd ≤ 145 := by omega
  have pL := e_Has.get hT (c := cd) (k := 0) (lo := 0) (hi := 4000) (kD_0 hcd) (by decide)
  have p1 := e_Has.get hH (c := 1) (k := 1) (lo := (-2147483648)) (hi := 2147483647) rfl (by decide)
  have p5 := e_Has.get hH (c := 1) (k := 5) (lo := 0) (hi := 53) rfl (by decide)
  have p6 := e_Has.get hH (c := 1) (k := 6) (lo := 0) (hi := 4000) rfl (by decide)
  have p9 := e_Has.get hH (c := 1) (k := 9) (lo := (-2147483648)) (hi := 2147483647) rfl (by decide)
  have p7 := e_Has.get hH (c := 1) (k := 7) (lo := 0) (hi := 4000) rfl (by decide)
  have p12 := e_Has.get hH (c := 1) (k := 12) (lo := 0) (hi := 30) rfl (by decide)
  have p13 := e_Has.get hH (c := 1) (k := 13) (lo := (-1)) (hi := 4000) rfl (by decide)
  have x0 : gS w w cd 0 1 0 1 0 := gS.refl pL.1
  refine e_Ok.run (t' := (1, [(0, (1, 1))], [(1, 1)], w)) 1 rfl ?_
  refine e_Ok.callV rfl (by omega) rfl rfl rfl rfl (c_137 (by omega) hT hH hk hc hcd) (fun r1 w2 h3 => ?_)
  obtain ⟨z5, rfl, q4f, q4T, q4H, q4k, q4x, q4r⟩ := h3
  have f6 : e_fr (kRx cd) w w2 := e_fr.trans (e_fr.refl w) (e_fr.mono q4f (fun c k q => by unfold kRc at q; unfold kRx; omega))
  have s7 : gS w w2 cd 0 1 0 1 0 := gS.cmp hcd ((e_Has.get hT (c := cd) (k := 0) (lo := 0) (hi := 4000) (kD_0 hcd) (by decide)).1) (by omega) q4f q4x
  have x8 : gS w w2 cd 0 1 0 1 0 := gS.trans x0 s7 (by omega)
  show e_Ok 20 elay kcode eI (d + 1) 149 (4, [(0, (1, 1))], [(0, z5)], w2) _
  refine e_Ok.run (t' := (6, [(1, (0, z5)), (0, (1, 1))], [(1, 1)], w2)) 2 rfl ?_
  refine e_Ok.callV rfl (by omega) rfl rfl rfl rfl (c_123 (by omega) q4T q4H q4k.1.2) (fun r9 w10 h11 => ?_)
  obtain ⟨rfl, q12f, q12T, q12H, q12k, q12x, q124⟩ := h11
  have f13 : e_fr (kRx cd) w w10 := e_fr.trans f6 (e_fr.mono q12f (fun c k q => by unfold kRa at q; unfold kRx; omega))
  have k14 : w2 1 5 = w 1 5 := ((q4f 1 5 (by unfold kRc; omega)).trans rfl)
  have s15 : gS w2 w10 cd (-1) 1 0 1 0 := gS.adv hcd ((e_Has.get q4T (c := cd) (k := 0) (lo := 0) (hi := 4000) (kD_0 hcd) (by decide)).1) (by omega) q12f q12x (q4k.a1 (by omega))
  have x16 : gS w w10 cd (-1) 1 0 1 0 := gS.trans x8 s15 (by omega)
  show e_Ok 20 elay kcode eI (d + 1) 149 (9, [(1, (0, z5)), (0, (1, 1))], [], w10) _
  refine e_Ok.run (t' := (12, [(1, (0, z5)), (0, (1, 1))], [(0, 13), (1, 1)], w10)) 2 rfl ?_
  refine e_Ok.callV rfl (by omega) rfl rfl rfl rfl (c_129 (by omega) q12T q12H q12k (by omega)) (fun r17 w18 h19 => ?_)
  obtain ⟨rfl, q20f, q20T, q20H, q20k, q20x⟩ := h19
  have f21 : e_fr (kRx cd) w w18 := e_fr.trans f13 (e_fr.mono q20f (fun c k q => by unfold kRk at q; unfold kRx; omega))
  have s22 : gS w10 w18 cd (-1) 1 0 1 0 := gS.acc hcd ((e_Has.get q12T (c := cd) (k := 0) (lo := 0) (hi := 4000) (kD_0 hcd) (by decide)).1) (by omega) q20f q20x (fun g => q12k.a1 (by omega))
  have x23 : gS w w18 cd (-2) 1 0 1 0 := gS.trans x16 s22 (by omega)
  show e_Ok 20 elay kcode eI (d + 1) 149 (15, [(1, (0, z5)), (0, (1, 1))], [], w18) _
  refine e_Ok.run (t' := (16, [(1, (0, z5)), (0, (1, 1))], [(1, 1)], w18)) 1 rfl ?_
  refine e_Ok.callV rfl (by omega) rfl rfl rfl rfl (x_exp (o := o) (by omega) (by omega) w18 cd ⟨q20T, q20H, ((q20f 1 3 (by unfold kRk; omega)).trans ((q12f 1 3 (by unfold kRa; omega)).trans ((q4f 1 3 (by unfold kRc; omega)).trans hc))), hcd, q20k⟩ ((q20f 1 11 (by unfold kRk; omega)).trans ((q12f 1 11 (by unfold kRa; omega)).trans ((q4f 1 11 (by unfold kRc; omega)).trans ho)))) (fun r24 w25 h26 => ?_)
  obtain ⟨rfl, q27f, ⟨q27T, q27H, q27c, -, q27k⟩, q27o, q27x⟩ := h26
  have f28 : e_fr (kRx cd) w w25 := e_fr.trans f21 (e_fr.mono q27f (fun c k q => by exact q))
  have s29 : gS w18 w25 cd 0 1 0 1 0 := gS.ex q27x
  have x30 : gS w w25 cd (-2) 1 0 1 0 := gS.trans x23 s29 (by omega)
  show e_Ok 20 elay kcode eI (d + 1) 149 (19, [(1, (0, z5)), (0, (1, 1))], [], w25) _
  refine e_Ok.run (t' := (22, [(1, (0, z5)), (0, (1, 1))], [(0, 19), (1, 1)], w25)) 2 rfl ?_
  refine e_Ok.callV rfl (by omega) rfl rfl rfl rfl (c_129 (by omega) q27T q27H q27k (by omega)) (fun r31 w32 h33 => ?_)
  obtain ⟨rfl, q34f, q34T, q34H, q34k, q34x⟩ := h33
  have f35 : e_fr (kRx cd) w w32 := e_fr.trans f28 (e_fr.mono q34f (fun c k q => by unfold kRk at q; unfold kRx; omega))
  have s36 : gS w25 w32 cd (-1) 1 0 1 0 := gS.acc hcd ((e_Has.get q27T (c := cd) (k := 0) (lo := 0) (hi := 4000) (kD_0 hcd) (by decide)).1) (by omega) q34f q34x (fun g => q27k.a1 (by omega))
  have x37 : gS w w32 cd (-3) 1 0 1 0 := gS.trans x30 s36 (by omega)
  show e_Ok 20 elay kcode eI (d + 1) 149 (25, [(1, (0, z5)), (0, (1, 1))], [], w32) _
  refine e_Ok.run (t' := (26, [(1, (0, z5)), (0, (1, 1))], [(1, 1)], w32)) 1 rfl ?_
  refine e_Ok.getr (z := cd) rfl (el_o rfl) rfl rfl ((q34f 1 3 (by unfold kRk; omega)).trans ((q27f 1 3 (by unfold kRx; omega)).trans ((q20f 1 3 (by unfold kRk; omega)).trans ((q12f 1 3 (by unfold kRa; omega)).trans ((q4f 1 3 (by unfold kRc; omega)).trans hc))))) (by omega) ?_
  refine e_Ok.run (t' := (32, [(1, (0, z5)), (0, (1, 1))], [(0, z5), (0, 25), (1, cd)], w32)) 2 rfl ?_
  refine e_Ok.callV rfl (by omega) rfl (lD0 hcd) rfl rfl (c_21 q34T hcd (by omega) (by omega)) (fun r38 w40 h41 => ?_)
  obtain ⟨z43, rfl, q42f, q42T, q42x⟩ := h41
  have q42H : e_Has kRy w40 := H_fr q42f (fun c k g => by unfold kEm at g; omega) q34H
  have q42k : tkR w40 := (q34k.fr q42f (fun k g => by unfold kEm; omega))
  have q42z : 0 ≤ z43 ∧ z43 ≤ 4000 := by have g := e_Has.get q34T (c := cd) (k := 0) (lo := 0) (hi := 4000) (kD_0 hcd) (by decide); unfold emQ at q42x; omega
  have f44 : e_fr (kRx cd) w w40 := e_fr.trans f35 (e_fr.mono q42f (fun c k q => by unfold kEm at q; unfold kRx; omega))
  have s45 : gS w32 w40 cd 1 1 0 0 0 := gS.act hcd ((e_Has.get q34T (c := cd) (k := 0) (lo := 0) (hi := 4000) (kD_0 hcd) (by decide)).1) q42f q42x (by omega) (by omega) (by omega) (by omega)
  have x46 : gS w w40 cd (-2) 1 0 0 0 := gS.trans x37 s45 (by omega)
  show e_Ok 20 elay kcode eI (d + 1) 149 (35, [(1, (0, z5)), (0, (1, 1))], [(0, z43)], w40) _
  refine e_Ok.run (t' := (36, [(1, (0, z5)), (0, (1, 1))], [], w40)) 1 rfl ?_
  refine e_Ok.rets rfl rfl ?_
  exact ⟨rfl, (e_fr.mono f44 (fun c k q => by unfold kRx at q; unfold kRt; omega)), ⟨q42T, q42H, ((q42f 1 3 (by unfold kEm; omega)).trans ((q34f 1 3 (by unfold kRk; omega)).trans ((q27f 1 3 (by unfold kRx; omega)).trans ((q20f 1 3 (by unfold kRk; omega)).trans ((q12f 1 3 (by unfold kRa; omega)).trans ((q4f 1 3 (by unfold kRc; omega)).trans hc)))))), hcd, q42k⟩, ⟨(by have g1 : w40 1 11 = o := ((q42f 1 11 (by unfold kEm; omega)).trans ((q34f 1 11 (by unfold kRk; omega)).trans (q27o.trans ((q20f 1 11 (by unfold kRk; omega)).trans ((q12f 1 11 (by unfold kRa; omega)).trans ((q4f 1 11 (by unfold kRc; omega)).trans ho)))))); have g0 : w 1 11 = o := ho; omega), (by have g1 : w40 1 12 = w 1 12 := ((q42f 1 12 (by unfold kEm; omega)).trans ((q34f 1 12 (by unfold kRk; omega)).trans ((q27f 1 12 (by unfold kRx; omega)).trans ((q20f 1 12 (by unfold kRk; omega)).trans ((q12f 1 12 (by unfold kRa; omega)).trans ((q4f 1 12 (by unfold kRc; omega)).trans rfl)))))); have g0 : w 1 12 = w 1 12 := rfl; omega), (by have g1 : w40 1 13 = w 1 13 := ((q42f 1 13 (by unfold kEm; omega)).trans ((q34f 1 13 (by unfold kRk; omega)).trans ((q27f 1 13 (by unfold kRx; omega)).trans ((q20f 1 13 (by unfold kRk; omega)).trans ((q12f 1 13 (by unfold kRa; omega)).trans ((q4f 1 13 (by unfold kRc; omega)).trans rfl)))))); have g0 : w 1 13 = w 1 13 := rfl; omega)⟩, x46.le (by omega)⟩
set_option maxHeartbeats 4000000 in
theorem c_150 {d : Nat} (hd : 281 ≤ d) {w : eW} {cd o : Int} (hS : rS w cd) (ho : w 1 11 = o) (hor : 0 ≤ o ∧ o ≤ 30) (h5 : w 1 5 = 24) : e_Ok 20 elay kcode eI d 150 (0, [(0, (1, 1))], [], w) (fun r w' => r = [] ∧ gQ w w' cd (-1) 1 0) := by
  obtain ⟨d, rfl⟩ : ∃ e, d = e + 1 := ⟨d - 1, by omega⟩
  obtain ⟨hT, hH, hc, hcd, hk⟩ := hS
  have hcd2 := hcd; unfold isCd at hcd2
  have hcd3 : 2 ≤ cd ∧ cd ≤ 145 := by omega
  have pL := e_Has.get hT (c := cd) (k := 0) (lo := 0) (hi := 4000) (kD_0 hcd) (by decide)
  have p1 := e_Has.get hH (c := 1) (k := 1) (lo := (-2147483648)) (hi := 2147483647) rfl (by decide)
  have p5 := e_Has.get hH (c := 1) (k := 5) (lo := 0) (hi := 53) rfl (by decide)
  have p6 := e_Has.get hH (c := 1) (k := 6) (lo := 0) (hi := 4000) rfl (by decide)
  have p9 := e_Has.get hH (c := 1) (k := 9) (lo := (-2147483648)) (hi := 2147483647) rfl (by decide)
  have p7 := e_Has.get hH (c := 1) (k := 7) (lo := 0) (hi := 4000) rfl (by decide)
  have p12 := e_Has.get hH (c := 1) (k := 12) (lo := 0) (hi := 30) rfl (by decide)
  have p13 := e_Has.get hH (c := 1) (k := 13) (lo := (-1)) (hi := 4000) rfl (by decide)
  have x0 : gS w w cd 0 1 0 1 0 := gS.refl pL.1
  refine e_Ok.run (t' := (1, [(0, (1, 1))], [(1, 1)], w)) 1 rfl ?_
  refine e_Ok.callV rfl (by omega) rfl rfl rfl rfl (c_123 (by omega) hT hH hk.1.2) (fun r1 w2 h3 => ?_)
  obtain ⟨rfl, q4f, q4T, q4H, q4k, q4x, q44⟩ := h3
  have f5 : e_fr (kRx cd) w w2 := e_fr.trans (e_fr.refl w) (e_fr.mono q4f (fun c k q => by unfold kRa at q; unfold kRx; omega))
  have s6 : gS w w2 cd (-2) 1 0 1 0 := gS.adv hcd ((e_Has.get hT (c := cd) (k := 0) (lo := 0) (hi := 4000) (kD_0 hcd) (by decide)).1) (by omega) q4f q4x (hk.a2 (by omega))
  have x7 : gS w w2 cd (-2) 1 0 1 0 := gS.trans x0 s6 (by omega)
  show e_Ok 20 elay kcode eI (d + 1) 150 (4, [(0, (1, 1))], [], w2) _
  refine e_Ok.run (t' := (5, [(0, (1, 1))], [(1, 1)], w2)) 1 rfl ?_
  refine e_Ok.callV rfl (by omega) rfl rfl rfl rfl (x_exp (o := o) (by omega) (by omega) w2 cd ⟨q4T, q4H, ((q4f 1 3 (by unfold kRa; omega)).trans hc), hcd, q4k⟩ ((q4f 1 11 (by unfold kRa; omega)).trans ho)) (fun r8 w9 h10 => ?_)
  obtain ⟨rfl, q11f, ⟨q11T, q11H, q11c, -, q11k⟩, q11o, q11x⟩ := h10
  have f12 : e_fr (kRx cd) w w9 := e_fr.trans f5 (e_fr.mono q11f (fun c k q => by exact q))
  have s13 : gS w2 w9 cd 0 1 0 1 0 := gS.ex q11x
  have x14 : gS w w9 cd (-2) 1 0 1 0 := gS.trans x7 s13 (by omega)
  show e_Ok 20 elay kcode eI (d + 1) 150 (8, [(0, (1, 1))], [], w9) _
  refine e_Ok.run (t' := (9, [(0, (1, 1))], [(1, 1)], w9)) 1 rfl ?_
  refine e_Ok.getr (z := cd) rfl (el_o rfl) rfl rfl ((q11f 1 3 (by unfold kRx; omega)).trans ((q4f 1 3 (by unfold kRa; omega)).trans hc)) (by omega) ?_
  refine e_Ok.run (t' := (15, [(0, (1, 1))], [(0, 0), (0, 26), (1, cd)], w9)) 2 rfl ?_
  refine e_Ok.callV rfl (by omega) rfl (lD0 hcd) rfl rfl (c_21 q11T hcd (by omega) (by omega)) (fun r15 w16 h17 => ?_)
  obtain ⟨z19, rfl, q18f, q18T, q18x⟩ := h17
  have q18H : e_Has kRy w16 := H_fr q18f (fun c k g => by unfold kEm at g; omega) q11H
  have q18k : tkR w16 := (q11k.fr q18f (fun k g => by unfold kEm; omega))
  have q18z : 0 ≤ z19 ∧ z19 ≤ 4000 := by have g := e_Has.get q11T (c := cd) (k := 0) (lo := 0) (hi := 4000) (kD_0 hcd) (by decide); unfold emQ at q18x; omega
  have f20 : e_fr (kRx cd) w w16 := e_fr.trans f12 (e_fr.mono q18f (fun c k q => by unfold kEm at q; unfold kRx; omega))
  have s21 : gS w9 w16 cd 1 1 0 1 1 := gS.col hcd ((e_Has.get q11T (c := cd) (k := 0) (lo := 0) (hi := 4000) (kD_0 hcd) (by decide)).1) q18f q18x (by omega)
  have x22 : gS w w16 cd (-1) 1 0 1 1 := gS.trans x14 s21 (by omega)
  show e_Ok 20 elay kcode eI (d + 1) 150 (18, [(0, (1, 1))], [(0, z19)], w16) _
  refine e_Ok.run (t' := (21, [(1, (0, 1)), (0, (1, 1))], [], w16)) 3 rfl ?_
  have hL23 : ∀ (nn : Nat) (y1 : Int) (v1 : eW), e_fr (kRx cd) w v1 ∧ e_Has kTy v1 ∧ e_Has kRy v1 ∧ v1 1 11 = o ∧ tkR v1 ∧ gS w v1 cd (-1) 1 0 1 y1 ∧ ((1 ≤ y1 ∧ y1 ≤ 4000)) → 4001 - y1 < nn → e_Ok 20 elay kcode eI (d + 1) 150 (21, [(0, (1, 1)), (1, (0, y1))], [], v1) (fun r w' => r = [] ∧ gQ w w' cd (-1) 1 0) := by
    intro nn
    induction nn with
    | zero => intro y1 v1 hj hm; obtain ⟨j25, j26, j27, j28, j29, j30, j31⟩ := hj; exfalso; omega
    | succ nn ih24 =>
      intro y1 v1 hj hm
      obtain ⟨j25, j26, j27, j28, j29, j30, j31⟩ := hj
      refine e_Ok.run (t' := (25, [(0, (1, 1)), (1, (0, y1))], [(0, 4000), (0, y1)], v1)) 2 rfl ?_
      refine e_Ok.if2 rfl (fun h32 => ?_) (fun h32 => ?_)
      · replace h32 : (y1 : Int) ≥ 4000 := h32
        refine e_Ok.run (t' := (65, [(0, (1, 1)), (1, (0, y1))], [(0, 19), (1, 1)], v1)) 2 rfl ?_
        refine e_Ok.callV rfl (by omega) rfl rfl rfl rfl (c_129 (by omega) j26 j27 j29 (by omega)) (fun r33 w34 h35 => ?_)
        obtain ⟨rfl, q36f, q36T, q36H, q36k, q36x⟩ := h35
        have f37 : e_fr (kRx cd) w w34 := e_fr.trans j25 (e_fr.mono q36f (fun c k q => by unfold kRk at q; unfold kRx; omega))
        have s38 : gS v1 w34 cd (-1) 1 y1 1 y1 := gS.acc hcd ((e_Has.get j26 (c := cd) (k := 0) (lo := 0) (hi := 4000) (kD_0 hcd) (by decide)).1) (by omega) q36f q36x (fun g => j29.a1 (by omega))
        have x40 : gS w w34 cd (-2) 1 0 1 y1 := gS.trans j30 s38 (by omega)
        show e_Ok 20 elay kcode eI (d + 1) 150 (68, [(0, (1, 1)), (1, (0, y1))], [], w34) _
        refine e_Ok.run (t' := (69, [(0, (1, 1)), (1, (0, y1))], [(1, 1)], w34)) 1 rfl ?_
        refine e_Ok.getr (z := cd) rfl (el_o rfl) rfl rfl ((q36f 1 3 (by unfold kRk; omega)).trans ((j25 1 3 (by unfold kRx; omega)).trans hc)) (by omega) ?_
        refine e_Ok.run (t' := (75, [(0, (1, 1)), (1, (0, y1))], [(0, y1), (0, 27), (1, cd)], w34)) 2 rfl ?_
        refine e_Ok.callV rfl (by omega) rfl (lD0 hcd) rfl rfl (c_21 q36T hcd (by omega) (by omega)) (fun r41 w42 h43 => ?_)
        obtain ⟨z45, rfl, q44f, q44T, q44x⟩ := h43
        have q44H : e_Has kRy w42 := H_fr q44f (fun c k g => by unfold kEm at g; omega) q36H
        have q44k : tkR w42 := (q36k.fr q44f (fun k g => by unfold kEm; omega))
        have q44z : 0 ≤ z45 ∧ z45 ≤ 4000 := by have g := e_Has.get q36T (c := cd) (k := 0) (lo := 0) (hi := 4000) (kD_0 hcd) (by decide); unfold emQ at q44x; omega
        have f46 : e_fr (kRx cd) w w42 := e_fr.trans f37 (e_fr.mono q44f (fun c k q => by unfold kEm at q; unfold kRx; omega))
        have s47 : gS w34 w42 cd 1 1 y1 0 0 := gS.act hcd ((e_Has.get q36T (c := cd) (k := 0) (lo := 0) (hi := 4000) (kD_0 hcd) (by decide)).1) q44f q44x (by omega) (by omega) (by omega) (by omega)
        have x48 : gS w w42 cd (-1) 1 0 0 0 := gS.trans x40 s47 (by omega)
        show e_Ok 20 elay kcode eI (d + 1) 150 (78, [(0, (1, 1)), (1, (0, y1))], [(0, z45)], w42) _
        refine e_Ok.run (t' := (79, [(0, (1, 1)), (1, (0, y1))], [], w42)) 1 rfl ?_
        refine e_Ok.rets rfl rfl ?_
        exact ⟨rfl, (e_fr.mono f46 (fun c k q => by unfold kRx at q; unfold kRt; omega)), ⟨q44T, q44H, ((q44f 1 3 (by unfold kEm; omega)).trans ((q36f 1 3 (by unfold kRk; omega)).trans ((j25 1 3 (by unfold kRx; omega)).trans hc))), hcd, q44k⟩, ⟨(by have g1 : w42 1 11 = o := ((q44f 1 11 (by unfold kEm; omega)).trans ((q36f 1 11 (by unfold kRk; omega)).trans j28)); have g0 : w 1 11 = o := ho; omega), (by have g1 : w42 1 12 = w 1 12 := ((q44f 1 12 (by unfold kEm; omega)).trans ((q36f 1 12 (by unfold kRk; omega)).trans ((j25 1 12 (by unfold kRx; omega)).trans rfl))); have g0 : w 1 12 = w 1 12 := rfl; omega), (by have g1 : w42 1 13 = w 1 13 := ((q44f 1 13 (by unfold kEm; omega)).trans ((q36f 1 13 (by unfold kRk; omega)).trans ((j25 1 13 (by unfold kRx; omega)).trans rfl))); have g0 : w 1 13 = w 1 13 := rfl; omega)⟩, x48.le (by omega)⟩
      · replace h32 : (y1 : Int) < 4000 := by have q : ¬ ((y1 : Int) ≥ 4000) := h32; omega
        refine e_Ok.run (t' := (29, [(0, (1, 1)), (1, (0, y1))], [(1, 1)], v1)) 1 rfl ?_
        have h49 := (e_Has.get j27 (c := 1) (k := 5) (lo := 0) (hi := 53) rfl (by decide))
        refine e_Ok.getf (z := v1 1 5) rfl (el_o rfl) rfl rfl rfl (by omega) ?_
        refine e_Ok.run (t' := (34, [(0, (1, 1)), (1, (0, y1))], [(0, 18), (0, v1 1 5)], v1)) 1 rfl ?_
        refine e_Ok.if2 rfl (fun h50 => ?_) (fun h50 => ?_)
        · replace h50 : (v1 1 5 : Int) ≠ 18 := h50
          refine e_Ok.run (t' := (65, [(0, (1, 1)), (1, (0, y1))], [(0, 19), (1, 1)], v1)) 2 rfl ?_
          refine e_Ok.callV rfl (by omega) rfl rfl rfl rfl (c_129 (by omega) j26 j27 j29 (by omega)) (fun r51 w52 h53 => ?_)
          obtain ⟨rfl, q54f, q54T, q54H, q54k, q54x⟩ := h53
          have f55 : e_fr (kRx cd) w w52 := e_fr.trans j25 (e_fr.mono q54f (fun c k q => by unfold kRk at q; unfold kRx; omega))
          have s56 : gS v1 w52 cd (-1) 1 y1 1 y1 := gS.acc hcd ((e_Has.get j26 (c := cd) (k := 0) (lo := 0) (hi := 4000) (kD_0 hcd) (by decide)).1) (by omega) q54f q54x (fun g => j29.a1 (by omega))
          have x57 : gS w w52 cd (-2) 1 0 1 y1 := gS.trans j30 s56 (by omega)
          show e_Ok 20 elay kcode eI (d + 1) 150 (68, [(0, (1, 1)), (1, (0, y1))], [], w52) _
          refine e_Ok.run (t' := (69, [(0, (1, 1)), (1, (0, y1))], [(1, 1)], w52)) 1 rfl ?_
          refine e_Ok.getr (z := cd) rfl (el_o rfl) rfl rfl ((q54f 1 3 (by unfold kRk; omega)).trans ((j25 1 3 (by unfold kRx; omega)).trans hc)) (by omega) ?_
          refine e_Ok.run (t' := (75, [(0, (1, 1)), (1, (0, y1))], [(0, y1), (0, 27), (1, cd)], w52)) 2 rfl ?_
          refine e_Ok.callV rfl (by omega) rfl (lD0 hcd) rfl rfl (c_21 q54T hcd (by omega) (by omega)) (fun r58 w59 h60 => ?_)
          obtain ⟨z62, rfl, q61f, q61T, q61x⟩ := h60
          have q61H : e_Has kRy w59 := H_fr q61f (fun c k g => by unfold kEm at g; omega) q54H
          have q61k : tkR w59 := (q54k.fr q61f (fun k g => by unfold kEm; omega))
          have q61z : 0 ≤ z62 ∧ z62 ≤ 4000 := by have g := e_Has.get q54T (c := cd) (k := 0) (lo := 0) (hi := 4000) (kD_0 hcd) (by decide); unfold emQ at q61x; omega
          have f63 : e_fr (kRx cd) w w59 := e_fr.trans f55 (e_fr.mono q61f (fun c k q => by unfold kEm at q; unfold kRx; omega))
          have s64 : gS w52 w59 cd 1 1 y1 0 0 := gS.act hcd ((e_Has.get q54T (c := cd) (k := 0) (lo := 0) (hi := 4000) (kD_0 hcd) (by decide)).1) q61f q61x (by omega) (by omega) (by omega) (by omega)
          have x65 : gS w w59 cd (-1) 1 0 0 0 := gS.trans x57 s64 (by omega)
          show e_Ok 20 elay kcode eI (d + 1) 150 (78, [(0, (1, 1)), (1, (0, y1))], [(0, z62)], w59) _
          refine e_Ok.run (t' := (79, [(0, (1, 1)), (1, (0, y1))], [], w59)) 1 rfl ?_
          refine e_Ok.rets rfl rfl ?_
          exact ⟨rfl, (e_fr.mono f63 (fun c k q => by unfold kRx at q; unfold kRt; omega)), ⟨q61T, q61H, ((q61f 1 3 (by unfold kEm; omega)).trans ((q54f 1 3 (by unfold kRk; omega)).trans ((j25 1 3 (by unfold kRx; omega)).trans hc))), hcd, q61k⟩, ⟨(by have g1 : w59 1 11 = o := ((q61f 1 11 (by unfold kEm; omega)).trans ((q54f 1 11 (by unfold kRk; omega)).trans j28)); have g0 : w 1 11 = o := ho; omega), (by have g1 : w59 1 12 = w 1 12 := ((q61f 1 12 (by unfold kEm; omega)).trans ((q54f 1 12 (by unfold kRk; omega)).trans ((j25 1 12 (by unfold kRx; omega)).trans rfl))); have g0 : w 1 12 = w 1 12 := rfl; omega), (by have g1 : w59 1 13 = w 1 13 := ((q61f 1 13 (by unfold kEm; omega)).trans ((q54f 1 13 (by unfold kRk; omega)).trans ((j25 1 13 (by unfold kRx; omega)).trans rfl))); have g0 : w 1 13 = w 1 13 := rfl; omega)⟩, x65.le (by omega)⟩
        · replace h50 : (v1 1 5 : Int) = 18 := by have q : ¬ ((v1 1 5 : Int) ≠ 18) := h50; omega
          refine e_Ok.run (t' := (38, [(0, (1, 1)), (1, (0, y1))], [(1, 1)], v1)) 1 rfl ?_
          refine e_Ok.callV rfl (by omega) rfl rfl rfl rfl (c_123 (by omega) j26 j27 j29.1.2) (fun r66 w67 h68 => ?_)
          obtain ⟨rfl, q69f, q69T, q69H, q69k, q69x, q694⟩ := h68
          have f70 : e_fr (kRx cd) w w67 := e_fr.trans j25 (e_fr.mono q69f (fun c k q => by unfold kRa at q; unfold kRx; omega))
          have s71 : gS v1 w67 cd (-1) 1 y1 1 y1 := gS.adv hcd ((e_Has.get j26 (c := cd) (k := 0) (lo := 0) (hi := 4000) (kD_0 hcd) (by decide)).1) (by omega) q69f q69x (j29.a1 (by omega))
          have x72 : gS w w67 cd (-2) 1 0 1 y1 := gS.trans j30 s71 (by omega)
          show e_Ok 20 elay kcode eI (d + 1) 150 (41, [(0, (1, 1)), (1, (0, y1))], [], w67) _
          refine e_Ok.run (t' := (42, [(0, (1, 1)), (1, (0, y1))], [(1, 1)], w67)) 1 rfl ?_
          refine e_Ok.callV rfl (by omega) rfl rfl rfl rfl (x_exp (o := o) (by omega) (by omega) w67 cd ⟨q69T, q69H, ((q69f 1 3 (by unfold kRa; omega)).trans ((j25 1 3 (by unfold kRx; omega)).trans hc)), hcd, q69k⟩ ((q69f 1 11 (by unfold kRa; omega)).trans j28)) (fun r73 w74 h75 => ?_)
          obtain ⟨rfl, q76f, ⟨q76T, q76H, q76c, -, q76k⟩, q76o, q76x⟩ := h75
          have f77 : e_fr (kRx cd) w w74 := e_fr.trans f70 (e_fr.mono q76f (fun c k q => by exact q))
          have s78 : gS w67 w74 cd 0 1 y1 1 y1 := gS.ex q76x
          have x79 : gS w w74 cd (-2) 1 0 1 y1 := gS.trans x72 s78 (by omega)
          show e_Ok 20 elay kcode eI (d + 1) 150 (45, [(0, (1, 1)), (1, (0, y1))], [], w74) _
          refine e_Ok.run (t' := (46, [(0, (1, 1)), (1, (0, y1))], [(1, 1)], w74)) 1 rfl ?_
          refine e_Ok.getr (z := cd) rfl (el_o rfl) rfl rfl ((q76f 1 3 (by unfold kRx; omega)).trans ((q69f 1 3 (by unfold kRa; omega)).trans ((j25 1 3 (by unfold kRx; omega)).trans hc))) (by omega) ?_
          refine e_Ok.run (t' := (52, [(0, (1, 1)), (1, (0, y1))], [(0, y1), (0, 26), (1, cd)], w74)) 2 rfl ?_
          refine e_Ok.callV rfl (by omega) rfl (lD0 hcd) rfl rfl (c_21 q76T hcd (by omega) (by omega)) (fun r80 w81 h82 => ?_)
          obtain ⟨z84, rfl, q83f, q83T, q83x⟩ := h82
          have q83H : e_Has kRy w81 := H_fr q83f (fun c k g => by unfold kEm at g; omega) q76H
          have q83k : tkR w81 := (q76k.fr q83f (fun k g => by unfold kEm; omega))
          have q83z : 0 ≤ z84 ∧ z84 ≤ 4000 := by have g := e_Has.get q76T (c := cd) (k := 0) (lo := 0) (hi := 4000) (kD_0 hcd) (by decide); unfold emQ at q83x; omega
          have f85 : e_fr (kRx cd) w w81 := e_fr.trans f77 (e_fr.mono q83f (fun c k q => by unfold kEm at q; unfold kRx; omega))
          have s86 : gS w74 w81 cd 1 1 y1 1 (y1 + 1) := gS.col hcd ((e_Has.get q76T (c := cd) (k := 0) (lo := 0) (hi := 4000) (kD_0 hcd) (by decide)).1) q83f q83x (by omega)
          have x87 : gS w w81 cd (-1) 1 0 1 (y1 + 1) := gS.trans x79 s86 (by omega)
          show e_Ok 20 elay kcode eI (d + 1) 150 (55, [(0, (1, 1)), (1, (0, y1))], [(0, z84)], w81) _
          refine e_Ok.run (t' := (56, [(0, (1, 1)), (1, (0, y1))], [], w81)) 1 rfl ?_
          refine e_Ok.inc (z := y1 + 1) rfl rfl (by omega) (by omega) ?_
          show e_Ok 20 elay kcode eI (d + 1) 150 (59, [(1, (0, y1 + 1)), (0, (1, 1))], [], w81) _
          refine e_Ok.run (t' := (21, [(1, (0, y1 + 1)), (0, (1, 1))], [], w81)) 1 rfl ?_
          refine e_Ok.sub kAlk (e_sub_of rfl ?_) (ih24 (y1 + 1) w81 ⟨f85, q83T, q83H, ((q83f 1 11 (by unfold kEm; omega)).trans (q76o.trans ((q69f 1 11 (by unfold kRa; omega)).trans j28))), q83k, (x87.le (by omega)), (by omega)⟩ (by omega))
          exact ⟨rfl, rfl, trivial⟩
  refine e_Ok.sub kAlk (e_sub_of rfl ?_) (hL23 (4001 + 1 : Int).toNat 1 w16 ⟨f20, q18T, q18H, ((q18f 1 11 (by unfold kEm; omega)).trans (q11o.trans ((q4f 1 11 (by unfold kRa; omega)).trans ho))), q18k, (x22.le (by omega)), (by omega)⟩ (by omega))
  exact ⟨rfl, rfl, trivial⟩
set_option maxHeartbeats 4000000 in
theorem c_151 {d : Nat} (hd : 281 ≤ d) {w : eW} {cd o : Int} (hS : rS w cd) (ho : w 1 11 = o) (hor : 0 ≤ o ∧ o ≤ 30) (h5 : w 1 5 = 27) : e_Ok 20 elay kcode eI d 151 (0, [(0, (1, 1))], [], w) (fun r w' => r = [] ∧ gQ w w' cd (-1) 1 0) := by
  obtain ⟨d, rfl⟩ : ∃ e, d = e + 1 := ⟨d - 1, by omega⟩
  obtain ⟨hT, hH, hc, hcd, hk⟩ := hS
  have hcd2 := hcd; unfold isCd at hcd2
  have hcd3 : 2 ≤ cd ∧ cd ≤ 145 := by omega
  have pL := e_Has.get hT (c := cd) (k := 0) (lo := 0) (hi := 4000) (kD_0 hcd) (by decide)
  have p1 := e_Has.get hH (c := 1) (k := 1) (lo := (-2147483648)) (hi := 2147483647) rfl (by decide)
  have p5 := e_Has.get hH (c := 1) (k := 5) (lo := 0) (hi := 53) rfl (by decide)
  have p6 := e_Has.get hH (c := 1) (k := 6) (lo := 0) (hi := 4000) rfl (by decide)
  have p9 := e_Has.get hH (c := 1) (k := 9) (lo := (-2147483648)) (hi := 2147483647) rfl (by decide)
  have p7 := e_Has.get hH (c := 1) (k := 7) (lo := 0) (hi := 4000) rfl (by decide)
  have p12 := e_Has.get hH (c := 1) (k := 12) (lo := 0) (hi := 30) rfl (by decide)
  have p13 := e_Has.get hH (c := 1) (k := 13) (lo := (-1)) (hi := 4000) rfl (by decide)
  have x0 : gS w w cd 0 1 0 1 0 := gS.refl pL.1
  refine e_Ok.run (t' := (1, [(0, (1, 1))], [(1, 1)], w)) 1 rfl ?_
  refine e_Ok.callV rfl (by omega) rfl rfl rfl rfl (c_123 (by omega) hT hH hk.1.2) (fun r1 w2 h3 => ?_)
  obtain ⟨rfl, q4f, q4T, q4H, q4k, q4x, q44⟩ := h3
  have f5 : e_fr (kRx cd) w w2 := e_fr.trans (e_fr.refl w) (e_fr.mono q4f (fun c k q => by unfold kRa at q; unfold kRx; omega))
  have s6 : gS w w2 cd (-2) 1 0 1 0 := gS.adv hcd ((e_Has.get hT (c := cd) (k := 0) (lo := 0) (hi := 4000) (kD_0 hcd) (by decide)).1) (by omega) q4f q4x (hk.a2 (by omega))
  have x7 : gS w w2 cd (-2) 1 0 1 0 := gS.trans x0 s6 (by omega)
  show e_Ok 20 elay kcode eI (d + 1) 151 (4, [(0, (1, 1))], [], w2) _
  refine e_Ok.run (t' := (5, [(0, (1, 1))], [(1, 1)], w2)) 1 rfl ?_
  refine e_Ok.callV rfl (by omega) rfl rfl rfl rfl (x_exp (o := o) (by omega) (by omega) w2 cd ⟨q4T, q4H, ((q4f 1 3 (by unfold kRa; omega)).trans hc), hcd, q4k⟩ ((q4f 1 11 (by unfold kRa; omega)).trans ho)) (fun r8 w9 h10 => ?_)
  obtain ⟨rfl, q11f, ⟨q11T, q11H, q11c, -, q11k⟩, q11o, q11x⟩ := h10
  have f12 : e_fr (kRx cd) w w9 := e_fr.trans f5 (e_fr.mono q11f (fun c k q => by exact q))
  have s13 : gS w2 w9 cd 0 1 0 1 0 := gS.ex q11x
  have x14 : gS w w9 cd (-2) 1 0 1 0 := gS.trans x7 s13 (by omega)
  show e_Ok 20 elay kcode eI (d + 1) 151 (8, [(0, (1, 1))], [], w9) _
  refine e_Ok.run (t' := (11, [(0, (1, 1))], [(0, 18), (1, 1)], w9)) 2 rfl ?_
  refine e_Ok.callV rfl (by omega) rfl rfl rfl rfl (c_129 (by omega) q11T q11H q11k (by omega)) (fun r15 w16 h17 => ?_)
  obtain ⟨rfl, q18f, q18T, q18H, q18k, q18x⟩ := h17
  have f19 : e_fr (kRx cd) w w16 := e_fr.trans f12 (e_fr.mono q18f (fun c k q => by unfold kRk at q; unfold kRx; omega))
  have s20 : gS w9 w16 cd (-1) 1 0 1 0 := gS.acc hcd ((e_Has.get q11T (c := cd) (k := 0) (lo := 0) (hi := 4000) (kD_0 hcd) (by decide)).1) (by omega) q18f q18x (fun g => q11k.a1 (by omega))
  have x21 : gS w w16 cd (-3) 1 0 1 0 := gS.trans x14 s20 (by omega)
  show e_Ok 20 elay kcode eI (d + 1) 151 (14, [(0, (1, 1))], [], w16) _
  refine e_Ok.run (t' := (15, [(0, (1, 1))], [(1, 1)], w16)) 1 rfl ?_
  refine e_Ok.callV rfl (by omega) rfl rfl rfl rfl (x_exp (o := o) (by omega) (by omega) w16 cd ⟨q18T, q18H, ((q18f 1 3 (by unfold kRk; omega)).trans ((q11f 1 3 (by unfold kRx; omega)).trans ((q4f 1 3 (by unfold kRa; omega)).trans hc))), hcd, q18k⟩ ((q18f 1 11 (by unfold kRk; omega)).trans (q11o.trans ((q4f 1 11 (by unfold kRa; omega)).trans ho)))) (fun r22 w23 h24 => ?_)
  obtain ⟨rfl, q25f, ⟨q25T, q25H, q25c, -, q25k⟩, q25o, q25x⟩ := h24
  have f26 : e_fr (kRx cd) w w23 := e_fr.trans f19 (e_fr.mono q25f (fun c k q => by exact q))
  have s27 : gS w16 w23 cd 0 1 0 1 0 := gS.ex q25x
  have x28 : gS w w23 cd (-3) 1 0 1 0 := gS.trans x21 s27 (by omega)
  show e_Ok 20 elay kcode eI (d + 1) 151 (18, [(0, (1, 1))], [], w23) _
  refine e_Ok.run (t' := (21, [(0, (1, 1))], [(0, 19), (1, 1)], w23)) 2 rfl ?_
  refine e_Ok.callV rfl (by omega) rfl rfl rfl rfl (c_129 (by omega) q25T q25H q25k (by omega)) (fun r29 w30 h31 => ?_)
  obtain ⟨rfl, q32f, q32T, q32H, q32k, q32x⟩ := h31
  have f33 : e_fr (kRx cd) w w30 := e_fr.trans f26 (e_fr.mono q32f (fun c k q => by unfold kRk at q; unfold kRx; omega))
  have s34 : gS w23 w30 cd (-1) 1 0 1 0 := gS.acc hcd ((e_Has.get q25T (c := cd) (k := 0) (lo := 0) (hi := 4000) (kD_0 hcd) (by decide)).1) (by omega) q32f q32x (fun g => q25k.a1 (by omega))
  have x35 : gS w w30 cd (-4) 1 0 1 0 := gS.trans x28 s34 (by omega)
  show e_Ok 20 elay kcode eI (d + 1) 151 (24, [(0, (1, 1))], [], w30) _
  refine e_Ok.run (t' := (25, [(0, (1, 1))], [(1, 1)], w30)) 1 rfl ?_
  refine e_Ok.getr (z := cd) rfl (el_o rfl) rfl rfl ((q32f 1 3 (by unfold kRk; omega)).trans ((q25f 1 3 (by unfold kRx; omega)).trans ((q18f 1 3 (by unfold kRk; omega)).trans ((q11f 1 3 (by unfold kRx; omega)).trans ((q4f 1 3 (by unfold kRa; omega)).trans hc))))) (by omega) ?_
  refine e_Ok.run (t' := (31, [(0, (1, 1))], [(0, 0), (0, 30), (1, cd)], w30)) 2 rfl ?_
  refine e_Ok.callV rfl (by omega) rfl (lD0 hcd) rfl rfl (c_21 q32T hcd (by omega) (by omega)) (fun r36 w37 h38 => ?_)
  obtain ⟨z41, rfl, q40f, q40T, q40x⟩ := h38
  have q40H : e_Has kRy w37 := H_fr q40f (fun c k g => by unfold kEm at g; omega) q32H
  have q40k : tkR w37 := (q32k.fr q40f (fun k g => by unfold kEm; omega))
  have q40z : 0 ≤ z41 ∧ z41 ≤ 4000 := by have g := e_Has.get q32T (c := cd) (k := 0) (lo := 0) (hi := 4000) (kD_0 hcd) (by decide); unfold emQ at q40x; omega
  have f42 : e_fr (kRx cd) w w37 := e_fr.trans f33 (e_fr.mono q40f (fun c k q => by unfold kEm at q; unfold kRx; omega))
  have s43 : gS w30 w37 cd 1 1 0 0 0 := gS.act hcd ((e_Has.get q32T (c := cd) (k := 0) (lo := 0) (hi := 4000) (kD_0 hcd) (by decide)).1) q40f q40x (by omega) (by omega) (by omega) (by omega)
  have x44 : gS w w37 cd (-3) 1 0 0 0 := gS.trans x35 s43 (by omega)
  show e_Ok 20 elay kcode eI (d + 1) 151 (34, [(0, (1, 1))], [(0, z41)], w37) _
  refine e_Ok.run (t' := (35, [(0, (1, 1))], [], w37)) 1 rfl ?_
  refine e_Ok.rets rfl rfl ?_
  exact ⟨rfl, (e_fr.mono f42 (fun c k q => by unfold kRx at q; unfold kRt; omega)), ⟨q40T, q40H, ((q40f 1 3 (by unfold kEm; omega)).trans ((q32f 1 3 (by unfold kRk; omega)).trans ((q25f 1 3 (by unfold kRx; omega)).trans ((q18f 1 3 (by unfold kRk; omega)).trans ((q11f 1 3 (by unfold kRx; omega)).trans ((q4f 1 3 (by unfold kRa; omega)).trans hc)))))), hcd, q40k⟩, ⟨(by have g1 : w37 1 11 = o := ((q40f 1 11 (by unfold kEm; omega)).trans ((q32f 1 11 (by unfold kRk; omega)).trans (q25o.trans ((q18f 1 11 (by unfold kRk; omega)).trans (q11o.trans ((q4f 1 11 (by unfold kRa; omega)).trans ho)))))); have g0 : w 1 11 = o := ho; omega), (by have g1 : w37 1 12 = w 1 12 := ((q40f 1 12 (by unfold kEm; omega)).trans ((q32f 1 12 (by unfold kRk; omega)).trans ((q25f 1 12 (by unfold kRx; omega)).trans ((q18f 1 12 (by unfold kRk; omega)).trans ((q11f 1 12 (by unfold kRx; omega)).trans ((q4f 1 12 (by unfold kRa; omega)).trans rfl)))))); have g0 : w 1 12 = w 1 12 := rfl; omega), (by have g1 : w37 1 13 = w 1 13 := ((q40f 1 13 (by unfold kEm; omega)).trans ((q32f 1 13 (by unfold kRk; omega)).trans ((q25f 1 13 (by unfold kRx; omega)).trans ((q18f 1 13 (by unfold kRk; omega)).trans ((q11f 1 13 (by unfold kRx; omega)).trans ((q4f 1 13 (by unfold kRa; omega)).trans rfl)))))); have g0 : w 1 13 = w 1 13 := rfl; omega)⟩, x44.le (by omega)⟩
set_option maxHeartbeats 4000000 in
theorem c_152 {d : Nat} (hd : 281 ≤ d) {w : eW} {cd o : Int} (hS : rS w cd) (ho : w 1 11 = o) (hor : 0 ≤ o ∧ o ≤ 30) (h5 : w 1 5 = 36) : e_Ok 20 elay kcode eI d 152 (0, [(0, (1, 1))], [], w) (fun r w' => r = [] ∧ gQ w w' cd (-1) 1 0) := by
  obtain ⟨d, rfl⟩ : ∃ e, d = e + 1 := ⟨d - 1, by omega⟩
  obtain ⟨hT, hH, hc, hcd, hk⟩ := hS
  have hcd2 := hcd; unfold isCd at hcd2
  have hcd3 : 2 ≤ cd ∧ cd ≤ 145 := by omega
  have pL := e_Has.get hT (c := cd) (k := 0) (lo := 0) (hi := 4000) (kD_0 hcd) (by decide)
  have p1 := e_Has.get hH (c := 1) (k := 1) (lo := (-2147483648)) (hi := 2147483647) rfl (by decide)
  have p5 := e_Has.get hH (c := 1) (k := 5) (lo := 0) (hi := 53) rfl (by decide)
  have p6 := e_Has.get hH (c := 1) (k := 6) (lo := 0) (hi := 4000) rfl (by decide)
  have p9 := e_Has.get hH (c := 1) (k := 9) (lo := (-2147483648)) (hi := 2147483647) rfl (by decide)
  have p7 := e_Has.get hH (c := 1) (k := 7) (lo := 0) (hi := 4000) rfl (by decide)
  have p12 := e_Has.get hH (c := 1) (k := 12) (lo := 0) (hi := 30) rfl (by decide)
  have p13 := e_Has.get hH (c := 1) (k := 13) (lo := (-1)) (hi := 4000) rfl (by decide)
  have x0 : gS w w cd 0 1 0 1 0 := gS.refl pL.1
  refine e_Ok.run (t' := (1, [(0, (1, 1))], [(1, 1)], w)) 1 rfl ?_
  refine e_Ok.callV rfl (by omega) rfl rfl rfl rfl (c_123 (by omega) hT hH hk.1.2) (fun r1 w2 h3 => ?_)
  obtain ⟨rfl, q4f, q4T, q4H, q4k, q4x, q44⟩ := h3
  have f5 : e_fr (kRx cd) w w2 := e_fr.trans (e_fr.refl w) (e_fr.mono q4f (fun c k q => by unfold kRa at q; unfold kRx; omega))
  have s6 : gS w w2 cd (-2) 1 0 1 0 := gS.adv hcd ((e_Has.get hT (c := cd) (k := 0) (lo := 0) (hi := 4000) (kD_0 hcd) (by decide)).1) (by omega) q4f q4x (hk.a2 (by omega))
  have x7 : gS w w2 cd (-2) 1 0 1 0 := gS.trans x0 s6 (by omega)
  show e_Ok 20 elay kcode eI (d + 1) 152 (4, [(0, (1, 1))], [], w2) _
  refine e_Ok.run (t' := (5, [(0, (1, 1))], [(1, 1)], w2)) 1 rfl ?_
  refine e_Ok.callV rfl (by omega) rfl rfl rfl rfl (x_exp (o := o) (by omega) (by omega) w2 cd ⟨q4T, q4H, ((q4f 1 3 (by unfold kRa; omega)).trans hc), hcd, q4k⟩ ((q4f 1 11 (by unfold kRa; omega)).trans ho)) (fun r8 w9 h10 => ?_)
  obtain ⟨rfl, q11f, ⟨q11T, q11H, q11c, -, q11k⟩, q11o, q11x⟩ := h10
  have f12 : e_fr (kRx cd) w w9 := e_fr.trans f5 (e_fr.mono q11f (fun c k q => by exact q))
  have s13 : gS w2 w9 cd 0 1 0 1 0 := gS.ex q11x
  have x14 : gS w w9 cd (-2) 1 0 1 0 := gS.trans x7 s13 (by omega)
  show e_Ok 20 elay kcode eI (d + 1) 152 (8, [(0, (1, 1))], [], w9) _
  refine e_Ok.run (t' := (11, [(0, (1, 1))], [(0, 18), (1, 1)], w9)) 2 rfl ?_
  refine e_Ok.callV rfl (by omega) rfl rfl rfl rfl (c_129 (by omega) q11T q11H q11k (by omega)) (fun r15 w16 h17 => ?_)
  obtain ⟨rfl, q18f, q18T, q18H, q18k, q18x⟩ := h17
  have f19 : e_fr (kRx cd) w w16 := e_fr.trans f12 (e_fr.mono q18f (fun c k q => by unfold kRk at q; unfold kRx; omega))
  have s20 : gS w9 w16 cd (-1) 1 0 1 0 := gS.acc hcd ((e_Has.get q11T (c := cd) (k := 0) (lo := 0) (hi := 4000) (kD_0 hcd) (by decide)).1) (by omega) q18f q18x (fun g => q11k.a1 (by omega))
  have x21 : gS w w16 cd (-3) 1 0 1 0 := gS.trans x14 s20 (by omega)
  show e_Ok 20 elay kcode eI (d + 1) 152 (14, [(0, (1, 1))], [], w16) _
  refine e_Ok.run (t' := (15, [(0, (1, 1))], [(1, 1)], w16)) 1 rfl ?_
  have h22 := (e_Has.get q18H (c := 1) (k := 6) (lo := 0) (hi := 4000) rfl (by decide))
  refine e_Ok.getf (z := w16 1 6) rfl (el_o rfl) rfl rfl rfl (by omega) ?_
  refine e_Ok.run (t' := (21, [(1, (0, w16 1 6)), (0, (1, 1))], [(0, 1), (1, 1)], w16)) 3 rfl ?_
  refine e_Ok.callV rfl (by omega) rfl rfl rfl rfl (c_129 (by omega) q18T q18H q18k (by omega)) (fun r23 w24 h25 => ?_)
  obtain ⟨rfl, q26f, q26T, q26H, q26k, q26x⟩ := h25
  have f27 : e_fr (kRx cd) w w24 := e_fr.trans f19 (e_fr.mono q26f (fun c k q => by unfold kRk at q; unfold kRx; omega))
  have s28 : gS w16 w24 cd (-1) 1 0 1 0 := gS.acc hcd ((e_Has.get q18T (c := cd) (k := 0) (lo := 0) (hi := 4000) (kD_0 hcd) (by decide)).1) (by omega) q26f q26x (fun g => q18k.a1 (by omega))
  have x29 : gS w w24 cd (-4) 1 0 1 0 := gS.trans x21 s28 (by omega)
  show e_Ok 20 elay kcode eI (d + 1) 152 (24, [(1, (0, w16 1 6)), (0, (1, 1))], [], w24) _
  refine e_Ok.run (t' := (27, [(1, (0, w16 1 6)), (0, (1, 1))], [(0, 19), (1, 1)], w24)) 2 rfl ?_
  refine e_Ok.callV rfl (by omega) rfl rfl rfl rfl (c_129 (by omega) q26T q26H q26k (by omega)) (fun r30 w31 h32 => ?_)
  obtain ⟨rfl, q33f, q33T, q33H, q33k, q33x⟩ := h32
  have f34 : e_fr (kRx cd) w w31 := e_fr.trans f27 (e_fr.mono q33f (fun c k q => by unfold kRk at q; unfold kRx; omega))
  have s35 : gS w24 w31 cd (-1) 1 0 1 0 := gS.acc hcd ((e_Has.get q26T (c := cd) (k := 0) (lo := 0) (hi := 4000) (kD_0 hcd) (by decide)).1) (by omega) q33f q33x (fun g => q26k.a1 (by omega))
  have x36 : gS w w31 cd (-5) 1 0 1 0 := gS.trans x29 s35 (by omega)
  show e_Ok 20 elay kcode eI (d + 1) 152 (30, [(1, (0, w16 1 6)), (0, (1, 1))], [], w31) _
  refine e_Ok.run (t' := (31, [(1, (0, w16 1 6)), (0, (1, 1))], [(1, 1)], w31)) 1 rfl ?_
  refine e_Ok.getr (z := cd) rfl (el_o rfl) rfl rfl ((q33f 1 3 (by unfold kRk; omega)).trans ((q26f 1 3 (by unfold kRk; omega)).trans ((q18f 1 3 (by unfold kRk; omega)).trans ((q11f 1 3 (by unfold kRx; omega)).trans ((q4f 1 3 (by unfold kRa; omega)).trans hc))))) (by omega) ?_
  refine e_Ok.run (t' := (37, [(1, (0, w16 1 6)), (0, (1, 1))], [(0, w16 1 6), (0, 39), (1, cd)], w31)) 2 rfl ?_
  refine e_Ok.callV rfl (by omega) rfl (lD0 hcd) rfl rfl (c_21 q33T hcd (by omega) (by omega)) (fun r37 w38 h40 => ?_)
  obtain ⟨z42, rfl, q41f, q41T, q41x⟩ := h40
  have q41H : e_Has kRy w38 := H_fr q41f (fun c k g => by unfold kEm at g; omega) q33H
  have q41k : tkR w38 := (q33k.fr q41f (fun k g => by unfold kEm; omega))
  have q41z : 0 ≤ z42 ∧ z42 ≤ 4000 := by have g := e_Has.get q33T (c := cd) (k := 0) (lo := 0) (hi := 4000) (kD_0 hcd) (by decide); unfold emQ at q41x; omega
  have f43 : e_fr (kRx cd) w w38 := e_fr.trans f34 (e_fr.mono q41f (fun c k q => by unfold kEm at q; unfold kRx; omega))
  have s44 : gS w31 w38 cd 1 1 0 0 0 := gS.act hcd ((e_Has.get q33T (c := cd) (k := 0) (lo := 0) (hi := 4000) (kD_0 hcd) (by decide)).1) q41f q41x (by omega) (by omega) (by omega) (by omega)
  have x45 : gS w w38 cd (-4) 1 0 0 0 := gS.trans x36 s44 (by omega)
  show e_Ok 20 elay kcode eI (d + 1) 152 (40, [(1, (0, w16 1 6)), (0, (1, 1))], [(0, z42)], w38) _
  refine e_Ok.run (t' := (41, [(1, (0, w16 1 6)), (0, (1, 1))], [], w38)) 1 rfl ?_
  refine e_Ok.rets rfl rfl ?_
  exact ⟨rfl, (e_fr.mono f43 (fun c k q => by unfold kRx at q; unfold kRt; omega)), ⟨q41T, q41H, ((q41f 1 3 (by unfold kEm; omega)).trans ((q33f 1 3 (by unfold kRk; omega)).trans ((q26f 1 3 (by unfold kRk; omega)).trans ((q18f 1 3 (by unfold kRk; omega)).trans ((q11f 1 3 (by unfold kRx; omega)).trans ((q4f 1 3 (by unfold kRa; omega)).trans hc)))))), hcd, q41k⟩, ⟨(by have g1 : w38 1 11 = o := ((q41f 1 11 (by unfold kEm; omega)).trans ((q33f 1 11 (by unfold kRk; omega)).trans ((q26f 1 11 (by unfold kRk; omega)).trans ((q18f 1 11 (by unfold kRk; omega)).trans (q11o.trans ((q4f 1 11 (by unfold kRa; omega)).trans ho)))))); have g0 : w 1 11 = o := ho; omega), (by have g1 : w38 1 12 = w 1 12 := ((q41f 1 12 (by unfold kEm; omega)).trans ((q33f 1 12 (by unfold kRk; omega)).trans ((q26f 1 12 (by unfold kRk; omega)).trans ((q18f 1 12 (by unfold kRk; omega)).trans ((q11f 1 12 (by unfold kRx; omega)).trans ((q4f 1 12 (by unfold kRa; omega)).trans rfl)))))); have g0 : w 1 12 = w 1 12 := rfl; omega), (by have g1 : w38 1 13 = w 1 13 := ((q41f 1 13 (by unfold kEm; omega)).trans ((q33f 1 13 (by unfold kRk; omega)).trans ((q26f 1 13 (by unfold kRk; omega)).trans ((q18f 1 13 (by unfold kRk; omega)).trans ((q11f 1 13 (by unfold kRx; omega)).trans ((q4f 1 13 (by unfold kRa; omega)).trans rfl)))))); have g0 : w 1 13 = w 1 13 := rfl; omega)⟩, x45.le (by omega)⟩
set_option maxHeartbeats 4000000 in
theorem c_153 {d : Nat} (hd : 281 ≤ d) {w : eW} {cd o : Int} (hS : rS w cd) (ho : w 1 11 = o) (hor : 0 ≤ o ∧ o ≤ 30) {t lp : Int} (ht : w 1 12 = t) (htr : 0 ≤ t ∧ t ≤ o) (hlp : w 1 13 = lp) (hlk : lpK w cd lp) (h5 : w 1 5 = 38) : e_Ok 20 elay kcode eI d 153 (0, [(0, (1, 1))], [], w) (fun r w' => r = [] ∧ gQ w w' cd (-1) 1 0) := by
  obtain ⟨d, rfl⟩ : ∃ e, d = e + 1 := ⟨d - 1, by omega⟩
  obtain ⟨hT, hH, hc, hcd, hk⟩ := hS
  have hcd2 := hcd; unfold isCd at hcd2
  have hcd3 : 2 ≤ cd ∧ cd ≤ 145 := by omega
  have pL := e_Has.get hT (c := cd) (k := 0) (lo := 0) (hi := 4000) (kD_0 hcd) (by decide)
  have p1 := e_Has.get hH (c := 1) (k := 1) (lo := (-2147483648)) (hi := 2147483647) rfl (by decide)
  have p5 := e_Has.get hH (c := 1) (k := 5) (lo := 0) (hi := 53) rfl (by decide)
  have p6 := e_Has.get hH (c := 1) (k := 6) (lo := 0) (hi := 4000) rfl (by decide)
  have p9 := e_Has.get hH (c := 1) (k := 9) (lo := (-2147483648)) (hi := 2147483647) rfl (by decide)
  have p7 := e_Has.get hH (c := 1) (k := 7) (lo := 0) (hi := 4000) rfl (by decide)
  have p12 := e_Has.get hH (c := 1) (k := 12) (lo := 0) (hi := 30) rfl (by decide)
  have p13 := e_Has.get hH (c := 1) (k := 13) (lo := (-1)) (hi := 4000) rfl (by decide)
  have x0 : gS w w cd 0 1 0 1 0 := gS.refl pL.1
  refine e_Ok.run (t' := (1, [(0, (1, 1))], [(1, 1)], w)) 1 rfl ?_
  refine e_Ok.getf (z := lp) rfl (el_o rfl) rfl rfl hlp (by omega) ?_
  refine e_Ok.if1 rfl (fun h1 => ?_) (fun h1 => ?_)
  · replace h1 : (lp : Int) ≥ 0 := h1
    refine e_Ok.run (t' := (18, [(0, (1, 1))], [(1, 1)], w)) 1 rfl ?_
    refine e_Ok.callV rfl (by omega) rfl rfl rfl rfl (c_123 (by omega) hT hH hk.1.2) (fun r2 w3 h4 => ?_)
    obtain ⟨rfl, q5f, q5T, q5H, q5k, q5x, q54⟩ := h4
    have f6 : e_fr (kRt cd) w w3 := e_fr.trans (e_fr.refl w) (e_fr.mono q5f (fun c k q => by unfold kRa at q; unfold kRt; omega))
    have s7 : gS w w3 cd (-2) 1 0 1 0 := gS.adv hcd ((e_Has.get hT (c := cd) (k := 0) (lo := 0) (hi := 4000) (kD_0 hcd) (by decide)).1) (by omega) q5f q5x (hk.a2 (by omega))
    have x8 : gS w w3 cd (-2) 1 0 1 0 := gS.trans x0 s7 (by omega)
    have p9 := lpK.step hlk s7
    show e_Ok 20 elay kcode eI (d + 1) 153 (21, [(0, (1, 1))], [], w3) _
    refine e_Ok.run (t' := (24, [(0, (1, 1))], [(0, 19), (1, 1)], w3)) 2 rfl ?_
    refine e_Ok.callV rfl (by omega) rfl rfl rfl rfl (c_129 (by omega) q5T q5H q5k (by omega)) (fun r10 w11 h12 => ?_)
    obtain ⟨rfl, q13f, q13T, q13H, q13k, q13x⟩ := h12
    have f14 : e_fr (kRt cd) w w11 := e_fr.trans f6 (e_fr.mono q13f (fun c k q => by unfold kRk at q; unfold kRt; omega))
    have s15 : gS w3 w11 cd (-1) 1 0 1 0 := gS.acc hcd ((e_Has.get q5T (c := cd) (k := 0) (lo := 0) (hi := 4000) (kD_0 hcd) (by decide)).1) (by omega) q13f q13x (fun g => q5k.a1 (by omega))
    have x16 : gS w w11 cd (-3) 1 0 1 0 := gS.trans x8 s15 (by omega)
    have p17 := lpK.step p9 s15
    show e_Ok 20 elay kcode eI (d + 1) 153 (27, [(0, (1, 1))], [], w11) _
    refine e_Ok.run (t' := (28, [(0, (1, 1))], [(1, 1)], w11)) 1 rfl ?_
    refine e_Ok.getr (z := cd) rfl (el_o rfl) rfl rfl ((q13f 1 3 (by unfold kRk; omega)).trans ((q5f 1 3 (by unfold kRa; omega)).trans hc)) (by omega) ?_
    refine e_Ok.run (t' := (34, [(0, (1, 1))], [(1, 1), (0, 44), (1, cd)], w11)) 2 rfl ?_
    refine e_Ok.getf (z := lp) rfl (el_o rfl) rfl rfl ((q13f 1 13 (by unfold kRk; omega)).trans ((q5f 1 13 (by unfold kRa; omega)).trans hlp)) (by omega) ?_
    refine e_Ok.run (t' := (38, [(0, (1, 1))], [(0, 0), (0, lp), (0, 44), (1, cd)], w11)) 1 rfl ?_
    refine e_Ok.mmax rfl rfl (fun z18 hz18 => ?_)
    replace hz18 : (lp < 0 ∧ z18 = 0) ∨ (0 ≤ lp ∧ z18 = lp) := hz18
    refine e_Ok.callV rfl (by omega) rfl (lD0 hcd) rfl rfl (c_21 q13T hcd (by omega) (by omega)) (fun r19 w20 h21 => ?_)
    obtain ⟨z23, rfl, q22f, q22T, q22x⟩ := h21
    have q22H : e_Has kRy w20 := H_fr q22f (fun c k g => by unfold kEm at g; omega) q13H
    have q22k : tkR w20 := (q13k.fr q22f (fun k g => by unfold kEm; omega))
    have q22z : 0 ≤ z23 ∧ z23 ≤ 4000 := by have g := e_Has.get q13T (c := cd) (k := 0) (lo := 0) (hi := 4000) (kD_0 hcd) (by decide); unfold emQ at q22x; omega
    have f24 : e_fr (kRt cd) w w20 := e_fr.trans f14 (e_fr.mono q22f (fun c k q => by unfold kEm at q; unfold kRt; omega))
    have s25 : gS w11 w20 cd 1 1 0 0 0 := gS.big hcd ((e_Has.get q13T (c := cd) (k := 0) (lo := 0) (hi := 4000) (kD_0 hcd) (by decide)).1) (by omega) q22f q22x (by omega) (by omega) (fun g => by omega) (fun _ n l => by rcases p17 with g | g; exact absurd g (by omega); obtain ⟨a1, a2, a3⟩ := g n l; rw [show z18 = lp by omega]; exact ⟨a2, a3⟩)
    have x26 : gS w w20 cd (-2) 1 0 0 0 := gS.trans x16 s25 (by omega)
    have p27 := lpK.step p17 s25
    show e_Ok 20 elay kcode eI (d + 1) 153 (44, [(0, (1, 1))], [(0, z23)], w20) _
    refine e_Ok.run (t' := (45, [(0, (1, 1))], [], w20)) 1 rfl ?_
    refine e_Ok.rets rfl rfl ?_
    exact ⟨rfl, f24, ⟨q22T, q22H, ((q22f 1 3 (by unfold kEm; omega)).trans ((q13f 1 3 (by unfold kRk; omega)).trans ((q5f 1 3 (by unfold kRa; omega)).trans hc))), hcd, q22k⟩, ⟨(by have g1 : w20 1 11 = o := ((q22f 1 11 (by unfold kEm; omega)).trans ((q13f 1 11 (by unfold kRk; omega)).trans ((q5f 1 11 (by unfold kRa; omega)).trans ho))); have g0 : w 1 11 = o := ho; omega), (by have g1 : w20 1 12 = t := ((q22f 1 12 (by unfold kEm; omega)).trans ((q13f 1 12 (by unfold kRk; omega)).trans ((q5f 1 12 (by unfold kRa; omega)).trans ht))); have g0 : w 1 12 = t := ht; omega), (by have g1 : w20 1 13 = lp := ((q22f 1 13 (by unfold kEm; omega)).trans ((q13f 1 13 (by unfold kRk; omega)).trans ((q5f 1 13 (by unfold kRa; omega)).trans hlp))); have g0 : w 1 13 = lp := hlp; omega)⟩, x26.le (by omega)⟩
  · replace h1 : (lp : Int) < 0 := by have q : ¬ ((lp : Int) ≥ 0) := h1; omega
    refine e_Ok.run (t' := (11, [(0, (1, 1))], [(1, 1), (0, 6), (1, 1)], w)) 3 rfl ?_
    have h28 := (e_Has.get hH (c := 1) (k := 6) (lo := 0) (hi := 4000) rfl (by decide))
    refine e_Ok.getf (z := w 1 6) rfl (el_o rfl) rfl rfl rfl (by omega) ?_
    refine e_Ok.callV rfl (by omega) rfl rfl rfl rfl (c_133 hT hH hk (by omega) (by omega)) (fun r29 w30 h31 => ?_)
    obtain ⟨rfl, q32f, q32T, q32H, q32k, q32n⟩ := h31
    have f33 : e_fr (kRt cd) w w30 := e_fr.trans (e_fr.refl w) (e_fr.mono q32f (fun c k q => by unfold kRc at q; unfold kRt; omega))
    have s34 : gS w w30 cd 0 1 0 1 0 := gS.dead q32n
    have x35 : gS w w30 cd 0 1 0 1 0 := gS.trans x0 s34 (by omega)
    have p36 := lpK.step hlk s34
    show e_Ok 20 elay kcode eI (d + 1) 153 (17, [(0, (1, 1))], [], w30) _
    refine e_Ok.run (t' := (18, [(0, (1, 1))], [(1, 1)], w30)) 1 rfl ?_
    refine e_Ok.callV rfl (by omega) rfl rfl rfl rfl (c_123 (by omega) q32T q32H q32k.1.2) (fun r37 w38 h40 => ?_)
    obtain ⟨rfl, q41f, q41T, q41H, q41k, q41x, q414⟩ := h40
    have f42 : e_fr (kRt cd) w w38 := e_fr.trans f33 (e_fr.mono q41f (fun c k q => by unfold kRa at q; unfold kRt; omega))
    have k43 : w30 1 5 = w 1 5 := ((q32f 1 5 (by unfold kRc; omega)).trans rfl)
    have s44 : gS w30 w38 cd (-2) 1 0 1 0 := gS.adv hcd ((e_Has.get q32T (c := cd) (k := 0) (lo := 0) (hi := 4000) (kD_0 hcd) (by decide)).1) (by omega) q41f q41x (q32k.a2 (by omega))
    have x45 : gS w w38 cd (-2) 1 0 1 0 := gS.trans x35 s44 (by omega)
    have p46 := lpK.step p36 s44
    have d47 : ¬ nF w38 := fun n => q32n (s44 n).1
    show e_Ok 20 elay kcode eI (d + 1) 153 (21, [(0, (1, 1))], [], w38) _
    refine e_Ok.run (t' := (24, [(0, (1, 1))], [(0, 19), (1, 1)], w38)) 2 rfl ?_
    refine e_Ok.callV rfl (by omega) rfl rfl rfl rfl (c_129 (by omega) q41T q41H q41k (by omega)) (fun r48 w49 h50 => ?_)
    obtain ⟨rfl, q51f, q51T, q51H, q51k, q51x⟩ := h50
    have f52 : e_fr (kRt cd) w w49 := e_fr.trans f42 (e_fr.mono q51f (fun c k q => by unfold kRk at q; unfold kRt; omega))
    have s53 : gS w38 w49 cd (-1) 1 0 1 0 := gS.acc hcd ((e_Has.get q41T (c := cd) (k := 0) (lo := 0) (hi := 4000) (kD_0 hcd) (by decide)).1) (by omega) q51f q51x (fun g => q41k.a1 (by omega))
    have x54 : gS w w49 cd (-3) 1 0 1 0 := gS.trans x45 s53 (by omega)
    have p55 := lpK.step p46 s53
    have d56 : ¬ nF w49 := fun n => d47 (s53 n).1
    show e_Ok 20 elay kcode eI (d + 1) 153 (27, [(0, (1, 1))], [], w49) _
    refine e_Ok.run (t' := (28, [(0, (1, 1))], [(1, 1)], w49)) 1 rfl ?_
    refine e_Ok.getr (z := cd) rfl (el_o rfl) rfl rfl ((q51f 1 3 (by unfold kRk; omega)).trans ((q41f 1 3 (by unfold kRa; omega)).trans ((q32f 1 3 (by unfold kRc; omega)).trans hc))) (by omega) ?_
    refine e_Ok.run (t' := (34, [(0, (1, 1))], [(1, 1), (0, 44), (1, cd)], w49)) 2 rfl ?_
    refine e_Ok.getf (z := lp) rfl (el_o rfl) rfl rfl ((q51f 1 13 (by unfold kRk; omega)).trans ((q41f 1 13 (by unfold kRa; omega)).trans ((q32f 1 13 (by unfold kRc; omega)).trans hlp))) (by omega) ?_
    refine e_Ok.run (t' := (38, [(0, (1, 1))], [(0, 0), (0, lp), (0, 44), (1, cd)], w49)) 1 rfl ?_
    refine e_Ok.mmax rfl rfl (fun z57 hz57 => ?_)
    replace hz57 : (lp < 0 ∧ z57 = 0) ∨ (0 ≤ lp ∧ z57 = lp) := hz57
    refine e_Ok.callV rfl (by omega) rfl (lD0 hcd) rfl rfl (c_21 q51T hcd (by omega) (by omega)) (fun r58 w59 h60 => ?_)
    obtain ⟨z62, rfl, q61f, q61T, q61x⟩ := h60
    have q61H : e_Has kRy w59 := H_fr q61f (fun c k g => by unfold kEm at g; omega) q51H
    have q61k : tkR w59 := (q51k.fr q61f (fun k g => by unfold kEm; omega))
    have q61z : 0 ≤ z62 ∧ z62 ≤ 4000 := by have g := e_Has.get q51T (c := cd) (k := 0) (lo := 0) (hi := 4000) (kD_0 hcd) (by decide); unfold emQ at q61x; omega
    have f63 : e_fr (kRt cd) w w59 := e_fr.trans f52 (e_fr.mono q61f (fun c k q => by unfold kEm at q; unfold kRt; omega))
    have s64 : gS w49 w59 cd 1 1 0 0 0 := gS.dead (fun n => d56 ⟨by rw [← (fr_e q61f hcd).1]; exact n.1, by rw [← (fr_e q61f hcd).2.1]; exact n.2⟩)
    have x65 : gS w w59 cd (-2) 1 0 0 0 := gS.trans x54 s64 (by omega)
    have p66 := lpK.step p55 s64
    have d67 : ¬ nF w59 := fun n => d56 (s64 n).1
    show e_Ok 20 elay kcode eI (d + 1) 153 (44, [(0, (1, 1))], [(0, z62)], w59) _
    refine e_Ok.run (t' := (45, [(0, (1, 1))], [], w59)) 1 rfl ?_
    refine e_Ok.rets rfl rfl ?_
    exact ⟨rfl, f63, ⟨q61T, q61H, ((q61f 1 3 (by unfold kEm; omega)).trans ((q51f 1 3 (by unfold kRk; omega)).trans ((q41f 1 3 (by unfold kRa; omega)).trans ((q32f 1 3 (by unfold kRc; omega)).trans hc)))), hcd, q61k⟩, ⟨(by have g1 : w59 1 11 = o := ((q61f 1 11 (by unfold kEm; omega)).trans ((q51f 1 11 (by unfold kRk; omega)).trans ((q41f 1 11 (by unfold kRa; omega)).trans ((q32f 1 11 (by unfold kRc; omega)).trans ho)))); have g0 : w 1 11 = o := ho; omega), (by have g1 : w59 1 12 = t := ((q61f 1 12 (by unfold kEm; omega)).trans ((q51f 1 12 (by unfold kRk; omega)).trans ((q41f 1 12 (by unfold kRa; omega)).trans ((q32f 1 12 (by unfold kRc; omega)).trans ht)))); have g0 : w 1 12 = t := ht; omega), (by have g1 : w59 1 13 = lp := ((q61f 1 13 (by unfold kEm; omega)).trans ((q51f 1 13 (by unfold kRk; omega)).trans ((q41f 1 13 (by unfold kRa; omega)).trans ((q32f 1 13 (by unfold kRc; omega)).trans hlp)))); have g0 : w 1 13 = lp := hlp; omega)⟩, gS.dead d67⟩
theorem c_143 {d : Nat} (hd : 22 ≤ d) {w : eW} (hT : e_Has kTy w) (hH : e_Has kRy w) : e_Ok 20 elay kcode eI d 143 (0, [(0, (1, 1))], [], w) (fun r w' => ∃ z : Int, r = [(0, z)] ∧ w = w' ∧ ((z = 1 ∧ isK (w 1 5)) ∨ (z = 0 ∧ True))) := by
  obtain ⟨d, rfl⟩ : ∃ e, d = e + 1 := ⟨d - 1, by omega⟩
  have p5 := e_Has.get hH (c := 1) (k := 5) (lo := 0) (hi := 53) rfl (by decide)
  refine e_Ok.run (t' := (1, [(0, (1, 1))], [(1, 1)], w)) 1 rfl ?_
  have h1 := (e_Has.get hH (c := 1) (k := 5) (lo := 0) (hi := 53) rfl (by decide))
  refine e_Ok.getf (z := w 1 5) rfl (el_o rfl) rfl rfl rfl (by omega) ?_
  refine e_Ok.run (t' := (5, [(0, (1, 1))], [(0, 1), (0, w 1 5)], w)) 1 rfl ?_
  refine e_Ok.if2 rfl (fun h2 => ?_) (fun h2 => ?_)
  · replace h2 : (w 1 5 : Int) = 1 := h2
    refine e_Ok.run (t' := (45, [(0, (1, 1))], [(0, 1)], w)) 2 rfl ?_
    refine e_Ok.rets rfl rfl ?_
    exact ⟨_, rfl, rfl, Or.inl ⟨rfl, by unfold isK; omega⟩⟩
  · replace h2 : (w 1 5 : Int) ≠ 1 := by have q : ¬ ((w 1 5 : Int) = 1) := h2; omega
    refine e_Ok.run (t' := (9, [(0, (1, 1))], [(1, 1)], w)) 1 rfl ?_
    refine e_Ok.getf (z := w 1 5) rfl (el_o rfl) rfl rfl rfl (by omega) ?_
    refine e_Ok.run (t' := (16, [(0, (1, 1))], [(0, 39), (0, 24), (0, w 1 5)], w)) 2 rfl ?_
    refine e_Ok.callS rfl (by omega) rfl rfl (c_242 (by omega) (by omega) (by omega)) (fun r3 w4 h5 => ?_)
    obtain ⟨z6, rfl, rfl, q7⟩ := h5
    obtain ⟨rfl, q7⟩ | ⟨rfl, q7⟩ := q7
    · show e_Ok 20 elay kcode eI (d + 1) 143 (19, [(0, (1, 1))], [(0, 1)], w) _
      refine e_Ok.if1 rfl (fun h8 => ?_) (fun h8 => ?_)
      · replace h8 : (1 : Int) ≠ 0 := h8
        refine e_Ok.run (t' := (45, [(0, (1, 1))], [(0, 1)], w)) 2 rfl ?_
        refine e_Ok.rets rfl rfl ?_
        exact ⟨_, rfl, rfl, Or.inl ⟨rfl, by unfold isK; omega⟩⟩
      · replace h8 : (1 : Int) = 0 := by have q : ¬ ((1 : Int) ≠ 0) := h8; omega
        exfalso; omega
    · show e_Ok 20 elay kcode eI (d + 1) 143 (19, [(0, (1, 1))], [(0, 0)], w) _
      refine e_Ok.if1 rfl (fun h9 => ?_) (fun h9 => ?_)
      · replace h9 : (0 : Int) ≠ 0 := h9
        exfalso; omega
      · replace h9 : (0 : Int) = 0 := by have q : ¬ ((0 : Int) ≠ 0) := h9; omega
        refine e_Ok.run (t' := (23, [(0, (1, 1))], [(1, 1)], w)) 1 rfl ?_
        refine e_Ok.getf (z := w 1 5) rfl (el_o rfl) rfl rfl rfl (by omega) ?_
        refine e_Ok.run (t' := (28, [(0, (1, 1))], [(0, 41), (0, w 1 5)], w)) 1 rfl ?_
        refine e_Ok.if2 rfl (fun h10 => ?_) (fun h10 => ?_)
        · replace h10 : (w 1 5 : Int) = 41 := h10
          refine e_Ok.run (t' := (45, [(0, (1, 1))], [(0, 1)], w)) 2 rfl ?_
          refine e_Ok.rets rfl rfl ?_
          exact ⟨_, rfl, rfl, Or.inl ⟨rfl, by unfold isK; omega⟩⟩
        · replace h10 : (w 1 5 : Int) ≠ 41 := by have q : ¬ ((w 1 5 : Int) = 41) := h10; omega
          refine e_Ok.run (t' := (32, [(0, (1, 1))], [(1, 1)], w)) 1 rfl ?_
          refine e_Ok.getf (z := w 1 5) rfl (el_o rfl) rfl rfl rfl (by omega) ?_
          refine e_Ok.run (t' := (37, [(0, (1, 1))], [(0, 42), (0, w 1 5)], w)) 1 rfl ?_
          refine e_Ok.if2 rfl (fun h11 => ?_) (fun h11 => ?_)
          · replace h11 : (w 1 5 : Int) ≠ 42 := h11
            refine e_Ok.run (t' := (45, [(0, (1, 1))], [(0, 0)], w)) 1 rfl ?_
            refine e_Ok.rets rfl rfl ?_
            exact ⟨_, rfl, rfl, Or.inr ⟨rfl, trivial⟩⟩
          · replace h11 : (w 1 5 : Int) = 42 := by have q : ¬ ((w 1 5 : Int) ≠ 42) := h11; omega
            refine e_Ok.run (t' := (45, [(0, (1, 1))], [(0, 1)], w)) 2 rfl ?_
            refine e_Ok.rets rfl rfl ?_
            exact ⟨_, rfl, rfl, Or.inl ⟨rfl, by unfold isK; omega⟩⟩
set_option maxHeartbeats 4000000 in
theorem c_154 {d : Nat} (hd : 281 ≤ d) {w : eW} {cd o : Int} (hS : rS w cd) (ho : w 1 11 = o) (hor : 0 ≤ o ∧ o ≤ 30) {t lp : Int} (ht : w 1 12 = t) (htr : 0 ≤ t ∧ t ≤ o) (hlp : w 1 13 = lp) (hlk : lpK w cd lp) (h5 : w 1 5 = 39) (hB : o < 30 → ∀ k, d = k + 1 → zgC 144 (o + 1) 0 0 (fun _ => True) k) : e_Ok 20 elay kcode eI d 154 (0, [(0, (1, 1))], [], w) (fun r w' => r = [] ∧ gQ w w' cd (-1) 1 0) := by
  obtain ⟨d, rfl⟩ : ∃ e, d = e + 1 := ⟨d - 1, by omega⟩
  obtain ⟨hT, hH, hc, hcd, hk⟩ := hS
  have hcd2 := hcd; unfold isCd at hcd2
  have hcd3 : 2 ≤ cd ∧ cd ≤ 145 := by omega
  have pL := e_Has.get hT (c := cd) (k := 0) (lo := 0) (hi := 4000) (kD_0 hcd) (by decide)
  have p1 := e_Has.get hH (c := 1) (k := 1) (lo := (-2147483648)) (hi := 2147483647) rfl (by decide)
  have p5 := e_Has.get hH (c := 1) (k := 5) (lo := 0) (hi := 53) rfl (by decide)
  have p6 := e_Has.get hH (c := 1) (k := 6) (lo := 0) (hi := 4000) rfl (by decide)
  have p9 := e_Has.get hH (c := 1) (k := 9) (lo := (-2147483648)) (hi := 2147483647) rfl (by decide)
  have p7 := e_Has.get hH (c := 1) (k := 7) (lo := 0) (hi := 4000) rfl (by decide)
  have p12 := e_Has.get hH (c := 1) (k := 12) (lo := 0) (hi := 30) rfl (by decide)
  have p13 := e_Has.get hH (c := 1) (k := 13) (lo := (-1)) (hi := 4000) rfl (by decide)
  have x0 : gS w w cd 0 1 0 1 0 := gS.refl pL.1
  refine e_Ok.run (t' := (1, [(0, (1, 1))], [(1, 1)], w)) 1 rfl ?_
  refine e_Ok.callV rfl (by omega) rfl rfl rfl rfl (c_132 (by omega) hT hH hk (o := o) ho (by omega)) (fun r1 w2 h3 => ?_)
  obtain ⟨z5, rfl, q4f, q4T, q4H, q4k, ⟨rfl, q4a, q4b, q4c⟩ | ⟨rfl, q4a, q4b, q4c, q4d⟩⟩ := h3
  · show e_Ok 20 elay kcode eI (d + 1) 154 (4, [(0, (1, 1))], [(0, 1)], w2) _
    have q4g : e_fr kRO w w2 := fun c k g => by have g2 : ¬ (c = 1 ∧ k = 11) := g; by_cases h : c = 1 ∧ (k = 12 ∨ k = 13); (exact q4f c k (by unfold kRo; omega)); (exact q4c c k (show ¬ (c = 1 ∧ 11 ≤ k ∧ k ≤ 13) from by omega))
    have f6 : e_fr (kRt cd) w w2 := e_fr.trans (e_fr.refl w) (e_fr.mono q4g (fun c k q => by unfold kRO at q; unfold kRt; omega))
    have s7 : gS w w2 cd 0 1 0 1 0 := gS.wr hcd ((e_Has.get hT (c := cd) (k := 0) (lo := 0) (hi := 4000) (kD_0 hcd) (by decide)).1) (by omega) q4c
    have x8 : gS w w2 cd 0 1 0 1 0 := gS.trans x0 s7 (by omega)
    have p9 := lpK.step hlk s7
    refine e_Ok.if1 rfl (fun h10 => ?_) (fun h10 => ?_)
    · replace h10 : (1 : Int) ≠ 0 := h10
      refine e_Ok.run (t' := (9, [(0, (1, 1))], [(1, 1)], w2)) 1 rfl ?_
      refine e_Ok.callV rfl (by omega) rfl rfl rfl rfl (c_123 (by omega) q4T q4H q4k.1.2) (fun r11 w12 h13 => ?_)
      obtain ⟨rfl, q14f, q14T, q14H, q14k, q14x, q144⟩ := h13
      have f15 : e_fr (kRt cd) w w12 := e_fr.trans f6 (e_fr.mono q14f (fun c k q => by unfold kRa at q; unfold kRt; omega))
      have k16 : w2 1 5 = w 1 5 := ((q4g 1 5 (by unfold kRO; omega)).trans rfl)
      have s17 : gS w2 w12 cd (-2) 1 0 1 0 := gS.adv hcd ((e_Has.get q4T (c := cd) (k := 0) (lo := 0) (hi := 4000) (kD_0 hcd) (by decide)).1) (by omega) q14f q14x (q4k.a2 (by omega))
      have x18 : gS w w12 cd (-2) 1 0 1 0 := gS.trans x8 s17 (by omega)
      have p19 := lpK.step p9 s17
      show e_Ok 20 elay kcode eI (d + 1) 154 (12, [(0, (1, 1))], [], w12) _
      refine e_Ok.run (t' := (13, [(0, (1, 1))], [(1, 1)], w12)) 1 rfl ?_
      refine e_Ok.callV rfl (by omega) rfl rfl rfl rfl (x_exp (o := (o + 1)) (by omega) (by omega) w12 cd ⟨q14T, q14H, ((q14f 1 3 (by unfold kRa; omega)).trans ((q4g 1 3 (by unfold kRO; omega)).trans hc)), hcd, q14k⟩ ((q14f 1 11 (by unfold kRa; omega)).trans q4b)) (fun r20 w21 h22 => ?_)
      obtain ⟨rfl, q23f, ⟨q23T, q23H, q23c, -, q23k⟩, q23o, q23x⟩ := h22
      have f24 : e_fr (kRt cd) w w21 := e_fr.trans f15 (e_fr.mono q23f (fun c k q => by unfold kRx at q; unfold kRt; omega))
      have s25 : gS w12 w21 cd 0 1 0 1 0 := gS.ex q23x
      have x26 : gS w w21 cd (-2) 1 0 1 0 := gS.trans x18 s25 (by omega)
      have p27 := lpK.step p19 s25
      show e_Ok 20 elay kcode eI (d + 1) 154 (16, [(0, (1, 1))], [], w21) _
      refine e_Ok.run (t' := (19, [(0, (1, 1))], [(0, 20), (1, 1)], w21)) 2 rfl ?_
      refine e_Ok.callV rfl (by omega) rfl rfl rfl rfl (c_129 (by omega) q23T q23H q23k (by omega)) (fun r28 w29 h30 => ?_)
      obtain ⟨rfl, q31f, q31T, q31H, q31k, q31x⟩ := h30
      have f32 : e_fr (kRt cd) w w29 := e_fr.trans f24 (e_fr.mono q31f (fun c k q => by unfold kRk at q; unfold kRt; omega))
      have s33 : gS w21 w29 cd (-1) 1 0 1 0 := gS.acc hcd ((e_Has.get q23T (c := cd) (k := 0) (lo := 0) (hi := 4000) (kD_0 hcd) (by decide)).1) (by omega) q31f q31x (fun g => q23k.a1 (by omega))
      have x34 : gS w w29 cd (-3) 1 0 1 0 := gS.trans x26 s33 (by omega)
      have p35 := lpK.step p27 s33
      show e_Ok 20 elay kcode eI (d + 1) 154 (22, [(0, (1, 1))], [], w29) _
      refine e_Ok.run (t' := (23, [(0, (1, 1))], [(1, 1)], w29)) 1 rfl ?_
      refine e_Ok.getr (z := cd) rfl (el_o rfl) rfl rfl ((q31f 1 3 (by unfold kRk; omega)).trans ((q23f 1 3 (by unfold kRx; omega)).trans ((q14f 1 3 (by unfold kRa; omega)).trans ((q4g 1 3 (by unfold kRO; omega)).trans hc)))) (by omega) ?_
      refine e_Ok.run (t' := (29, [(0, (1, 1))], [(0, 0), (0, 41), (1, cd)], w29)) 2 rfl ?_
      refine e_Ok.callV rfl (by omega) rfl (lD0 hcd) rfl rfl (c_21 q31T hcd (by omega) (by omega)) (fun r36 w37 h38 => ?_)
      obtain ⟨z41, rfl, q40f, q40T, q40x⟩ := h38
      have q40H : e_Has kRy w37 := H_fr q40f (fun c k g => by unfold kEm at g; omega) q31H
      have q40k : tkR w37 := (q31k.fr q40f (fun k g => by unfold kEm; omega))
      have q40z : 0 ≤ z41 ∧ z41 ≤ 4000 := by have g := e_Has.get q31T (c := cd) (k := 0) (lo := 0) (hi := 4000) (kD_0 hcd) (by decide); unfold emQ at q40x; omega
      have f42 : e_fr (kRt cd) w w37 := e_fr.trans f32 (e_fr.mono q40f (fun c k q => by unfold kEm at q; unfold kRt; omega))
      have s43 : gS w29 w37 cd 1 1 0 0 0 := gS.big hcd ((e_Has.get q31T (c := cd) (k := 0) (lo := 0) (hi := 4000) (kD_0 hcd) (by decide)).1) (by omega) q40f q40x (by omega) (by omega) (fun _ => Or.inl rfl) (fun g => by omega)
      have x44 : gS w w37 cd (-2) 1 0 0 0 := gS.trans x34 s43 (by omega)
      have p45 := lpK.step p35 s43
      have p46 : zpl w37 cd z41 41 := zpl.em hcd ((e_Has.get q31T (c := cd) (k := 0) (lo := 0) (hi := 4000) (kD_0 hcd) (by decide)).1) q40f q40x (by omega)
      show e_Ok 20 elay kcode eI (d + 1) 154 (32, [(0, (1, 1))], [(0, z41)], w37) _
      refine e_Ok.run (t' := (34, [(1, (0, z41)), (0, (1, 1))], [(1, 1)], w37)) 2 rfl ?_
      refine e_Ok.callV rfl (by omega) rfl rfl rfl rfl (hB (by omega) d rfl w37 cd t lp ⟨q40T, q40H, ((q40f 1 3 (by unfold kEm; omega)).trans ((q31f 1 3 (by unfold kRk; omega)).trans ((q23f 1 3 (by unfold kRx; omega)).trans ((q14f 1 3 (by unfold kRa; omega)).trans ((q4g 1 3 (by unfold kRO; omega)).trans hc))))), hcd, q40k⟩ ((q40f 1 11 (by unfold kEm; omega)).trans ((q31f 1 11 (by unfold kRk; omega)).trans (q23o.trans ((q14f 1 11 (by unfold kRa; omega)).trans q4b)))) ((q40f 1 12 (by unfold kEm; omega)).trans ((q31f 1 12 (by unfold kRk; omega)).trans ((q23f 1 12 (by unfold kRx; omega)).trans ((q14f 1 12 (by unfold kRa; omega)).trans ((q4g 1 12 (by unfold kRO; omega)).trans ht))))) (by omega) ((q40f 1 13 (by unfold kEm; omega)).trans ((q31f 1 13 (by unfold kRk; omega)).trans ((q23f 1 13 (by unfold kRx; omega)).trans ((q14f 1 13 (by unfold kRa; omega)).trans ((q4g 1 13 (by unfold kRO; omega)).trans hlp))))) p45 trivial) (fun r47 w48 h49 => ?_)
      obtain ⟨rfl, q50f, ⟨q50T, q50H, q50c, -, q50k⟩, ⟨q50o, q50t, q50l⟩, q50x⟩ := h49
      have f51 : e_fr (kRt cd) w w48 := e_fr.trans f42 (e_fr.mono q50f (fun c k q => by exact q))
      have s52 : gS w37 w48 cd 0 0 0 0 0 := q50x
      have x53 : gS w w48 cd (-2) 1 0 0 0 := gS.trans x44 s52 (by omega)
      have p54 := zpl.step p46 s52
      have p55 := lpK.step p45 s52
      show e_Ok 20 elay kcode eI (d + 1) 154 (37, [(1, (0, z41)), (0, (1, 1))], [], w48) _
      refine e_Ok.run (t' := (38, [(1, (0, z41)), (0, (1, 1))], [(1, 1)], w48)) 1 rfl ?_
      have h56 := (e_Has.get q50H (c := 1) (k := 5) (lo := 0) (hi := 53) rfl (by decide))
      refine e_Ok.getf (z := w48 1 5) rfl (el_o rfl) rfl rfl rfl (by omega) ?_
      refine e_Ok.run (t' := (43, [(1, (0, z41)), (0, (1, 1))], [(0, 40), (0, w48 1 5)], w48)) 1 rfl ?_
      refine e_Ok.if2 rfl (fun h57 => ?_) (fun h57 => ?_)
      · replace h57 : (w48 1 5 : Int) ≠ 40 := h57
        refine e_Ok.run (t' := (89, [(1, (0, z41)), (0, (1, 1))], [(1, 1)], w48)) 1 rfl ?_
        refine e_Ok.getr (z := cd) rfl (el_o rfl) rfl rfl ((q50f 1 3 (by unfold kRt; omega)).trans ((q40f 1 3 (by unfold kEm; omega)).trans ((q31f 1 3 (by unfold kRk; omega)).trans ((q23f 1 3 (by unfold kRx; omega)).trans ((q14f 1 3 (by unfold kRa; omega)).trans ((q4g 1 3 (by unfold kRO; omega)).trans hc)))))) (by omega) ?_
        refine e_Ok.run (t' := (94, [(1, (0, z41)), (0, (1, 1))], [(1, 1), (0, z41), (1, cd)], w48)) 2 rfl ?_
        refine e_Ok.getr (z := cd) rfl (el_o rfl) rfl rfl ((q50f 1 3 (by unfold kRt; omega)).trans ((q40f 1 3 (by unfold kEm; omega)).trans ((q31f 1 3 (by unfold kRk; omega)).trans ((q23f 1 3 (by unfold kRx; omega)).trans ((q14f 1 3 (by unfold kRa; omega)).trans ((q4g 1 3 (by unfold kRO; omega)).trans hc)))))) (by omega) ?_
        have h58 := (e_Has.get q50T (c := cd) (k := 0) (lo := 0) (hi := 4000) (kD_0 hcd) (by decide))
        refine e_Ok.getf (z := w48 cd 0) rfl (lD0 hcd) rfl rfl rfl (by omega) ?_
        refine e_Ok.callV rfl (by omega) rfl (lD0 hcd) rfl rfl (c_22 q50T hcd (by omega) (by have g := e_Has.get q50T (c := cd) (k := 0) (lo := 0) (hi := 4000) (kD_0 hcd) (by decide); omega)) (fun r59 w60 h61 => ?_)
        obtain ⟨rfl, q62f, q62T, q62x⟩ := h61
        have q62H : e_Has kRy w60 := H_fr q62f (fun c k g => by unfold kPa at g; omega) q50H
        have q62k : tkR w60 := q50k.fr q62f (fun k g => by unfold kPa; omega)
        have f63 : e_fr (kRt cd) w w60 := e_fr.trans f51 (e_fr.mono q62f (fun c k q => by unfold kPa at q; unfold kRt; omega))
        have s64 : gS w48 w60 cd 0 0 0 0 0 := gS.pat hcd ((e_Has.get q50T (c := cd) (k := 0) (lo := 0) (hi := 4000) (kD_0 hcd) (by decide)).1) q62f q62x (show w48 cd 0 = w48 cd 0 from Eq.symm rfl) p54 (by omega)
        have x65 : gS w w60 cd (-2) 1 0 0 0 := gS.trans x53 s64 (by omega)
        have p66 := zpl.step p54 s64
        have p67 := lpK.step p55 s64
        show e_Ok 20 elay kcode eI (d + 1) 154 (103, [(1, (0, z41)), (0, (1, 1))], [], w60) _
        refine e_Ok.run (t' := (106, [(1, (0, z41)), (0, (1, 1))], [(0, 23), (1, 1)], w60)) 2 rfl ?_
        refine e_Ok.callV rfl (by omega) rfl rfl rfl rfl (c_129 (by omega) q62T q62H q62k (by omega)) (fun r68 w69 h70 => ?_)
        obtain ⟨rfl, q71f, q71T, q71H, q71k, q71x⟩ := h70
        have f72 : e_fr (kRt cd) w w69 := e_fr.trans f63 (e_fr.mono q71f (fun c k q => by unfold kRk at q; unfold kRt; omega))
        have s73 : gS w60 w69 cd (-3) 0 0 0 0 := gS.acc hcd ((e_Has.get q62T (c := cd) (k := 0) (lo := 0) (hi := 4000) (kD_0 hcd) (by decide)).1) (by omega) q71f q71x (fun g => q62k.a3 (by omega))
        have x74 : gS w w69 cd (-5) 1 0 0 0 := gS.trans x65 s73 (by omega)
        have p75 := zpl.step p66 s73
        have p76 := lpK.step p67 s73
        show e_Ok 20 elay kcode eI (d + 1) 154 (109, [(1, (0, z41)), (0, (1, 1))], [], w69) _
        refine e_Ok.run (t' := (111, [(1, (0, z41)), (0, (1, 1))], [(1, 1), (1, 1)], w69)) 2 rfl ?_
        refine e_Ok.getf (z := o + 1) rfl (el_o rfl) rfl rfl ((q71f 1 11 (by unfold kRk; omega)).trans ((q62f 1 11 (by unfold kPa; omega)).trans (q50o.trans ((q40f 1 11 (by unfold kEm; omega)).trans ((q31f 1 11 (by unfold kRk; omega)).trans (q23o.trans ((q14f 1 11 (by unfold kRa; omega)).trans q4b))))))) (by omega) ?_
        refine e_Ok.run (t' := (115, [(1, (0, z41)), (0, (1, 1))], [(0, 1), (0, o + 1), (1, 1)], w69)) 1 rfl ?_
        refine e_Ok.sub' (z := o) rfl (by omega) (by omega) ?_
        refine e_Ok.putf rfl (el_o rfl) rfl rfl ?_
        generalize hw77 : e_up w69 1 11 o = w77
        have f78 : e_fr (kRt cd) w w77 := e_fr.up f72 hw77 (by unfold kRt; omega)
        have hT79 : e_Has kTy w77 := e_Has.ups q71T hw77 rfl
        have hH80 : e_Has kRy w77 := e_Has.upr q71H hw77 rfl (by omega)
        have t81 : tkR w77 := q71k.eq (fun k g => by rw [← hw77]; exact e_up_ne _ _ (by omega))
        have g82 : e_fr (fun c k => c = 1 ∧ 11 ≤ k ∧ k ≤ 13) w69 w77 := fun c k g => by have g2 : ¬ (c = 1 ∧ 11 ≤ k ∧ k ≤ 13) := g; rw [← hw77]; exact e_up_ne _ _ (by omega)
        have s83 : gS w69 w77 cd 0 0 0 0 0 := gS.wr hcd ((e_Has.get q71T (c := cd) (k := 0) (lo := 0) (hi := 4000) (kD_0 hcd) (by decide)).1) (by omega) g82
        have x84 : gS w w77 cd (-5) 1 0 0 0 := gS.trans x74 s83 (by omega)
        have p85 := zpl.step p75 s83
        have p86 := lpK.step p76 s83
        refine e_Ok.rets rfl rfl ?_
        exact ⟨rfl, f78, ⟨hT79, hH80, (by rw [← hw77]; exact (e_up_ne _ _ (Or.inr (by omega))).trans ((q71f 1 3 (by unfold kRk; omega)).trans ((q62f 1 3 (by unfold kPa; omega)).trans ((q50f 1 3 (by unfold kRt; omega)).trans ((q40f 1 3 (by unfold kEm; omega)).trans ((q31f 1 3 (by unfold kRk; omega)).trans ((q23f 1 3 (by unfold kRx; omega)).trans ((q14f 1 3 (by unfold kRa; omega)).trans ((q4g 1 3 (by unfold kRO; omega)).trans hc))))))))), hcd, t81⟩, ⟨(by have g1 : w77 1 11 = o := (by rw [← hw77]; exact e_up_eq _ _ _ _); have g0 : w 1 11 = o := ho; omega), (by have g1 : w77 1 12 = t := (by rw [← hw77]; exact (e_up_ne _ _ (Or.inr (by omega))).trans ((q71f 1 12 (by unfold kRk; omega)).trans ((q62f 1 12 (by unfold kPa; omega)).trans (q50t.trans ((q40f 1 12 (by unfold kEm; omega)).trans ((q31f 1 12 (by unfold kRk; omega)).trans ((q23f 1 12 (by unfold kRx; omega)).trans ((q14f 1 12 (by unfold kRa; omega)).trans ((q4g 1 12 (by unfold kRO; omega)).trans ht))))))))); have g0 : w 1 12 = t := ht; omega), (by have g1 : w77 1 13 = lp := (by rw [← hw77]; exact (e_up_ne _ _ (Or.inr (by omega))).trans ((q71f 1 13 (by unfold kRk; omega)).trans ((q62f 1 13 (by unfold kPa; omega)).trans (q50l.trans ((q40f 1 13 (by unfold kEm; omega)).trans ((q31f 1 13 (by unfold kRk; omega)).trans ((q23f 1 13 (by unfold kRx; omega)).trans ((q14f 1 13 (by unfold kRa; omega)).trans ((q4g 1 13 (by unfold kRO; omega)).trans hlp))))))))); have g0 : w 1 13 = lp := hlp; omega)⟩, x84.le (by omega)⟩
      · replace h57 : (w48 1 5 : Int) = 40 := by have q : ¬ ((w48 1 5 : Int) ≠ 40) := h57; omega
        refine e_Ok.run (t' := (47, [(1, (0, z41)), (0, (1, 1))], [(1, 1)], w48)) 1 rfl ?_
        refine e_Ok.callV rfl (by omega) rfl rfl rfl rfl (c_123 (by omega) q50T q50H q50k.1.2) (fun r87 w88 h89 => ?_)
        obtain ⟨rfl, q90f, q90T, q90H, q90k, q90x, q904⟩ := h89
        have f91 : e_fr (kRt cd) w w88 := e_fr.trans f51 (e_fr.mono q90f (fun c k q => by unfold kRa at q; unfold kRt; omega))
        have s92 : gS w48 w88 cd (-2) 0 0 0 0 := gS.adv hcd ((e_Has.get q50T (c := cd) (k := 0) (lo := 0) (hi := 4000) (kD_0 hcd) (by decide)).1) (by omega) q90f q90x (q50k.a2 (by omega))
        have x93 : gS w w88 cd (-4) 1 0 0 0 := gS.trans x53 s92 (by omega)
        have p94 := zpl.step p54 s92
        have p95 := lpK.step p55 s92
        show e_Ok 20 elay kcode eI (d + 1) 154 (50, [(1, (0, z41)), (0, (1, 1))], [], w88) _
        refine e_Ok.run (t' := (53, [(1, (0, z41)), (0, (1, 1))], [(0, 20), (1, 1)], w88)) 2 rfl ?_
        refine e_Ok.callV rfl (by omega) rfl rfl rfl rfl (c_129 (by omega) q90T q90H q90k (by omega)) (fun r101 w103 h104 => ?_)
        obtain ⟨rfl, q105f, q105T, q105H, q105k, q105x⟩ := h104
        have f106 : e_fr (kRt cd) w w103 := e_fr.trans f91 (e_fr.mono q105f (fun c k q => by unfold kRk at q; unfold kRt; omega))
        have s107 : gS w88 w103 cd (-1) 0 0 0 0 := gS.acc hcd ((e_Has.get q90T (c := cd) (k := 0) (lo := 0) (hi := 4000) (kD_0 hcd) (by decide)).1) (by omega) q105f q105x (fun g => q90k.a1 (by omega))
        have x108 : gS w w103 cd (-5) 1 0 0 0 := gS.trans x93 s107 (by omega)
        have p109 := zpl.step p94 s107
        have p110 := lpK.step p95 s107
        show e_Ok 20 elay kcode eI (d + 1) 154 (56, [(1, (0, z41)), (0, (1, 1))], [], w103) _
        refine e_Ok.run (t' := (57, [(1, (0, z41)), (0, (1, 1))], [(1, 1)], w103)) 1 rfl ?_
        refine e_Ok.getr (z := cd) rfl (el_o rfl) rfl rfl ((q105f 1 3 (by unfold kRk; omega)).trans ((q90f 1 3 (by unfold kRa; omega)).trans ((q50f 1 3 (by unfold kRt; omega)).trans ((q40f 1 3 (by unfold kEm; omega)).trans ((q31f 1 3 (by unfold kRk; omega)).trans ((q23f 1 3 (by unfold kRx; omega)).trans ((q14f 1 3 (by unfold kRa; omega)).trans ((q4g 1 3 (by unfold kRO; omega)).trans hc)))))))) (by omega) ?_
        refine e_Ok.run (t' := (63, [(1, (0, z41)), (0, (1, 1))], [(0, 0), (0, 40), (1, cd)], w103)) 2 rfl ?_
        refine e_Ok.callV rfl (by omega) rfl (lD0 hcd) rfl rfl (c_21 q105T hcd (by omega) (by omega)) (fun r111 w112 h113 => ?_)
        obtain ⟨z115, rfl, q114f, q114T, q114x⟩ := h113
        have q114H : e_Has kRy w112 := H_fr q114f (fun c k g => by unfold kEm at g; omega) q105H
        have q114k : tkR w112 := (q105k.fr q114f (fun k g => by unfold kEm; omega))
        have q114z : 0 ≤ z115 ∧ z115 ≤ 4000 := by have g := e_Has.get q105T (c := cd) (k := 0) (lo := 0) (hi := 4000) (kD_0 hcd) (by decide); unfold emQ at q114x; omega
        have f116 : e_fr (kRt cd) w w112 := e_fr.trans f106 (e_fr.mono q114f (fun c k q => by unfold kEm at q; unfold kRt; omega))
        have s117 : gS w103 w112 cd 1 0 0 0 0 := gS.big hcd ((e_Has.get q105T (c := cd) (k := 0) (lo := 0) (hi := 4000) (kD_0 hcd) (by decide)).1) (by omega) q114f q114x (by omega) (by omega) (fun _ => Or.inl rfl) (fun g => by omega)
        have x118 : gS w w112 cd (-4) 1 0 0 0 := gS.trans x108 s117 (by omega)
        have p119 := zpl.step p109 s117
        have p120 := lpK.step p110 s117
        have p121 : zpl w112 cd z115 40 := zpl.em hcd ((e_Has.get q105T (c := cd) (k := 0) (lo := 0) (hi := 4000) (kD_0 hcd) (by decide)).1) q114f q114x (by omega)
        show e_Ok 20 elay kcode eI (d + 1) 154 (66, [(1, (0, z41)), (0, (1, 1))], [(0, z115)], w112) _
        refine e_Ok.run (t' := (68, [(2, (0, z115)), (1, (0, z41)), (0, (1, 1))], [(1, 1)], w112)) 2 rfl ?_
        refine e_Ok.getr (z := cd) rfl (el_o rfl) rfl rfl ((q114f 1 3 (by unfold kEm; omega)).trans ((q105f 1 3 (by unfold kRk; omega)).trans ((q90f 1 3 (by unfold kRa; omega)).trans ((q50f 1 3 (by unfold kRt; omega)).trans ((q40f 1 3 (by unfold kEm; omega)).trans ((q31f 1 3 (by unfold kRk; omega)).trans ((q23f 1 3 (by unfold kRx; omega)).trans ((q14f 1 3 (by unfold kRa; omega)).trans ((q4g 1 3 (by unfold kRO; omega)).trans hc))))))))) (by omega) ?_
        refine e_Ok.run (t' := (73, [(2, (0, z115)), (1, (0, z41)), (0, (1, 1))], [(1, 1), (0, z41), (1, cd)], w112)) 2 rfl ?_
        refine e_Ok.getr (z := cd) rfl (el_o rfl) rfl rfl ((q114f 1 3 (by unfold kEm; omega)).trans ((q105f 1 3 (by unfold kRk; omega)).trans ((q90f 1 3 (by unfold kRa; omega)).trans ((q50f 1 3 (by unfold kRt; omega)).trans ((q40f 1 3 (by unfold kEm; omega)).trans ((q31f 1 3 (by unfold kRk; omega)).trans ((q23f 1 3 (by unfold kRx; omega)).trans ((q14f 1 3 (by unfold kRa; omega)).trans ((q4g 1 3 (by unfold kRO; omega)).trans hc))))))))) (by omega) ?_
        have h122 := (e_Has.get q114T (c := cd) (k := 0) (lo := 0) (hi := 4000) (kD_0 hcd) (by decide))
        refine e_Ok.getf (z := w112 cd 0) rfl (lD0 hcd) rfl rfl rfl (by omega) ?_
        refine e_Ok.callV rfl (by omega) rfl (lD0 hcd) rfl rfl (c_22 q114T hcd (by omega) (by have g := e_Has.get q114T (c := cd) (k := 0) (lo := 0) (hi := 4000) (kD_0 hcd) (by decide); omega)) (fun r123 w124 h125 => ?_)
        obtain ⟨rfl, q126f, q126T, q126x⟩ := h125
        have q126H : e_Has kRy w124 := H_fr q126f (fun c k g => by unfold kPa at g; omega) q114H
        have q126k : tkR w124 := q114k.fr q126f (fun k g => by unfold kPa; omega)
        have f127 : e_fr (kRt cd) w w124 := e_fr.trans f116 (e_fr.mono q126f (fun c k q => by unfold kPa at q; unfold kRt; omega))
        have s128 : gS w112 w124 cd 0 0 0 0 0 := gS.pat hcd ((e_Has.get q114T (c := cd) (k := 0) (lo := 0) (hi := 4000) (kD_0 hcd) (by decide)).1) q126f q126x (show w112 cd 0 = w112 cd 0 from Eq.symm rfl) p119 (by omega)
        have x129 : gS w w124 cd (-4) 1 0 0 0 := gS.trans x118 s128 (by omega)
        have p130 := zpl.step p119 s128
        have p131 := zpl.step p121 s128
        have p132 := lpK.step p120 s128
        show e_Ok 20 elay kcode eI (d + 1) 154 (82, [(2, (0, z115)), (1, (0, z41)), (0, (1, 1))], [], w124) _
        refine e_Ok.run (t' := (85, [(1, (0, z115)), (2, (0, z115)), (0, (1, 1))], [(1, 1)], w124)) 3 rfl ?_
        refine e_Ok.callV rfl (by omega) rfl rfl rfl rfl (hB (by omega) d rfl w124 cd t lp ⟨q126T, q126H, ((q126f 1 3 (by unfold kPa; omega)).trans ((q114f 1 3 (by unfold kEm; omega)).trans ((q105f 1 3 (by unfold kRk; omega)).trans ((q90f 1 3 (by unfold kRa; omega)).trans ((q50f 1 3 (by unfold kRt; omega)).trans ((q40f 1 3 (by unfold kEm; omega)).trans ((q31f 1 3 (by unfold kRk; omega)).trans ((q23f 1 3 (by unfold kRx; omega)).trans ((q14f 1 3 (by unfold kRa; omega)).trans ((q4g 1 3 (by unfold kRO; omega)).trans hc)))))))))), hcd, q126k⟩ ((q126f 1 11 (by unfold kPa; omega)).trans ((q114f 1 11 (by unfold kEm; omega)).trans ((q105f 1 11 (by unfold kRk; omega)).trans ((q90f 1 11 (by unfold kRa; omega)).trans (q50o.trans ((q40f 1 11 (by unfold kEm; omega)).trans ((q31f 1 11 (by unfold kRk; omega)).trans (q23o.trans ((q14f 1 11 (by unfold kRa; omega)).trans q4b))))))))) ((q126f 1 12 (by unfold kPa; omega)).trans ((q114f 1 12 (by unfold kEm; omega)).trans ((q105f 1 12 (by unfold kRk; omega)).trans ((q90f 1 12 (by unfold kRa; omega)).trans (q50t.trans ((q40f 1 12 (by unfold kEm; omega)).trans ((q31f 1 12 (by unfold kRk; omega)).trans ((q23f 1 12 (by unfold kRx; omega)).trans ((q14f 1 12 (by unfold kRa; omega)).trans ((q4g 1 12 (by unfold kRO; omega)).trans ht)))))))))) (by omega) ((q126f 1 13 (by unfold kPa; omega)).trans ((q114f 1 13 (by unfold kEm; omega)).trans ((q105f 1 13 (by unfold kRk; omega)).trans ((q90f 1 13 (by unfold kRa; omega)).trans (q50l.trans ((q40f 1 13 (by unfold kEm; omega)).trans ((q31f 1 13 (by unfold kRk; omega)).trans ((q23f 1 13 (by unfold kRx; omega)).trans ((q14f 1 13 (by unfold kRa; omega)).trans ((q4g 1 13 (by unfold kRO; omega)).trans hlp)))))))))) p132 trivial) (fun r133 w134 h135 => ?_)
        obtain ⟨rfl, q136f, ⟨q136T, q136H, q136c, -, q136k⟩, ⟨q136o, q136t, q136l⟩, q136x⟩ := h135
        have f137 : e_fr (kRt cd) w w134 := e_fr.trans f127 (e_fr.mono q136f (fun c k q => by exact q))
        have s138 : gS w124 w134 cd 0 0 0 0 0 := q136x
        have x139 : gS w w134 cd (-4) 1 0 0 0 := gS.trans x129 s138 (by omega)
        have p140 := zpl.step p130 s138
        have p141 := zpl.step p131 s138
        have p142 := lpK.step p132 s138
        show e_Ok 20 elay kcode eI (d + 1) 154 (88, [(1, (0, z115)), (2, (0, z115)), (0, (1, 1))], [], w134) _
        refine e_Ok.run (t' := (89, [(1, (0, z115)), (2, (0, z115)), (0, (1, 1))], [(1, 1)], w134)) 1 rfl ?_
        refine e_Ok.getr (z := cd) rfl (el_o rfl) rfl rfl ((q136f 1 3 (by unfold kRt; omega)).trans ((q126f 1 3 (by unfold kPa; omega)).trans ((q114f 1 3 (by unfold kEm; omega)).trans ((q105f 1 3 (by unfold kRk; omega)).trans ((q90f 1 3 (by unfold kRa; omega)).trans ((q50f 1 3 (by unfold kRt; omega)).trans ((q40f 1 3 (by unfold kEm; omega)).trans ((q31f 1 3 (by unfold kRk; omega)).trans ((q23f 1 3 (by unfold kRx; omega)).trans ((q14f 1 3 (by unfold kRa; omega)).trans ((q4g 1 3 (by unfold kRO; omega)).trans hc))))))))))) (by omega) ?_
        refine e_Ok.run (t' := (94, [(1, (0, z115)), (2, (0, z115)), (0, (1, 1))], [(1, 1), (0, z115), (1, cd)], w134)) 2 rfl ?_
        refine e_Ok.getr (z := cd) rfl (el_o rfl) rfl rfl ((q136f 1 3 (by unfold kRt; omega)).trans ((q126f 1 3 (by unfold kPa; omega)).trans ((q114f 1 3 (by unfold kEm; omega)).trans ((q105f 1 3 (by unfold kRk; omega)).trans ((q90f 1 3 (by unfold kRa; omega)).trans ((q50f 1 3 (by unfold kRt; omega)).trans ((q40f 1 3 (by unfold kEm; omega)).trans ((q31f 1 3 (by unfold kRk; omega)).trans ((q23f 1 3 (by unfold kRx; omega)).trans ((q14f 1 3 (by unfold kRa; omega)).trans ((q4g 1 3 (by unfold kRO; omega)).trans hc))))))))))) (by omega) ?_
        have h143 := (e_Has.get q136T (c := cd) (k := 0) (lo := 0) (hi := 4000) (kD_0 hcd) (by decide))
        refine e_Ok.getf (z := w134 cd 0) rfl (lD0 hcd) rfl rfl rfl (by omega) ?_
        refine e_Ok.callV rfl (by omega) rfl (lD0 hcd) rfl rfl (c_22 q136T hcd (by omega) (by have g := e_Has.get q136T (c := cd) (k := 0) (lo := 0) (hi := 4000) (kD_0 hcd) (by decide); omega)) (fun r144 w145 h146 => ?_)
        obtain ⟨rfl, q147f, q147T, q147x⟩ := h146
        have q147H : e_Has kRy w145 := H_fr q147f (fun c k g => by unfold kPa at g; omega) q136H
        have q147k : tkR w145 := q136k.fr q147f (fun k g => by unfold kPa; omega)
        have f148 : e_fr (kRt cd) w w145 := e_fr.trans f137 (e_fr.mono q147f (fun c k q => by unfold kPa at q; unfold kRt; omega))
        have s149 : gS w134 w145 cd 0 0 0 0 0 := gS.pat hcd ((e_Has.get q136T (c := cd) (k := 0) (lo := 0) (hi := 4000) (kD_0 hcd) (by decide)).1) q147f q147x (show w134 cd 0 = w134 cd 0 from Eq.symm rfl) p141 (by omega)
        have x150 : gS w w145 cd (-4) 1 0 0 0 := gS.trans x139 s149 (by omega)
        have p151 := zpl.step p140 s149
        have p152 := zpl.step p141 s149
        have p153 := lpK.step p142 s149
        show e_Ok 20 elay kcode eI (d + 1) 154 (103, [(1, (0, z115)), (2, (0, z115)), (0, (1, 1))], [], w145) _
        refine e_Ok.run (t' := (106, [(1, (0, z115)), (2, (0, z115)), (0, (1, 1))], [(0, 23), (1, 1)], w145)) 2 rfl ?_
        refine e_Ok.callV rfl (by omega) rfl rfl rfl rfl (c_129 (by omega) q147T q147H q147k (by omega)) (fun r154 w155 h156 => ?_)
        obtain ⟨rfl, q157f, q157T, q157H, q157k, q157x⟩ := h156
        have f158 : e_fr (kRt cd) w w155 := e_fr.trans f148 (e_fr.mono q157f (fun c k q => by unfold kRk at q; unfold kRt; omega))
        have s159 : gS w145 w155 cd (-3) 0 0 0 0 := gS.acc hcd ((e_Has.get q147T (c := cd) (k := 0) (lo := 0) (hi := 4000) (kD_0 hcd) (by decide)).1) (by omega) q157f q157x (fun g => q147k.a3 (by omega))
        have x160 : gS w w155 cd (-7) 1 0 0 0 := gS.trans x150 s159 (by omega)
        have p161 := zpl.step p151 s159
        have p162 := zpl.step p152 s159
        have p163 := lpK.step p153 s159
        show e_Ok 20 elay kcode eI (d + 1) 154 (109, [(1, (0, z115)), (2, (0, z115)), (0, (1, 1))], [], w155) _
        refine e_Ok.run (t' := (111, [(1, (0, z115)), (2, (0, z115)), (0, (1, 1))], [(1, 1), (1, 1)], w155)) 2 rfl ?_
        refine e_Ok.getf (z := o + 1) rfl (el_o rfl) rfl rfl ((q157f 1 11 (by unfold kRk; omega)).trans ((q147f 1 11 (by unfold kPa; omega)).trans (q136o.trans ((q126f 1 11 (by unfold kPa; omega)).trans ((q114f 1 11 (by unfold kEm; omega)).trans ((q105f 1 11 (by unfold kRk; omega)).trans ((q90f 1 11 (by unfold kRa; omega)).trans (q50o.trans ((q40f 1 11 (by unfold kEm; omega)).trans ((q31f 1 11 (by unfold kRk; omega)).trans (q23o.trans ((q14f 1 11 (by unfold kRa; omega)).trans q4b)))))))))))) (by omega) ?_
        refine e_Ok.run (t' := (115, [(1, (0, z115)), (2, (0, z115)), (0, (1, 1))], [(0, 1), (0, o + 1), (1, 1)], w155)) 1 rfl ?_
        refine e_Ok.sub' (z := o) rfl (by omega) (by omega) ?_
        refine e_Ok.putf rfl (el_o rfl) rfl rfl ?_
        generalize hw164 : e_up w155 1 11 o = w164
        have f165 : e_fr (kRt cd) w w164 := e_fr.up f158 hw164 (by unfold kRt; omega)
        have hT166 : e_Has kTy w164 := e_Has.ups q157T hw164 rfl
        have hH167 : e_Has kRy w164 := e_Has.upr q157H hw164 rfl (by omega)
        have t168 : tkR w164 := q157k.eq (fun k g => by rw [← hw164]; exact e_up_ne _ _ (by omega))
        have g169 : e_fr (fun c k => c = 1 ∧ 11 ≤ k ∧ k ≤ 13) w155 w164 := fun c k g => by have g2 : ¬ (c = 1 ∧ 11 ≤ k ∧ k ≤ 13) := g; rw [← hw164]; exact e_up_ne _ _ (by omega)
        have s170 : gS w155 w164 cd 0 0 0 0 0 := gS.wr hcd ((e_Has.get q157T (c := cd) (k := 0) (lo := 0) (hi := 4000) (kD_0 hcd) (by decide)).1) (by omega) g169
        have x171 : gS w w164 cd (-7) 1 0 0 0 := gS.trans x160 s170 (by omega)
        have p172 := zpl.step p161 s170
        have p173 := zpl.step p162 s170
        have p174 := lpK.step p163 s170
        refine e_Ok.rets rfl rfl ?_
        exact ⟨rfl, f165, ⟨hT166, hH167, (by rw [← hw164]; exact (e_up_ne _ _ (Or.inr (by omega))).trans ((q157f 1 3 (by unfold kRk; omega)).trans ((q147f 1 3 (by unfold kPa; omega)).trans ((q136f 1 3 (by unfold kRt; omega)).trans ((q126f 1 3 (by unfold kPa; omega)).trans ((q114f 1 3 (by unfold kEm; omega)).trans ((q105f 1 3 (by unfold kRk; omega)).trans ((q90f 1 3 (by unfold kRa; omega)).trans ((q50f 1 3 (by unfold kRt; omega)).trans ((q40f 1 3 (by unfold kEm; omega)).trans ((q31f 1 3 (by unfold kRk; omega)).trans ((q23f 1 3 (by unfold kRx; omega)).trans ((q14f 1 3 (by unfold kRa; omega)).trans ((q4g 1 3 (by unfold kRO; omega)).trans hc)))))))))))))), hcd, t168⟩, ⟨(by have g1 : w164 1 11 = o := (by rw [← hw164]; exact e_up_eq _ _ _ _); have g0 : w 1 11 = o := ho; omega), (by have g1 : w164 1 12 = t := (by rw [← hw164]; exact (e_up_ne _ _ (Or.inr (by omega))).trans ((q157f 1 12 (by unfold kRk; omega)).trans ((q147f 1 12 (by unfold kPa; omega)).trans (q136t.trans ((q126f 1 12 (by unfold kPa; omega)).trans ((q114f 1 12 (by unfold kEm; omega)).trans ((q105f 1 12 (by unfold kRk; omega)).trans ((q90f 1 12 (by unfold kRa; omega)).trans (q50t.trans ((q40f 1 12 (by unfold kEm; omega)).trans ((q31f 1 12 (by unfold kRk; omega)).trans ((q23f 1 12 (by unfold kRx; omega)).trans ((q14f 1 12 (by unfold kRa; omega)).trans ((q4g 1 12 (by unfold kRO; omega)).trans ht)))))))))))))); have g0 : w 1 12 = t := ht; omega), (by have g1 : w164 1 13 = lp := (by rw [← hw164]; exact (e_up_ne _ _ (Or.inr (by omega))).trans ((q157f 1 13 (by unfold kRk; omega)).trans ((q147f 1 13 (by unfold kPa; omega)).trans (q136l.trans ((q126f 1 13 (by unfold kPa; omega)).trans ((q114f 1 13 (by unfold kEm; omega)).trans ((q105f 1 13 (by unfold kRk; omega)).trans ((q90f 1 13 (by unfold kRa; omega)).trans (q50l.trans ((q40f 1 13 (by unfold kEm; omega)).trans ((q31f 1 13 (by unfold kRk; omega)).trans ((q23f 1 13 (by unfold kRx; omega)).trans ((q14f 1 13 (by unfold kRa; omega)).trans ((q4g 1 13 (by unfold kRO; omega)).trans hlp)))))))))))))); have g0 : w 1 13 = lp := hlp; omega)⟩, x171.le (by omega)⟩
    · replace h10 : (1 : Int) = 0 := by have q : ¬ ((1 : Int) ≠ 0) := h10; omega
      exfalso; omega
  · show e_Ok 20 elay kcode eI (d + 1) 154 (4, [(0, (1, 1))], [(0, 0)], w2) _
    have f175 : e_fr (kRt cd) w w2 := e_fr.trans (e_fr.refl w) (e_fr.mono q4d (fun c k q => by unfold kRk at q; unfold kRt; omega))
    have q4n := q4a
    have s176 : gS w w2 cd 0 1 0 1 0 := gS.dead q4n
    have x177 : gS w w2 cd 0 1 0 1 0 := gS.trans x0 s176 (by omega)
    have p178 := lpK.step hlk s176
    refine e_Ok.if1 rfl (fun h179 => ?_) (fun h179 => ?_)
    · replace h179 : (0 : Int) ≠ 0 := h179
      exfalso; omega
    · replace h179 : (0 : Int) = 0 := by have q : ¬ ((0 : Int) ≠ 0) := h179; omega
      refine e_Ok.rets rfl rfl ?_
      exact ⟨rfl, f175, ⟨q4T, q4H, ((q4d 1 3 (by unfold kRk; omega)).trans hc), hcd, q4k⟩, ⟨(by have g1 : w2 1 11 = o := ((q4d 1 11 (by unfold kRk; omega)).trans ho); have g0 : w 1 11 = o := ho; omega), (by have g1 : w2 1 12 = t := ((q4d 1 12 (by unfold kRk; omega)).trans ht); have g0 : w 1 12 = t := ht; omega), (by have g1 : w2 1 13 = lp := ((q4d 1 13 (by unfold kRk; omega)).trans hlp); have g0 : w 1 13 = lp := hlp; omega)⟩, gS.dead q4n⟩
set_option maxHeartbeats 4000000 in
theorem c_155 {d : Nat} (hd : 281 ≤ d) {w : eW} {cd o : Int} (hS : rS w cd) (ho : w 1 11 = o) (hor : 0 ≤ o ∧ o ≤ 30) {t lp : Int} (ht : w 1 12 = t) (htr : 0 ≤ t ∧ t ≤ o) (hlp : w 1 13 = lp) (hlk : lpK w cd lp) (h5 : w 1 5 = 41) (hB : o < 30 → ∀ k, d = k + 1 → zgC 144 (o + 1) 0 0 (fun _ => True) k) : e_Ok 20 elay kcode eI d 155 (0, [(0, (1, 1))], [], w) (fun r w' => r = [] ∧ gQ w w' cd 0 0 0) := by
  obtain ⟨d, rfl⟩ : ∃ e, d = e + 1 := ⟨d - 1, by omega⟩
  obtain ⟨hT, hH, hc, hcd, hk⟩ := hS
  have hcd2 := hcd; unfold isCd at hcd2
  have hcd3 : 2 ≤ cd ∧ cd ≤ 145 := by omega
  have pL := e_Has.get hT (c := cd) (k := 0) (lo := 0) (hi := 4000) (kD_0 hcd) (by decide)
  have p1 := e_Has.get hH (c := 1) (k := 1) (lo := (-2147483648)) (hi := 2147483647) rfl (by decide)
  have p5 := e_Has.get hH (c := 1) (k := 5) (lo := 0) (hi := 53) rfl (by decide)
  have p6 := e_Has.get hH (c := 1) (k := 6) (lo := 0) (hi := 4000) rfl (by decide)
  have p9 := e_Has.get hH (c := 1) (k := 9) (lo := (-2147483648)) (hi := 2147483647) rfl (by decide)
  have p7 := e_Has.get hH (c := 1) (k := 7) (lo := 0) (hi := 4000) rfl (by decide)
  have p12 := e_Has.get hH (c := 1) (k := 12) (lo := 0) (hi := 30) rfl (by decide)
  have p13 := e_Has.get hH (c := 1) (k := 13) (lo := (-1)) (hi := 4000) rfl (by decide)
  have x0 : gS w w cd 0 0 0 0 0 := gS.refl pL.1
  refine e_Ok.run (t' := (1, [(0, (1, 1))], [(1, 1)], w)) 1 rfl ?_
  refine e_Ok.callV rfl (by omega) rfl rfl rfl rfl (c_132 (by omega) hT hH hk (o := o) ho (by omega)) (fun r1 w2 h3 => ?_)
  obtain ⟨z5, rfl, q4f, q4T, q4H, q4k, ⟨rfl, q4a, q4b, q4c⟩ | ⟨rfl, q4a, q4b, q4c, q4d⟩⟩ := h3
  · show e_Ok 20 elay kcode eI (d + 1) 155 (4, [(0, (1, 1))], [(0, 1)], w2) _
    have q4g : e_fr kRO w w2 := fun c k g => by have g2 : ¬ (c = 1 ∧ k = 11) := g; by_cases h : c = 1 ∧ (k = 12 ∨ k = 13); (exact q4f c k (by unfold kRo; omega)); (exact q4c c k (show ¬ (c = 1 ∧ 11 ≤ k ∧ k ≤ 13) from by omega))
    have f6 : e_fr (kRt cd) w w2 := e_fr.trans (e_fr.refl w) (e_fr.mono q4g (fun c k q => by unfold kRO at q; unfold kRt; omega))
    have s7 : gS w w2 cd 0 0 0 0 0 := gS.wr hcd ((e_Has.get hT (c := cd) (k := 0) (lo := 0) (hi := 4000) (kD_0 hcd) (by decide)).1) (by omega) q4c
    have x8 : gS w w2 cd 0 0 0 0 0 := gS.trans x0 s7 (by omega)
    have p9 := lpK.step hlk s7
    refine e_Ok.if1 rfl (fun h10 => ?_) (fun h10 => ?_)
    · replace h10 : (1 : Int) ≠ 0 := h10
      refine e_Ok.run (t' := (9, [(0, (1, 1))], [(1, 1)], w2)) 1 rfl ?_
      refine e_Ok.getf (z := lp) rfl (el_o rfl) rfl rfl ((q4g 1 13 (by unfold kRO; omega)).trans hlp) (by omega) ?_
      refine e_Ok.run (t' := (15, [(1, (0, lp)), (0, (1, 1))], [(1, 1), (1, 1)], w2)) 3 rfl ?_
      refine e_Ok.getr (z := cd) rfl (el_o rfl) rfl rfl ((q4g 1 3 (by unfold kRO; omega)).trans hc) (by omega) ?_
      refine e_Ok.run (t' := (21, [(1, (0, lp)), (0, (1, 1))], [(1, 1), (0, 45), (1, cd), (1, 1)], w2)) 2 rfl ?_
      refine e_Ok.getf (z := t) rfl (el_o rfl) rfl rfl ((q4g 1 12 (by unfold kRO; omega)).trans ht) (by omega) ?_
      refine e_Ok.callV rfl (by omega) rfl (lD0 hcd) rfl rfl (c_21 q4T hcd (by omega) (by omega)) (fun r11 w12 h13 => ?_)
      obtain ⟨z15, rfl, q14f, q14T, q14x⟩ := h13
      have q14H : e_Has kRy w12 := H_fr q14f (fun c k g => by unfold kEm at g; omega) q4H
      have q14k : tkR w12 := (q4k.fr q14f (fun k g => by unfold kEm; omega))
      have q14z : 0 ≤ z15 ∧ z15 ≤ 4000 := by have g := e_Has.get q4T (c := cd) (k := 0) (lo := 0) (hi := 4000) (kD_0 hcd) (by decide); unfold emQ at q14x; omega
      have f16 : e_fr (kRt cd) w w12 := e_fr.trans f6 (e_fr.mono q14f (fun c k q => by unfold kEm at q; unfold kRt; omega))
      have s17 : gS w2 w12 cd 1 0 0 0 0 := gS.big hcd ((e_Has.get q4T (c := cd) (k := 0) (lo := 0) (hi := 4000) (kD_0 hcd) (by decide)).1) (by omega) q14f q14x (by omega) (by omega) (fun g => by omega) (fun g => by omega)
      have x18 : gS w w12 cd 1 0 0 0 0 := gS.trans x8 s17 (by omega)
      have p19 := lpK.step p9 s17
      show e_Ok 20 elay kcode eI (d + 1) 155 (27, [(1, (0, lp)), (0, (1, 1))], [(0, z15), (1, 1)], w12) _
      refine e_Ok.putf rfl (el_o rfl) rfl rfl ?_
      generalize hw20 : e_up w12 1 13 z15 = w20
      have f21 : e_fr (kRt cd) w w20 := e_fr.up f16 hw20 (by unfold kRt; omega)
      have hT22 : e_Has kTy w20 := e_Has.ups q14T hw20 rfl
      have hH23 : e_Has kRy w20 := e_Has.upr q14H hw20 rfl (by omega)
      have t24 : tkR w20 := q14k.eq (fun k g => by rw [← hw20]; exact e_up_ne _ _ (by omega))
      have g25 : e_fr (fun c k => c = 1 ∧ 11 ≤ k ∧ k ≤ 13) w12 w20 := fun c k g => by have g2 : ¬ (c = 1 ∧ 11 ≤ k ∧ k ≤ 13) := g; rw [← hw20]; exact e_up_ne _ _ (by omega)
      have s26 : gS w12 w20 cd 0 0 0 0 0 := gS.wr hcd ((e_Has.get q14T (c := cd) (k := 0) (lo := 0) (hi := 4000) (kD_0 hcd) (by decide)).1) (by omega) g25
      have x27 : gS w w20 cd 1 0 0 0 0 := gS.trans x18 s26 (by omega)
      have p28 := lpK.step p19 s26
      refine e_Ok.run (t' := (31, [(1, (0, lp)), (0, (1, 1))], [(1, 1)], w20)) 1 rfl ?_
      refine e_Ok.getf (z := z15) rfl (el_o rfl) rfl rfl (by rw [← hw20]; exact e_up_eq _ _ _ _) (by omega) ?_
      refine e_Ok.run (t' := (36, [(2, (0, z15)), (1, (0, lp)), (0, (1, 1))], [(1, 1)], w20)) 2 rfl ?_
      refine e_Ok.getr (z := cd) rfl (el_o rfl) rfl rfl (by rw [← hw20]; exact (e_up_ne _ _ (Or.inr (by omega))).trans ((q14f 1 3 (by unfold kEm; omega)).trans ((q4g 1 3 (by unfold kRO; omega)).trans hc))) (by omega) ?_
      refine e_Ok.run (t' := (42, [(2, (0, z15)), (1, (0, lp)), (0, (1, 1))], [(0, 0), (0, 49), (1, cd)], w20)) 2 rfl ?_
      refine e_Ok.callV rfl (by omega) rfl (lD0 hcd) rfl rfl (c_21 hT22 hcd (by omega) (by omega)) (fun r29 w30 h31 => ?_)
      obtain ⟨z33, rfl, q32f, q32T, q32x⟩ := h31
      have q32H : e_Has kRy w30 := H_fr q32f (fun c k g => by unfold kEm at g; omega) hH23
      have q32k : tkR w30 := (t24.fr q32f (fun k g => by unfold kEm; omega))
      have q32z : 0 ≤ z33 ∧ z33 ≤ 4000 := by have g := e_Has.get hT22 (c := cd) (k := 0) (lo := 0) (hi := 4000) (kD_0 hcd) (by decide); unfold emQ at q32x; omega
      have f34 : e_fr (kRt cd) w w30 := e_fr.trans f21 (e_fr.mono q32f (fun c k q => by unfold kEm at q; unfold kRt; omega))
      have s35 : gS w20 w30 cd 1 0 0 0 0 := gS.big hcd ((e_Has.get hT22 (c := cd) (k := 0) (lo := 0) (hi := 4000) (kD_0 hcd) (by decide)).1) (by omega) q32f q32x (by omega) (by omega) (fun _ => Or.inl rfl) (fun g => by omega)
      have x36 : gS w w30 cd 2 0 0 0 0 := gS.trans x27 s35 (by omega)
      have p37 := lpK.step p28 s35
      have p38 : zpl w30 cd (z15 + 1) 49 := zpl.nx ((e_Has.get q4T (c := cd) (k := 0) (lo := 0) (hi := 4000) (kD_0 hcd) (by decide)).1) q14x (show w20 cd 0 = w12 cd 0 from (by rw [← hw20]; exact (e_up_ne _ _ (Or.inr (by omega))).trans rfl)) q32x (by omega)
      show e_Ok 20 elay kcode eI (d + 1) 155 (45, [(2, (0, z15)), (1, (0, lp)), (0, (1, 1))], [(0, z33)], w30) _
      refine e_Ok.run (t' := (47, [(2, (0, z15)), (1, (0, lp)), (0, (1, 1))], [(1, 1)], w30)) 2 rfl ?_
      refine e_Ok.getr (z := cd) rfl (el_o rfl) rfl rfl ((q32f 1 3 (by unfold kEm; omega)).trans (by rw [← hw20]; exact (e_up_ne _ _ (Or.inr (by omega))).trans ((q14f 1 3 (by unfold kEm; omega)).trans ((q4g 1 3 (by unfold kRO; omega)).trans hc)))) (by omega) ?_
      refine e_Ok.run (t' := (53, [(2, (0, z15)), (1, (0, lp)), (0, (1, 1))], [(0, 0), (0, 50), (1, cd)], w30)) 2 rfl ?_
      refine e_Ok.callV rfl (by omega) rfl (lD0 hcd) rfl rfl (c_21 q32T hcd (by omega) (by omega)) (fun r40 w41 h42 => ?_)
      obtain ⟨z44, rfl, q43f, q43T, q43x⟩ := h42
      have q43H : e_Has kRy w41 := H_fr q43f (fun c k g => by unfold kEm at g; omega) q32H
      have q43k : tkR w41 := (q32k.fr q43f (fun k g => by unfold kEm; omega))
      have q43z : 0 ≤ z44 ∧ z44 ≤ 4000 := by have g := e_Has.get q32T (c := cd) (k := 0) (lo := 0) (hi := 4000) (kD_0 hcd) (by decide); unfold emQ at q43x; omega
      have f45 : e_fr (kRt cd) w w41 := e_fr.trans f34 (e_fr.mono q43f (fun c k q => by unfold kEm at q; unfold kRt; omega))
      have s46 : gS w30 w41 cd 1 0 0 1 0 := gS.beg hcd ((e_Has.get q32T (c := cd) (k := 0) (lo := 0) (hi := 4000) (kD_0 hcd) (by decide)).1) q43f q43x
      have x47 : gS w w41 cd 3 0 0 1 0 := gS.trans x36 s46 (by omega)
      have p48 := zpl.step p38 s46
      have p49 := lpK.step p37 s46
      have p50 : zpl w41 cd z44 50 := zpl.em hcd ((e_Has.get q32T (c := cd) (k := 0) (lo := 0) (hi := 4000) (kD_0 hcd) (by decide)).1) q43f q43x (by omega)
      show e_Ok 20 elay kcode eI (d + 1) 155 (56, [(2, (0, z15)), (1, (0, lp)), (0, (1, 1))], [(0, z44)], w41) _
      refine e_Ok.run (t' := (58, [(3, (0, z44)), (2, (0, z15)), (1, (0, lp)), (0, (1, 1))], [(1, 1)], w41)) 2 rfl ?_
      refine e_Ok.callV rfl (by omega) rfl rfl rfl rfl (c_123 (by omega) q43T q43H q43k.1.2) (fun r51 w52 h53 => ?_)
      obtain ⟨rfl, q54f, q54T, q54H, q54k, q54x, q544⟩ := h53
      have f55 : e_fr (kRt cd) w w52 := e_fr.trans f45 (e_fr.mono q54f (fun c k q => by unfold kRa at q; unfold kRt; omega))
      have k56 : w41 1 5 = w 1 5 := ((q43f 1 5 (by unfold kEm; omega)).trans ((q32f 1 5 (by unfold kEm; omega)).trans (by rw [← hw20]; exact (e_up_ne _ _ (Or.inr (by omega))).trans ((q14f 1 5 (by unfold kEm; omega)).trans ((q4g 1 5 (by unfold kRO; omega)).trans rfl)))))
      have s57 : gS w41 w52 cd (-3) 1 0 1 0 := gS.adv hcd ((e_Has.get q43T (c := cd) (k := 0) (lo := 0) (hi := 4000) (kD_0 hcd) (by decide)).1) (by omega) q54f q54x (q43k.a3 (by omega))
      have x58 : gS w w52 cd 0 0 0 1 0 := gS.trans x47 s57 (by omega)
      have p59 := zpl.step p48 s57
      have p60 := zpl.step p50 s57
      have p61 := lpK.step p49 s57
      show e_Ok 20 elay kcode eI (d + 1) 155 (61, [(3, (0, z44)), (2, (0, z15)), (1, (0, lp)), (0, (1, 1))], [], w52) _
      refine e_Ok.run (t' := (62, [(3, (0, z44)), (2, (0, z15)), (1, (0, lp)), (0, (1, 1))], [(1, 1)], w52)) 1 rfl ?_
      refine e_Ok.callV rfl (by omega) rfl rfl rfl rfl (x_exp (o := (o + 1)) (by omega) (by omega) w52 cd ⟨q54T, q54H, ((q54f 1 3 (by unfold kRa; omega)).trans ((q43f 1 3 (by unfold kEm; omega)).trans ((q32f 1 3 (by unfold kEm; omega)).trans (by rw [← hw20]; exact (e_up_ne _ _ (Or.inr (by omega))).trans ((q14f 1 3 (by unfold kEm; omega)).trans ((q4g 1 3 (by unfold kRO; omega)).trans hc)))))), hcd, q54k⟩ ((q54f 1 11 (by unfold kRa; omega)).trans ((q43f 1 11 (by unfold kEm; omega)).trans ((q32f 1 11 (by unfold kEm; omega)).trans (by rw [← hw20]; exact (e_up_ne _ _ (Or.inr (by omega))).trans ((q14f 1 11 (by unfold kEm; omega)).trans q4b)))))) (fun r62 w63 h64 => ?_)
      obtain ⟨rfl, q65f, ⟨q65T, q65H, q65c, -, q65k⟩, q65o, q65x⟩ := h64
      have f66 : e_fr (kRt cd) w w63 := e_fr.trans f55 (e_fr.mono q65f (fun c k q => by unfold kRx at q; unfold kRt; omega))
      have s67 : gS w52 w63 cd 0 1 0 1 0 := gS.ex q65x
      have x68 : gS w w63 cd 0 0 0 1 0 := gS.trans x58 s67 (by omega)
      have p69 := zpl.step p59 s67
      have p70 := zpl.step p60 s67
      have p71 := lpK.step p61 s67
      show e_Ok 20 elay kcode eI (d + 1) 155 (65, [(3, (0, z44)), (2, (0, z15)), (1, (0, lp)), (0, (1, 1))], [], w63) _
      refine e_Ok.run (t' := (68, [(3, (0, z44)), (2, (0, z15)), (1, (0, lp)), (0, (1, 1))], [(0, 20), (1, 1)], w63)) 2 rfl ?_
      refine e_Ok.callV rfl (by omega) rfl rfl rfl rfl (c_129 (by omega) q65T q65H q65k (by omega)) (fun r72 w73 h74 => ?_)
      obtain ⟨rfl, q75f, q75T, q75H, q75k, q75x⟩ := h74
      have f76 : e_fr (kRt cd) w w73 := e_fr.trans f66 (e_fr.mono q75f (fun c k q => by unfold kRk at q; unfold kRt; omega))
      have s77 : gS w63 w73 cd (-1) 1 0 1 0 := gS.acc hcd ((e_Has.get q65T (c := cd) (k := 0) (lo := 0) (hi := 4000) (kD_0 hcd) (by decide)).1) (by omega) q75f q75x (fun g => q65k.a1 (by omega))
      have x78 : gS w w73 cd (-1) 0 0 1 0 := gS.trans x68 s77 (by omega)
      have p79 := zpl.step p69 s77
      have p80 := zpl.step p70 s77
      have p81 := lpK.step p71 s77
      show e_Ok 20 elay kcode eI (d + 1) 155 (71, [(3, (0, z44)), (2, (0, z15)), (1, (0, lp)), (0, (1, 1))], [], w73) _
      refine e_Ok.run (t' := (72, [(3, (0, z44)), (2, (0, z15)), (1, (0, lp)), (0, (1, 1))], [(1, 1)], w73)) 1 rfl ?_
      refine e_Ok.getr (z := cd) rfl (el_o rfl) rfl rfl ((q75f 1 3 (by unfold kRk; omega)).trans ((q65f 1 3 (by unfold kRx; omega)).trans ((q54f 1 3 (by unfold kRa; omega)).trans ((q43f 1 3 (by unfold kEm; omega)).trans ((q32f 1 3 (by unfold kEm; omega)).trans (by rw [← hw20]; exact (e_up_ne _ _ (Or.inr (by omega))).trans ((q14f 1 3 (by unfold kEm; omega)).trans ((q4g 1 3 (by unfold kRO; omega)).trans hc)))))))) (by omega) ?_
      refine e_Ok.run (t' := (78, [(3, (0, z44)), (2, (0, z15)), (1, (0, lp)), (0, (1, 1))], [(0, 0), (0, 41), (1, cd)], w73)) 2 rfl ?_
      refine e_Ok.callV rfl (by omega) rfl (lD0 hcd) rfl rfl (c_21 q75T hcd (by omega) (by omega)) (fun r82 w83 h84 => ?_)
      obtain ⟨z86, rfl, q85f, q85T, q85x⟩ := h84
      have q85H : e_Has kRy w83 := H_fr q85f (fun c k g => by unfold kEm at g; omega) q75H
      have q85k : tkR w83 := (q75k.fr q85f (fun k g => by unfold kEm; omega))
      have q85z : 0 ≤ z86 ∧ z86 ≤ 4000 := by have g := e_Has.get q75T (c := cd) (k := 0) (lo := 0) (hi := 4000) (kD_0 hcd) (by decide); unfold emQ at q85x; omega
      have f87 : e_fr (kRt cd) w w83 := e_fr.trans f76 (e_fr.mono q85f (fun c k q => by unfold kEm at q; unfold kRt; omega))
      have s88 : gS w73 w83 cd 1 1 0 0 0 := gS.big hcd ((e_Has.get q75T (c := cd) (k := 0) (lo := 0) (hi := 4000) (kD_0 hcd) (by decide)).1) (by omega) q85f q85x (by omega) (by omega) (fun _ => Or.inl rfl) (fun g => by omega)
      have x89 : gS w w83 cd 0 0 0 0 0 := gS.trans x78 s88 (by omega)
      have p90 := zpl.step p79 s88
      have p91 := zpl.step p80 s88
      have p92 := lpK.step p81 s88
      have p93 : zpl w83 cd z86 41 := zpl.em hcd ((e_Has.get q75T (c := cd) (k := 0) (lo := 0) (hi := 4000) (kD_0 hcd) (by decide)).1) q85f q85x (by omega)
      show e_Ok 20 elay kcode eI (d + 1) 155 (81, [(3, (0, z44)), (2, (0, z15)), (1, (0, lp)), (0, (1, 1))], [(0, z86)], w83) _
      refine e_Ok.run (t' := (84, [(4, (0, z86)), (3, (0, z44)), (2, (0, z15)), (1, (0, lp)), (0, (1, 1))], [(1, 1)], w83)) 2 rfl ?_
      refine e_Ok.callV rfl (by omega) rfl rfl rfl rfl (hB (by omega) d rfl w83 cd t z15 ⟨q85T, q85H, ((q85f 1 3 (by unfold kEm; omega)).trans ((q75f 1 3 (by unfold kRk; omega)).trans ((q65f 1 3 (by unfold kRx; omega)).trans ((q54f 1 3 (by unfold kRa; omega)).trans ((q43f 1 3 (by unfold kEm; omega)).trans ((q32f 1 3 (by unfold kEm; omega)).trans (by rw [← hw20]; exact (e_up_ne _ _ (Or.inr (by omega))).trans ((q14f 1 3 (by unfold kEm; omega)).trans ((q4g 1 3 (by unfold kRO; omega)).trans hc))))))))), hcd, q85k⟩ ((q85f 1 11 (by unfold kEm; omega)).trans ((q75f 1 11 (by unfold kRk; omega)).trans (q65o.trans ((q54f 1 11 (by unfold kRa; omega)).trans ((q43f 1 11 (by unfold kEm; omega)).trans ((q32f 1 11 (by unfold kEm; omega)).trans (by rw [← hw20]; exact (e_up_ne _ _ (Or.inr (by omega))).trans ((q14f 1 11 (by unfold kEm; omega)).trans q4b)))))))) ((q85f 1 12 (by unfold kEm; omega)).trans ((q75f 1 12 (by unfold kRk; omega)).trans ((q65f 1 12 (by unfold kRx; omega)).trans ((q54f 1 12 (by unfold kRa; omega)).trans ((q43f 1 12 (by unfold kEm; omega)).trans ((q32f 1 12 (by unfold kEm; omega)).trans (by rw [← hw20]; exact (e_up_ne _ _ (Or.inr (by omega))).trans ((q14f 1 12 (by unfold kEm; omega)).trans ((q4g 1 12 (by unfold kRO; omega)).trans ht))))))))) (by omega) ((q85f 1 13 (by unfold kEm; omega)).trans ((q75f 1 13 (by unfold kRk; omega)).trans ((q65f 1 13 (by unfold kRx; omega)).trans ((q54f 1 13 (by unfold kRa; omega)).trans ((q43f 1 13 (by unfold kEm; omega)).trans ((q32f 1 13 (by unfold kEm; omega)).trans (by rw [← hw20]; exact e_up_eq _ _ _ _))))))) (Or.inr p90) trivial) (fun r94 w95 h101 => ?_)
      obtain ⟨rfl, q103f, ⟨q103T, q103H, q103c, -, q103k⟩, ⟨q103o, q103t, q103l⟩, q103x⟩ := h101
      have f104 : e_fr (kRt cd) w w95 := e_fr.trans f87 (e_fr.mono q103f (fun c k q => by exact q))
      have s105 : gS w83 w95 cd 0 0 0 0 0 := q103x
      have x106 : gS w w95 cd 0 0 0 0 0 := gS.trans x89 s105 (by omega)
      have p107 := zpl.step p90 s105
      have p108 := zpl.step p91 s105
      have p109 := zpl.step p93 s105
      have p110 := lpK.step p92 s105
      show e_Ok 20 elay kcode eI (d + 1) 155 (87, [(4, (0, z86)), (3, (0, z44)), (2, (0, z15)), (1, (0, lp)), (0, (1, 1))], [], w95) _
      refine e_Ok.run (t' := (90, [(4, (0, z86)), (3, (0, z44)), (2, (0, z15)), (1, (0, lp)), (0, (1, 1))], [(0, 23), (1, 1)], w95)) 2 rfl ?_
      refine e_Ok.callV rfl (by omega) rfl rfl rfl rfl (c_129 (by omega) q103T q103H q103k (by omega)) (fun r111 w112 h113 => ?_)
      obtain ⟨rfl, q114f, q114T, q114H, q114k, q114x⟩ := h113
      have f115 : e_fr (kRt cd) w w112 := e_fr.trans f104 (e_fr.mono q114f (fun c k q => by unfold kRk at q; unfold kRt; omega))
      have s116 : gS w95 w112 cd (-3) 0 0 0 0 := gS.acc hcd ((e_Has.get q103T (c := cd) (k := 0) (lo := 0) (hi := 4000) (kD_0 hcd) (by decide)).1) (by omega) q114f q114x (fun g => q103k.a3 (by omega))
      have x117 : gS w w112 cd (-3) 0 0 0 0 := gS.trans x106 s116 (by omega)
      have p118 := zpl.step p107 s116
      have p119 := zpl.step p108 s116
      have p120 := zpl.step p109 s116
      have p121 := lpK.step p110 s116
      show e_Ok 20 elay kcode eI (d + 1) 155 (93, [(4, (0, z86)), (3, (0, z44)), (2, (0, z15)), (1, (0, lp)), (0, (1, 1))], [], w112) _
      refine e_Ok.run (t' := (94, [(4, (0, z86)), (3, (0, z44)), (2, (0, z15)), (1, (0, lp)), (0, (1, 1))], [(1, 1)], w112)) 1 rfl ?_
      refine e_Ok.getr (z := cd) rfl (el_o rfl) rfl rfl ((q114f 1 3 (by unfold kRk; omega)).trans ((q103f 1 3 (by unfold kRt; omega)).trans ((q85f 1 3 (by unfold kEm; omega)).trans ((q75f 1 3 (by unfold kRk; omega)).trans ((q65f 1 3 (by unfold kRx; omega)).trans ((q54f 1 3 (by unfold kRa; omega)).trans ((q43f 1 3 (by unfold kEm; omega)).trans ((q32f 1 3 (by unfold kEm; omega)).trans (by rw [← hw20]; exact (e_up_ne _ _ (Or.inr (by omega))).trans ((q14f 1 3 (by unfold kEm; omega)).trans ((q4g 1 3 (by unfold kRO; omega)).trans hc))))))))))) (by omega) ?_
      refine e_Ok.run (t' := (100, [(4, (0, z86)), (3, (0, z44)), (2, (0, z15)), (1, (0, lp)), (0, (1, 1))], [(0, z44), (0, 40), (1, cd)], w112)) 2 rfl ?_
      refine e_Ok.callV rfl (by omega) rfl (lD0 hcd) rfl rfl (c_21 q114T hcd (by omega) (by omega)) (fun r122 w123 h124 => ?_)
      obtain ⟨z126, rfl, q125f, q125T, q125x⟩ := h124
      have q125H : e_Has kRy w123 := H_fr q125f (fun c k g => by unfold kEm at g; omega) q114H
      have q125k : tkR w123 := (q114k.fr q125f (fun k g => by unfold kEm; omega))
      have q125z : 0 ≤ z126 ∧ z126 ≤ 4000 := by have g := e_Has.get q114T (c := cd) (k := 0) (lo := 0) (hi := 4000) (kD_0 hcd) (by decide); unfold emQ at q125x; omega
      have f127 : e_fr (kRt cd) w w123 := e_fr.trans f115 (e_fr.mono q125f (fun c k q => by unfold kEm at q; unfold kRt; omega))
      have s128 : gS w112 w123 cd 1 0 0 0 0 := gS.big hcd ((e_Has.get q114T (c := cd) (k := 0) (lo := 0) (hi := 4000) (kD_0 hcd) (by decide)).1) (by omega) q125f q125x (by omega) (by omega) (fun _ => Or.inr (fun n l => by obtain ⟨a1, a2, a3⟩ := p119 n l; exact ⟨a2, by omega⟩)) (fun g => by omega)
      have x129 : gS w w123 cd (-2) 0 0 0 0 := gS.trans x117 s128 (by omega)
      have p130 := zpl.step p118 s128
      have p131 := zpl.step p119 s128
      have p132 := zpl.step p120 s128
      have p133 := lpK.step p121 s128
      have p134 : zpl w123 cd z126 40 := zpl.em hcd ((e_Has.get q114T (c := cd) (k := 0) (lo := 0) (hi := 4000) (kD_0 hcd) (by decide)).1) q125f q125x (by omega)
      show e_Ok 20 elay kcode eI (d + 1) 155 (103, [(4, (0, z86)), (3, (0, z44)), (2, (0, z15)), (1, (0, lp)), (0, (1, 1))], [(0, z126)], w123) _
      refine e_Ok.run (t' := (105, [(4, (0, z86)), (3, (0, z44)), (2, (0, z15)), (1, (0, lp)), (0, (1, 1))], [(1, 1)], w123)) 2 rfl ?_
      refine e_Ok.getr (z := cd) rfl (el_o rfl) rfl rfl ((q125f 1 3 (by unfold kEm; omega)).trans ((q114f 1 3 (by unfold kRk; omega)).trans ((q103f 1 3 (by unfold kRt; omega)).trans ((q85f 1 3 (by unfold kEm; omega)).trans ((q75f 1 3 (by unfold kRk; omega)).trans ((q65f 1 3 (by unfold kRx; omega)).trans ((q54f 1 3 (by unfold kRa; omega)).trans ((q43f 1 3 (by unfold kEm; omega)).trans ((q32f 1 3 (by unfold kEm; omega)).trans (by rw [← hw20]; exact (e_up_ne _ _ (Or.inr (by omega))).trans ((q14f 1 3 (by unfold kEm; omega)).trans ((q4g 1 3 (by unfold kRO; omega)).trans hc)))))))))))) (by omega) ?_
      refine e_Ok.run (t' := (111, [(4, (0, z86)), (3, (0, z44)), (2, (0, z15)), (1, (0, lp)), (0, (1, 1))], [(1, 1), (0, z86), (1, cd)], w123)) 2 rfl ?_
      refine e_Ok.getr (z := cd) rfl (el_o rfl) rfl rfl ((q125f 1 3 (by unfold kEm; omega)).trans ((q114f 1 3 (by unfold kRk; omega)).trans ((q103f 1 3 (by unfold kRt; omega)).trans ((q85f 1 3 (by unfold kEm; omega)).trans ((q75f 1 3 (by unfold kRk; omega)).trans ((q65f 1 3 (by unfold kRx; omega)).trans ((q54f 1 3 (by unfold kRa; omega)).trans ((q43f 1 3 (by unfold kEm; omega)).trans ((q32f 1 3 (by unfold kEm; omega)).trans (by rw [← hw20]; exact (e_up_ne _ _ (Or.inr (by omega))).trans ((q14f 1 3 (by unfold kEm; omega)).trans ((q4g 1 3 (by unfold kRO; omega)).trans hc)))))))))))) (by omega) ?_
      have h135 := (e_Has.get q125T (c := cd) (k := 0) (lo := 0) (hi := 4000) (kD_0 hcd) (by decide))
      refine e_Ok.getf (z := w123 cd 0) rfl (lD0 hcd) rfl rfl rfl (by omega) ?_
      refine e_Ok.callV rfl (by omega) rfl (lD0 hcd) rfl rfl (c_22 q125T hcd (by omega) (by have g := e_Has.get q125T (c := cd) (k := 0) (lo := 0) (hi := 4000) (kD_0 hcd) (by decide); omega)) (fun r136 w137 h138 => ?_)
      obtain ⟨rfl, q139f, q139T, q139x⟩ := h138
      have q139H : e_Has kRy w137 := H_fr q139f (fun c k g => by unfold kPa at g; omega) q125H
      have q139k : tkR w137 := q125k.fr q139f (fun k g => by unfold kPa; omega)
      have f140 : e_fr (kRt cd) w w137 := e_fr.trans f127 (e_fr.mono q139f (fun c k q => by unfold kPa at q; unfold kRt; omega))
      have s141 : gS w123 w137 cd 0 0 0 0 0 := gS.pat hcd ((e_Has.get q125T (c := cd) (k := 0) (lo := 0) (hi := 4000) (kD_0 hcd) (by decide)).1) q139f q139x (show w123 cd 0 = w123 cd 0 from Eq.symm rfl) p132 (by omega)
      have x142 : gS w w137 cd (-2) 0 0 0 0 := gS.trans x129 s141 (by omega)
      have p143 := zpl.step p130 s141
      have p144 := zpl.step p131 s141
      have p145 := zpl.step p132 s141
      have p146 := zpl.step p134 s141
      have p147 := lpK.step p133 s141
      show e_Ok 20 elay kcode eI (d + 1) 155 (120, [(4, (0, z86)), (3, (0, z44)), (2, (0, z15)), (1, (0, lp)), (0, (1, 1))], [], w137) _
      refine e_Ok.run (t' := (121, [(4, (0, z86)), (3, (0, z44)), (2, (0, z15)), (1, (0, lp)), (0, (1, 1))], [(1, 1)], w137)) 1 rfl ?_
      refine e_Ok.getr (z := cd) rfl (el_o rfl) rfl rfl ((q139f 1 3 (by unfold kPa; omega)).trans ((q125f 1 3 (by unfold kEm; omega)).trans ((q114f 1 3 (by unfold kRk; omega)).trans ((q103f 1 3 (by unfold kRt; omega)).trans ((q85f 1 3 (by unfold kEm; omega)).trans ((q75f 1 3 (by unfold kRk; omega)).trans ((q65f 1 3 (by unfold kRx; omega)).trans ((q54f 1 3 (by unfold kRa; omega)).trans ((q43f 1 3 (by unfold kEm; omega)).trans ((q32f 1 3 (by unfold kEm; omega)).trans (by rw [← hw20]; exact (e_up_ne _ _ (Or.inr (by omega))).trans ((q14f 1 3 (by unfold kEm; omega)).trans ((q4g 1 3 (by unfold kRO; omega)).trans hc))))))))))))) (by omega) ?_
      refine e_Ok.run (t' := (126, [(4, (0, z86)), (3, (0, z44)), (2, (0, z15)), (1, (0, lp)), (0, (1, 1))], [(0, 1), (0, z15), (1, cd)], w137)) 2 rfl ?_
      refine e_Ok.add (z := z15 + 1) rfl (by omega) (by omega) ?_
      refine e_Ok.run (t' := (128, [(4, (0, z86)), (3, (0, z44)), (2, (0, z15)), (1, (0, lp)), (0, (1, 1))], [(1, 1), (0, z15 + 1), (1, cd)], w137)) 1 rfl ?_
      refine e_Ok.getr (z := cd) rfl (el_o rfl) rfl rfl ((q139f 1 3 (by unfold kPa; omega)).trans ((q125f 1 3 (by unfold kEm; omega)).trans ((q114f 1 3 (by unfold kRk; omega)).trans ((q103f 1 3 (by unfold kRt; omega)).trans ((q85f 1 3 (by unfold kEm; omega)).trans ((q75f 1 3 (by unfold kRk; omega)).trans ((q65f 1 3 (by unfold kRx; omega)).trans ((q54f 1 3 (by unfold kRa; omega)).trans ((q43f 1 3 (by unfold kEm; omega)).trans ((q32f 1 3 (by unfold kEm; omega)).trans (by rw [← hw20]; exact (e_up_ne _ _ (Or.inr (by omega))).trans ((q14f 1 3 (by unfold kEm; omega)).trans ((q4g 1 3 (by unfold kRO; omega)).trans hc))))))))))))) (by omega) ?_
      refine e_Ok.getf (z := w123 cd 0) rfl (lD0 hcd) rfl rfl ((q139f cd 0 (by unfold kPa; omega)).trans rfl) (by omega) ?_
      refine e_Ok.callV rfl (by omega) rfl (lD0 hcd) rfl rfl (c_22 q139T hcd (by omega) (by have g := e_Has.get q139T (c := cd) (k := 0) (lo := 0) (hi := 4000) (kD_0 hcd) (by decide); omega)) (fun r148 w149 h150 => ?_)
      obtain ⟨rfl, q151f, q151T, q151x⟩ := h150
      have q151H : e_Has kRy w149 := H_fr q151f (fun c k g => by unfold kPa at g; omega) q139H
      have q151k : tkR w149 := q139k.fr q151f (fun k g => by unfold kPa; omega)
      have f152 : e_fr (kRt cd) w w149 := e_fr.trans f140 (e_fr.mono q151f (fun c k q => by unfold kPa at q; unfold kRt; omega))
      have s153 : gS w137 w149 cd 0 0 0 0 0 := gS.pat hcd ((e_Has.get q139T (c := cd) (k := 0) (lo := 0) (hi := 4000) (kD_0 hcd) (by decide)).1) q151f q151x (show w123 cd 0 = w137 cd 0 from Eq.symm ((q139f cd 0 (by unfold kPa; omega)).trans rfl)) p143 (by omega)
      have x154 : gS w w149 cd (-2) 0 0 0 0 := gS.trans x142 s153 (by omega)
      have p155 := zpl.step p143 s153
      have p156 := zpl.step p144 s153
      have p157 := zpl.step p145 s153
      have p158 := zpl.step p146 s153
      have p159 := lpK.step p147 s153
      show e_Ok 20 elay kcode eI (d + 1) 155 (137, [(4, (0, z86)), (3, (0, z44)), (2, (0, z15)), (1, (0, lp)), (0, (1, 1))], [], w149) _
      refine e_Ok.run (t' := (139, [(4, (0, z86)), (3, (0, z44)), (2, (0, z15)), (1, (0, lp)), (0, (1, 1))], [(0, lp), (1, 1)], w149)) 2 rfl ?_
      refine e_Ok.putf rfl (el_o rfl) rfl rfl ?_
      generalize hw160 : e_up w149 1 13 lp = w160
      have f161 : e_fr (kRt cd) w w160 := e_fr.up f152 hw160 (by unfold kRt; omega)
      have hT162 : e_Has kTy w160 := e_Has.ups q151T hw160 rfl
      have hH163 : e_Has kRy w160 := e_Has.upr q151H hw160 rfl (by omega)
      have t164 : tkR w160 := q151k.eq (fun k g => by rw [← hw160]; exact e_up_ne _ _ (by omega))
      have g165 : e_fr (fun c k => c = 1 ∧ 11 ≤ k ∧ k ≤ 13) w149 w160 := fun c k g => by have g2 : ¬ (c = 1 ∧ 11 ≤ k ∧ k ≤ 13) := g; rw [← hw160]; exact e_up_ne _ _ (by omega)
      have s166 : gS w149 w160 cd 0 0 0 0 0 := gS.wr hcd ((e_Has.get q151T (c := cd) (k := 0) (lo := 0) (hi := 4000) (kD_0 hcd) (by decide)).1) (by omega) g165
      have x167 : gS w w160 cd (-2) 0 0 0 0 := gS.trans x154 s166 (by omega)
      have p168 := zpl.step p155 s166
      have p169 := zpl.step p156 s166
      have p170 := zpl.step p157 s166
      have p171 := zpl.step p158 s166
      have p172 := lpK.step p159 s166
      refine e_Ok.run (t' := (144, [(4, (0, z86)), (3, (0, z44)), (2, (0, z15)), (1, (0, lp)), (0, (1, 1))], [(1, 1), (1, 1)], w160)) 2 rfl ?_
      refine e_Ok.getf (z := o + 1) rfl (el_o rfl) rfl rfl (by rw [← hw160]; exact (e_up_ne _ _ (Or.inr (by omega))).trans ((q151f 1 11 (by unfold kPa; omega)).trans ((q139f 1 11 (by unfold kPa; omega)).trans ((q125f 1 11 (by unfold kEm; omega)).trans ((q114f 1 11 (by unfold kRk; omega)).trans (q103o.trans ((q85f 1 11 (by unfold kEm; omega)).trans ((q75f 1 11 (by unfold kRk; omega)).trans (q65o.trans ((q54f 1 11 (by unfold kRa; omega)).trans ((q43f 1 11 (by unfold kEm; omega)).trans ((q32f 1 11 (by unfold kEm; omega)).trans (by rw [← hw20]; exact (e_up_ne _ _ (Or.inr (by omega))).trans ((q14f 1 11 (by unfold kEm; omega)).trans q4b)))))))))))))) (by omega) ?_
      refine e_Ok.run (t' := (148, [(4, (0, z86)), (3, (0, z44)), (2, (0, z15)), (1, (0, lp)), (0, (1, 1))], [(0, 1), (0, o + 1), (1, 1)], w160)) 1 rfl ?_
      refine e_Ok.sub' (z := o) rfl (by omega) (by omega) ?_
      refine e_Ok.putf rfl (el_o rfl) rfl rfl ?_
      generalize hw173 : e_up w160 1 11 o = w173
      have f174 : e_fr (kRt cd) w w173 := e_fr.up f161 hw173 (by unfold kRt; omega)
      have hT175 : e_Has kTy w173 := e_Has.ups hT162 hw173 rfl
      have hH176 : e_Has kRy w173 := e_Has.upr hH163 hw173 rfl (by omega)
      have t177 : tkR w173 := t164.eq (fun k g => by rw [← hw173]; exact e_up_ne _ _ (by omega))
      have g178 : e_fr (fun c k => c = 1 ∧ 11 ≤ k ∧ k ≤ 13) w160 w173 := fun c k g => by have g2 : ¬ (c = 1 ∧ 11 ≤ k ∧ k ≤ 13) := g; rw [← hw173]; exact e_up_ne _ _ (by omega)
      have s179 : gS w160 w173 cd 0 0 0 0 0 := gS.wr hcd ((e_Has.get hT162 (c := cd) (k := 0) (lo := 0) (hi := 4000) (kD_0 hcd) (by decide)).1) (by omega) g178
      have x180 : gS w w173 cd (-2) 0 0 0 0 := gS.trans x167 s179 (by omega)
      have p181 := zpl.step p168 s179
      have p182 := zpl.step p169 s179
      have p183 := zpl.step p170 s179
      have p184 := zpl.step p171 s179
      have p185 := lpK.step p172 s179
      refine e_Ok.rets rfl rfl ?_
      exact ⟨rfl, f174, ⟨hT175, hH176, (by rw [← hw173]; exact (e_up_ne _ _ (Or.inr (by omega))).trans (by rw [← hw160]; exact (e_up_ne _ _ (Or.inr (by omega))).trans ((q151f 1 3 (by unfold kPa; omega)).trans ((q139f 1 3 (by unfold kPa; omega)).trans ((q125f 1 3 (by unfold kEm; omega)).trans ((q114f 1 3 (by unfold kRk; omega)).trans ((q103f 1 3 (by unfold kRt; omega)).trans ((q85f 1 3 (by unfold kEm; omega)).trans ((q75f 1 3 (by unfold kRk; omega)).trans ((q65f 1 3 (by unfold kRx; omega)).trans ((q54f 1 3 (by unfold kRa; omega)).trans ((q43f 1 3 (by unfold kEm; omega)).trans ((q32f 1 3 (by unfold kEm; omega)).trans (by rw [← hw20]; exact (e_up_ne _ _ (Or.inr (by omega))).trans ((q14f 1 3 (by unfold kEm; omega)).trans ((q4g 1 3 (by unfold kRO; omega)).trans hc)))))))))))))))), hcd, t177⟩, ⟨(by have g1 : w173 1 11 = o := (by rw [← hw173]; exact e_up_eq _ _ _ _); have g0 : w 1 11 = o := ho; omega), (by have g1 : w173 1 12 = t := (by rw [← hw173]; exact (e_up_ne _ _ (Or.inr (by omega))).trans (by rw [← hw160]; exact (e_up_ne _ _ (Or.inr (by omega))).trans ((q151f 1 12 (by unfold kPa; omega)).trans ((q139f 1 12 (by unfold kPa; omega)).trans ((q125f 1 12 (by unfold kEm; omega)).trans ((q114f 1 12 (by unfold kRk; omega)).trans (q103t.trans ((q85f 1 12 (by unfold kEm; omega)).trans ((q75f 1 12 (by unfold kRk; omega)).trans ((q65f 1 12 (by unfold kRx; omega)).trans ((q54f 1 12 (by unfold kRa; omega)).trans ((q43f 1 12 (by unfold kEm; omega)).trans ((q32f 1 12 (by unfold kEm; omega)).trans (by rw [← hw20]; exact (e_up_ne _ _ (Or.inr (by omega))).trans ((q14f 1 12 (by unfold kEm; omega)).trans ((q4g 1 12 (by unfold kRO; omega)).trans ht)))))))))))))))); have g0 : w 1 12 = t := ht; omega), (by have g1 : w173 1 13 = lp := (by rw [← hw173]; exact (e_up_ne _ _ (Or.inr (by omega))).trans (by rw [← hw160]; exact e_up_eq _ _ _ _)); have g0 : w 1 13 = lp := hlp; omega)⟩, x180.le (by omega)⟩
    · replace h10 : (1 : Int) = 0 := by have q : ¬ ((1 : Int) ≠ 0) := h10; omega
      exfalso; omega
  · show e_Ok 20 elay kcode eI (d + 1) 155 (4, [(0, (1, 1))], [(0, 0)], w2) _
    have f186 : e_fr (kRt cd) w w2 := e_fr.trans (e_fr.refl w) (e_fr.mono q4d (fun c k q => by unfold kRk at q; unfold kRt; omega))
    have q4n := q4a
    have s187 : gS w w2 cd 0 0 0 0 0 := gS.dead q4n
    have x188 : gS w w2 cd 0 0 0 0 0 := gS.trans x0 s187 (by omega)
    have p189 := lpK.step hlk s187
    refine e_Ok.if1 rfl (fun h190 => ?_) (fun h190 => ?_)
    · replace h190 : (0 : Int) ≠ 0 := h190
      exfalso; omega
    · replace h190 : (0 : Int) = 0 := by have q : ¬ ((0 : Int) ≠ 0) := h190; omega
      refine e_Ok.rets rfl rfl ?_
      exact ⟨rfl, f186, ⟨q4T, q4H, ((q4d 1 3 (by unfold kRk; omega)).trans hc), hcd, q4k⟩, ⟨(by have g1 : w2 1 11 = o := ((q4d 1 11 (by unfold kRk; omega)).trans ho); have g0 : w 1 11 = o := ho; omega), (by have g1 : w2 1 12 = t := ((q4d 1 12 (by unfold kRk; omega)).trans ht); have g0 : w 1 12 = t := ht; omega), (by have g1 : w2 1 13 = lp := ((q4d 1 13 (by unfold kRk; omega)).trans hlp); have g0 : w 1 13 = lp := hlp; omega)⟩, gS.dead q4n⟩
set_option maxHeartbeats 4000000 in
theorem c_157 {d : Nat} (hd : 281 ≤ d) {w : eW} {cd o : Int} (hS : rS w cd) (ho : w 1 11 = o) (hor : 0 ≤ o ∧ o ≤ 30) {t lp : Int} (ht : w 1 12 = t) (htr : 0 ≤ t ∧ t ≤ o) (hlp : w 1 13 = lp) (hlk : lpK w cd lp) {op : Int} (g_op : 47 ≤ op ∧ op ≤ 48) (h5 : 43 ≤ w 1 5 ∧ w 1 5 ≤ 44) (hB : ∀ k, d = k + 1 → zgC 144 o 0 0 (fun _ => True) k) : e_Ok 20 elay kcode eI d 157 (0, [(0, (1, 1)), (1, (0, op))], [], w) (fun r w' => r = [] ∧ gQ w w' cd 0 0 0) := by
  obtain ⟨d, rfl⟩ : ∃ e, d = e + 1 := ⟨d - 1, by omega⟩
  obtain ⟨hT, hH, hc, hcd, hk⟩ := hS
  have hcd2 := hcd; unfold isCd at hcd2
  have hcd3 : 2 ≤ cd ∧ cd ≤ 145 := by omega
  have pL := e_Has.get hT (c := cd) (k := 0) (lo := 0) (hi := 4000) (kD_0 hcd) (by decide)
  have p1 := e_Has.get hH (c := 1) (k := 1) (lo := (-2147483648)) (hi := 2147483647) rfl (by decide)
  have p5 := e_Has.get hH (c := 1) (k := 5) (lo := 0) (hi := 53) rfl (by decide)
  have p6 := e_Has.get hH (c := 1) (k := 6) (lo := 0) (hi := 4000) rfl (by decide)
  have p9 := e_Has.get hH (c := 1) (k := 9) (lo := (-2147483648)) (hi := 2147483647) rfl (by decide)
  have p7 := e_Has.get hH (c := 1) (k := 7) (lo := 0) (hi := 4000) rfl (by decide)
  have p12 := e_Has.get hH (c := 1) (k := 12) (lo := 0) (hi := 30) rfl (by decide)
  have p13 := e_Has.get hH (c := 1) (k := 13) (lo := (-1)) (hi := 4000) rfl (by decide)
  have x0 : gS w w cd 0 0 0 0 0 := gS.refl pL.1
  refine e_Ok.run (t' := (1, [(0, (1, 1)), (1, (0, op))], [(1, 1)], w)) 1 rfl ?_
  refine e_Ok.callV rfl (by omega) rfl rfl rfl rfl (c_123 (by omega) hT hH hk.1.2) (fun r1 w2 h3 => ?_)
  obtain ⟨rfl, q4f, q4T, q4H, q4k, q4x, q44⟩ := h3
  have f5 : e_fr (kRt cd) w w2 := e_fr.trans (e_fr.refl w) (e_fr.mono q4f (fun c k q => by unfold kRa at q; unfold kRt; omega))
  have s6 : gS w w2 cd (-2) 0 0 0 0 := gS.adv hcd ((e_Has.get hT (c := cd) (k := 0) (lo := 0) (hi := 4000) (kD_0 hcd) (by decide)).1) (by omega) q4f q4x (hk.a2 (by omega))
  have x7 : gS w w2 cd (-2) 0 0 0 0 := gS.trans x0 s6 (by omega)
  have p8 := lpK.step hlk s6
  show e_Ok 20 elay kcode eI (d + 1) 157 (4, [(0, (1, 1)), (1, (0, op))], [], w2) _
  refine e_Ok.run (t' := (7, [(0, (1, 1)), (1, (0, op))], [(0, 20), (1, 1)], w2)) 2 rfl ?_
  refine e_Ok.callV rfl (by omega) rfl rfl rfl rfl (c_129 (by omega) q4T q4H q4k (by omega)) (fun r9 w10 h11 => ?_)
  obtain ⟨rfl, q12f, q12T, q12H, q12k, q12x⟩ := h11
  have f13 : e_fr (kRt cd) w w10 := e_fr.trans f5 (e_fr.mono q12f (fun c k q => by unfold kRk at q; unfold kRt; omega))
  have s14 : gS w2 w10 cd (-1) 0 0 0 0 := gS.acc hcd ((e_Has.get q4T (c := cd) (k := 0) (lo := 0) (hi := 4000) (kD_0 hcd) (by decide)).1) (by omega) q12f q12x (fun g => q4k.a1 (by omega))
  have x15 : gS w w10 cd (-3) 0 0 0 0 := gS.trans x7 s14 (by omega)
  have p16 := lpK.step p8 s14
  show e_Ok 20 elay kcode eI (d + 1) 157 (10, [(0, (1, 1)), (1, (0, op))], [], w10) _
  refine e_Ok.run (t' := (11, [(0, (1, 1)), (1, (0, op))], [(1, 1)], w10)) 1 rfl ?_
  refine e_Ok.callV rfl (by omega) rfl rfl rfl rfl (hB d rfl w10 cd t lp ⟨q12T, q12H, ((q12f 1 3 (by unfold kRk; omega)).trans ((q4f 1 3 (by unfold kRa; omega)).trans hc)), hcd, q12k⟩ ((q12f 1 11 (by unfold kRk; omega)).trans ((q4f 1 11 (by unfold kRa; omega)).trans ho)) ((q12f 1 12 (by unfold kRk; omega)).trans ((q4f 1 12 (by unfold kRa; omega)).trans ht)) (by omega) ((q12f 1 13 (by unfold kRk; omega)).trans ((q4f 1 13 (by unfold kRa; omega)).trans hlp)) p16 trivial) (fun r17 w18 h19 => ?_)
  obtain ⟨rfl, q20f, ⟨q20T, q20H, q20c, -, q20k⟩, ⟨q20o, q20t, q20l⟩, q20x⟩ := h19
  have f21 : e_fr (kRt cd) w w18 := e_fr.trans f13 (e_fr.mono q20f (fun c k q => by exact q))
  have s22 : gS w10 w18 cd 0 0 0 0 0 := q20x
  have x23 : gS w w18 cd (-3) 0 0 0 0 := gS.trans x15 s22 (by omega)
  have p24 := lpK.step p16 s22
  show e_Ok 20 elay kcode eI (d + 1) 157 (14, [(0, (1, 1)), (1, (0, op))], [], w18) _
  refine e_Ok.run (t' := (15, [(0, (1, 1)), (1, (0, op))], [(1, 1)], w18)) 1 rfl ?_
  refine e_Ok.getr (z := cd) rfl (el_o rfl) rfl rfl ((q20f 1 3 (by unfold kRt; omega)).trans ((q12f 1 3 (by unfold kRk; omega)).trans ((q4f 1 3 (by unfold kRa; omega)).trans hc))) (by omega) ?_
  refine e_Ok.run (t' := (20, [(0, (1, 1)), (1, (0, op))], [(0, 0), (0, op), (1, cd)], w18)) 2 rfl ?_
  refine e_Ok.callV rfl (by omega) rfl (lD0 hcd) rfl rfl (c_21 q20T hcd (by omega) (by omega)) (fun r25 w26 h27 => ?_)
  obtain ⟨z29, rfl, q28f, q28T, q28x⟩ := h27
  have q28H : e_Has kRy w26 := H_fr q28f (fun c k g => by unfold kEm at g; omega) q20H
  have q28k : tkR w26 := (q20k.fr q28f (fun k g => by unfold kEm; omega))
  have q28z : 0 ≤ z29 ∧ z29 ≤ 4000 := by have g := e_Has.get q20T (c := cd) (k := 0) (lo := 0) (hi := 4000) (kD_0 hcd) (by decide); unfold emQ at q28x; omega
  have f30 : e_fr (kRt cd) w w26 := e_fr.trans f21 (e_fr.mono q28f (fun c k q => by unfold kEm at q; unfold kRt; omega))
  have s31 : gS w18 w26 cd 1 0 0 0 0 := gS.big hcd ((e_Has.get q20T (c := cd) (k := 0) (lo := 0) (hi := 4000) (kD_0 hcd) (by decide)).1) (by omega) q28f q28x (by omega) (by omega) (fun g => by omega) (fun g => by omega)
  have x32 : gS w w26 cd (-2) 0 0 0 0 := gS.trans x23 s31 (by omega)
  have p33 := lpK.step p24 s31
  show e_Ok 20 elay kcode eI (d + 1) 157 (23, [(0, (1, 1)), (1, (0, op))], [(0, z29)], w26) _
  refine e_Ok.run (t' := (24, [(0, (1, 1)), (1, (0, op))], [], w26)) 1 rfl ?_
  refine e_Ok.rets rfl rfl ?_
  exact ⟨rfl, f30, ⟨q28T, q28H, ((q28f 1 3 (by unfold kEm; omega)).trans ((q20f 1 3 (by unfold kRt; omega)).trans ((q12f 1 3 (by unfold kRk; omega)).trans ((q4f 1 3 (by unfold kRa; omega)).trans hc)))), hcd, q28k⟩, ⟨(by have g1 : w26 1 11 = o := ((q28f 1 11 (by unfold kEm; omega)).trans (q20o.trans ((q12f 1 11 (by unfold kRk; omega)).trans ((q4f 1 11 (by unfold kRa; omega)).trans ho)))); have g0 : w 1 11 = o := ho; omega), (by have g1 : w26 1 12 = t := ((q28f 1 12 (by unfold kEm; omega)).trans (q20t.trans ((q12f 1 12 (by unfold kRk; omega)).trans ((q4f 1 12 (by unfold kRa; omega)).trans ht)))); have g0 : w 1 12 = t := ht; omega), (by have g1 : w26 1 13 = lp := ((q28f 1 13 (by unfold kEm; omega)).trans (q20l.trans ((q12f 1 13 (by unfold kRk; omega)).trans ((q4f 1 13 (by unfold kRa; omega)).trans hlp)))); have g0 : w 1 13 = lp := hlp; omega)⟩, x32.le (by omega)⟩
set_option maxHeartbeats 4000000 in
theorem c_156 {d : Nat} (hd : 283 ≤ d) {w : eW} {cd o : Int} (hS : rS w cd) (ho : w 1 11 = o) (hor : 0 ≤ o ∧ o ≤ 30) {t lp : Int} (ht : w 1 12 = t) (htr : 0 ≤ t ∧ t ≤ o) (hlp : w 1 13 = lp) (hlk : lpK w cd lp) (h5 : w 1 5 = 42) (hB : o < 30 → ∀ k, d ≤ k + 2 → zgC 144 (o + 1) 0 0 (fun _ => True) k) : e_Ok 20 elay kcode eI d 156 (0, [(0, (1, 1))], [], w) (fun r w' => r = [] ∧ gQ w w' cd (-1) 1 0) := by
  obtain ⟨d, rfl⟩ : ∃ e, d = e + 1 := ⟨d - 1, by omega⟩
  obtain ⟨hT, hH, hc, hcd, hk⟩ := hS
  have hcd2 := hcd; unfold isCd at hcd2
  have hcd3 : 2 ≤ cd ∧ cd ≤ 145 := by omega
  have pL := e_Has.get hT (c := cd) (k := 0) (lo := 0) (hi := 4000) (kD_0 hcd) (by decide)
  have p1 := e_Has.get hH (c := 1) (k := 1) (lo := (-2147483648)) (hi := 2147483647) rfl (by decide)
  have p5 := e_Has.get hH (c := 1) (k := 5) (lo := 0) (hi := 53) rfl (by decide)
  have p6 := e_Has.get hH (c := 1) (k := 6) (lo := 0) (hi := 4000) rfl (by decide)
  have p9 := e_Has.get hH (c := 1) (k := 9) (lo := (-2147483648)) (hi := 2147483647) rfl (by decide)
  have p7 := e_Has.get hH (c := 1) (k := 7) (lo := 0) (hi := 4000) rfl (by decide)
  have p12 := e_Has.get hH (c := 1) (k := 12) (lo := 0) (hi := 30) rfl (by decide)
  have p13 := e_Has.get hH (c := 1) (k := 13) (lo := (-1)) (hi := 4000) rfl (by decide)
  have x0 : gS w w cd 0 1 0 1 0 := gS.refl pL.1
  refine e_Ok.run (t' := (1, [(0, (1, 1))], [(1, 1)], w)) 1 rfl ?_
  refine e_Ok.callV rfl (by omega) rfl rfl rfl rfl (c_132 (by omega) hT hH hk (o := o) ho (by omega)) (fun r1 w2 h3 => ?_)
  obtain ⟨z5, rfl, q4f, q4T, q4H, q4k, ⟨rfl, q4a, q4b, q4c⟩ | ⟨rfl, q4a, q4b, q4c, q4d⟩⟩ := h3
  · show e_Ok 20 elay kcode eI (d + 1) 156 (4, [(0, (1, 1))], [(0, 1)], w2) _
    have q4g : e_fr kRO w w2 := fun c k g => by have g2 : ¬ (c = 1 ∧ k = 11) := g; by_cases h : c = 1 ∧ (k = 12 ∨ k = 13); (exact q4f c k (by unfold kRo; omega)); (exact q4c c k (show ¬ (c = 1 ∧ 11 ≤ k ∧ k ≤ 13) from by omega))
    have f6 : e_fr (kRt cd) w w2 := e_fr.trans (e_fr.refl w) (e_fr.mono q4g (fun c k q => by unfold kRO at q; unfold kRt; omega))
    have s7 : gS w w2 cd 0 1 0 1 0 := gS.wr hcd ((e_Has.get hT (c := cd) (k := 0) (lo := 0) (hi := 4000) (kD_0 hcd) (by decide)).1) (by omega) q4c
    have x8 : gS w w2 cd 0 1 0 1 0 := gS.trans x0 s7 (by omega)
    have p9 := lpK.step hlk s7
    refine e_Ok.if1 rfl (fun h10 => ?_) (fun h10 => ?_)
    · replace h10 : (1 : Int) ≠ 0 := h10
      refine e_Ok.run (t' := (9, [(0, (1, 1))], [(1, 1)], w2)) 1 rfl ?_
      refine e_Ok.callV rfl (by omega) rfl rfl rfl rfl (c_123 (by omega) q4T q4H q4k.1.2) (fun r11 w12 h13 => ?_)
      obtain ⟨rfl, q14f, q14T, q14H, q14k, q14x, q144⟩ := h13
      have f15 : e_fr (kRt cd) w w12 := e_fr.trans f6 (e_fr.mono q14f (fun c k q => by unfold kRa at q; unfold kRt; omega))
      have k16 : w2 1 5 = w 1 5 := ((q4g 1 5 (by unfold kRO; omega)).trans rfl)
      have s17 : gS w2 w12 cd (-3) 1 0 1 0 := gS.adv hcd ((e_Has.get q4T (c := cd) (k := 0) (lo := 0) (hi := 4000) (kD_0 hcd) (by decide)).1) (by omega) q14f q14x (q4k.a3 (by omega))
      have x18 : gS w w12 cd (-3) 1 0 1 0 := gS.trans x8 s17 (by omega)
      have p19 := lpK.step p9 s17
      show e_Ok 20 elay kcode eI (d + 1) 156 (12, [(0, (1, 1))], [], w12) _
      refine e_Ok.run (t' := (15, [(0, (1, 1))], [(0, 20), (1, 1)], w12)) 2 rfl ?_
      refine e_Ok.callV rfl (by omega) rfl rfl rfl rfl (c_129 (by omega) q14T q14H q14k (by omega)) (fun r20 w21 h22 => ?_)
      obtain ⟨rfl, q23f, q23T, q23H, q23k, q23x⟩ := h22
      have f24 : e_fr (kRt cd) w w21 := e_fr.trans f15 (e_fr.mono q23f (fun c k q => by unfold kRk at q; unfold kRt; omega))
      have s25 : gS w12 w21 cd (-1) 1 0 1 0 := gS.acc hcd ((e_Has.get q14T (c := cd) (k := 0) (lo := 0) (hi := 4000) (kD_0 hcd) (by decide)).1) (by omega) q23f q23x (fun g => q14k.a1 (by omega))
      have x26 : gS w w21 cd (-4) 1 0 1 0 := gS.trans x18 s25 (by omega)
      have p27 := lpK.step p19 s25
      show e_Ok 20 elay kcode eI (d + 1) 156 (18, [(0, (1, 1))], [], w21) _
      refine e_Ok.run (t' := (19, [(0, (1, 1))], [(1, 1)], w21)) 1 rfl ?_
      refine e_Ok.getr (z := cd) rfl (el_o rfl) rfl rfl ((q23f 1 3 (by unfold kRk; omega)).trans ((q14f 1 3 (by unfold kRa; omega)).trans ((q4g 1 3 (by unfold kRO; omega)).trans hc))) (by omega) ?_
      refine e_Ok.run (t' := (25, [(0, (1, 1))], [(0, 0), (0, 46), (1, cd)], w21)) 2 rfl ?_
      refine e_Ok.callV rfl (by omega) rfl (lD0 hcd) rfl rfl (c_21 q23T hcd (by omega) (by omega)) (fun r28 w29 h30 => ?_)
      obtain ⟨z32, rfl, q31f, q31T, q31x⟩ := h30
      have q31H : e_Has kRy w29 := H_fr q31f (fun c k g => by unfold kEm at g; omega) q23H
      have q31k : tkR w29 := (q23k.fr q31f (fun k g => by unfold kEm; omega))
      have q31z : 0 ≤ z32 ∧ z32 ≤ 4000 := by have g := e_Has.get q23T (c := cd) (k := 0) (lo := 0) (hi := 4000) (kD_0 hcd) (by decide); unfold emQ at q31x; omega
      have f33 : e_fr (kRt cd) w w29 := e_fr.trans f24 (e_fr.mono q31f (fun c k q => by unfold kEm at q; unfold kRt; omega))
      show e_Ok 20 elay kcode eI (d + 1) 156 (28, [(0, (1, 1))], [(0, z32)], w29) _
      refine e_Ok.run (t' := (30, [(1, (0, z32)), (0, (1, 1))], [(1, 1)], w29)) 2 rfl ?_
      refine e_Ok.getr (z := cd) rfl (el_o rfl) rfl rfl ((q31f 1 3 (by unfold kEm; omega)).trans ((q23f 1 3 (by unfold kRk; omega)).trans ((q14f 1 3 (by unfold kRa; omega)).trans ((q4g 1 3 (by unfold kRO; omega)).trans hc)))) (by omega) ?_
      refine e_Ok.run (t' := (36, [(1, (0, z32)), (0, (1, 1))], [(0, 0), (0, 49), (1, cd)], w29)) 2 rfl ?_
      refine e_Ok.callV rfl (by omega) rfl (lD0 hcd) rfl rfl (c_21 q31T hcd (by omega) (by omega)) (fun r34 w35 h36 => ?_)
      obtain ⟨z38, rfl, q37f, q37T, q37x⟩ := h36
      have q37H : e_Has kRy w35 := H_fr q37f (fun c k g => by unfold kEm at g; omega) q31H
      have q37k : tkR w35 := (q31k.fr q37f (fun k g => by unfold kEm; omega))
      have q37z : 0 ≤ z38 ∧ z38 ≤ 4000 := by have g := e_Has.get q31T (c := cd) (k := 0) (lo := 0) (hi := 4000) (kD_0 hcd) (by decide); unfold emQ at q37x; omega
      have f40 : e_fr (kRt cd) w w35 := e_fr.trans f33 (e_fr.mono q37f (fun c k q => by unfold kEm at q; unfold kRt; omega))
      show e_Ok 20 elay kcode eI (d + 1) 156 (39, [(1, (0, z32)), (0, (1, 1))], [(0, z38)], w35) _
      refine e_Ok.run (t' := (41, [(1, (0, z32)), (0, (1, 1))], [(1, 1)], w35)) 2 rfl ?_
      refine e_Ok.getr (z := cd) rfl (el_o rfl) rfl rfl ((q37f 1 3 (by unfold kEm; omega)).trans ((q31f 1 3 (by unfold kEm; omega)).trans ((q23f 1 3 (by unfold kRk; omega)).trans ((q14f 1 3 (by unfold kRa; omega)).trans ((q4g 1 3 (by unfold kRO; omega)).trans hc))))) (by omega) ?_
      refine e_Ok.run (t' := (47, [(1, (0, z32)), (0, (1, 1))], [(0, 0), (0, 49), (1, cd)], w35)) 2 rfl ?_
      refine e_Ok.callV rfl (by omega) rfl (lD0 hcd) rfl rfl (c_21 q37T hcd (by omega) (by omega)) (fun r41 w42 h43 => ?_)
      obtain ⟨z45, rfl, q44f, q44T, q44x⟩ := h43
      have q44H : e_Has kRy w42 := H_fr q44f (fun c k g => by unfold kEm at g; omega) q37H
      have q44k : tkR w42 := (q37k.fr q44f (fun k g => by unfold kEm; omega))
      have q44z : 0 ≤ z45 ∧ z45 ≤ 4000 := by have g := e_Has.get q37T (c := cd) (k := 0) (lo := 0) (hi := 4000) (kD_0 hcd) (by decide); unfold emQ at q44x; omega
      have f46 : e_fr (kRt cd) w w42 := e_fr.trans f40 (e_fr.mono q44f (fun c k q => by unfold kEm at q; unfold kRt; omega))
      show e_Ok 20 elay kcode eI (d + 1) 156 (50, [(1, (0, z32)), (0, (1, 1))], [(0, z45)], w42) _
      refine e_Ok.run (t' := (52, [(1, (0, z32)), (0, (1, 1))], [(1, 1)], w42)) 2 rfl ?_
      refine e_Ok.getr (z := cd) rfl (el_o rfl) rfl rfl ((q44f 1 3 (by unfold kEm; omega)).trans ((q37f 1 3 (by unfold kEm; omega)).trans ((q31f 1 3 (by unfold kEm; omega)).trans ((q23f 1 3 (by unfold kRk; omega)).trans ((q14f 1 3 (by unfold kRa; omega)).trans ((q4g 1 3 (by unfold kRO; omega)).trans hc)))))) (by omega) ?_
      refine e_Ok.run (t' := (58, [(1, (0, z32)), (0, (1, 1))], [(0, 0), (0, 49), (1, cd)], w42)) 2 rfl ?_
      refine e_Ok.callV rfl (by omega) rfl (lD0 hcd) rfl rfl (c_21 q44T hcd (by omega) (by omega)) (fun r47 w48 h49 => ?_)
      obtain ⟨z51, rfl, q50f, q50T, q50x⟩ := h49
      have q50H : e_Has kRy w48 := H_fr q50f (fun c k g => by unfold kEm at g; omega) q44H
      have q50k : tkR w48 := (q44k.fr q50f (fun k g => by unfold kEm; omega))
      have q50z : 0 ≤ z51 ∧ z51 ≤ 4000 := by have g := e_Has.get q44T (c := cd) (k := 0) (lo := 0) (hi := 4000) (kD_0 hcd) (by decide); unfold emQ at q50x; omega
      have f52 : e_fr (kRt cd) w w48 := e_fr.trans f46 (e_fr.mono q50f (fun c k q => by unfold kEm at q; unfold kRt; omega))
      have s53 : gS w21 w48 cd 4 1 0 0 0 := gS.try hcd ((e_Has.get q23T (c := cd) (k := 0) (lo := 0) (hi := 4000) (kD_0 hcd) (by decide)).1) (by omega) q31f q37f q44f q50f q31x q37x q44x q50x
      have x54 : gS w w48 cd 0 1 0 0 0 := gS.trans x26 s53 (by omega)
      have p55 := lpK.step p27 s53
      obtain ⟨t56a, t56b, t56c⟩ := zpl.try ((e_Has.get q23T (c := cd) (k := 0) (lo := 0) (hi := 4000) (kD_0 hcd) (by decide)).1) q31x q37x q44x q50x
      show e_Ok 20 elay kcode eI (d + 1) 156 (61, [(1, (0, z32)), (0, (1, 1))], [(0, z51)], w48) _
      refine e_Ok.run (t' := (64, [(1, (0, z32)), (0, (1, 1))], [(1, 1), (1, 1)], w48)) 3 rfl ?_
      refine e_Ok.getf (z := t) rfl (el_o rfl) rfl rfl ((q50f 1 12 (by unfold kEm; omega)).trans ((q44f 1 12 (by unfold kEm; omega)).trans ((q37f 1 12 (by unfold kEm; omega)).trans ((q31f 1 12 (by unfold kEm; omega)).trans ((q23f 1 12 (by unfold kRk; omega)).trans ((q14f 1 12 (by unfold kRa; omega)).trans ((q4g 1 12 (by unfold kRO; omega)).trans ht))))))) (by omega) ?_
      refine e_Ok.run (t' := (68, [(1, (0, z32)), (0, (1, 1))], [(0, 1), (0, t), (1, 1)], w48)) 1 rfl ?_
      refine e_Ok.add (z := t + 1) rfl (by omega) (by omega) ?_
      refine e_Ok.putf rfl (el_o rfl) rfl rfl ?_
      generalize hw57 : e_up w48 1 12 (t + 1) = w57
      have f58 : e_fr (kRt cd) w w57 := e_fr.up f52 hw57 (by unfold kRt; omega)
      have hT59 : e_Has kTy w57 := e_Has.ups q50T hw57 rfl
      have hH60 : e_Has kRy w57 := e_Has.upr q50H hw57 rfl (by omega)
      have t61 : tkR w57 := q50k.eq (fun k g => by rw [← hw57]; exact e_up_ne _ _ (by omega))
      have g62 : e_fr (fun c k => c = 1 ∧ 11 ≤ k ∧ k ≤ 13) w48 w57 := fun c k g => by have g2 : ¬ (c = 1 ∧ 11 ≤ k ∧ k ≤ 13) := g; rw [← hw57]; exact e_up_ne _ _ (by omega)
      have s63 : gS w48 w57 cd 0 0 0 0 0 := gS.wr hcd ((e_Has.get q50T (c := cd) (k := 0) (lo := 0) (hi := 4000) (kD_0 hcd) (by decide)).1) (by omega) g62
      have x64 : gS w w57 cd 0 1 0 0 0 := gS.trans x54 s63 (by omega)
      have p65 := zpl.step t56a s63
      have p66 := zpl.step t56b s63
      have p67 := zpl.step t56c s63
      have p68 := lpK.step p55 s63
      refine e_Ok.run (t' := (73, [(1, (0, z32)), (0, (1, 1))], [(1, 1)], w57)) 1 rfl ?_
      refine e_Ok.callV rfl (by omega) rfl rfl rfl rfl (hB (by omega) d (by omega) w57 cd (t + 1) lp ⟨hT59, hH60, (by rw [← hw57]; exact (e_up_ne _ _ (Or.inr (by omega))).trans ((q50f 1 3 (by unfold kEm; omega)).trans ((q44f 1 3 (by unfold kEm; omega)).trans ((q37f 1 3 (by unfold kEm; omega)).trans ((q31f 1 3 (by unfold kEm; omega)).trans ((q23f 1 3 (by unfold kRk; omega)).trans ((q14f 1 3 (by unfold kRa; omega)).trans ((q4g 1 3 (by unfold kRO; omega)).trans hc)))))))), hcd, t61⟩ (by rw [← hw57]; exact (e_up_ne _ _ (Or.inr (by omega))).trans ((q50f 1 11 (by unfold kEm; omega)).trans ((q44f 1 11 (by unfold kEm; omega)).trans ((q37f 1 11 (by unfold kEm; omega)).trans ((q31f 1 11 (by unfold kEm; omega)).trans ((q23f 1 11 (by unfold kRk; omega)).trans ((q14f 1 11 (by unfold kRa; omega)).trans q4b))))))) (by rw [← hw57]; exact e_up_eq _ _ _ _) (by omega) (by rw [← hw57]; exact (e_up_ne _ _ (Or.inr (by omega))).trans ((q50f 1 13 (by unfold kEm; omega)).trans ((q44f 1 13 (by unfold kEm; omega)).trans ((q37f 1 13 (by unfold kEm; omega)).trans ((q31f 1 13 (by unfold kEm; omega)).trans ((q23f 1 13 (by unfold kRk; omega)).trans ((q14f 1 13 (by unfold kRa; omega)).trans ((q4g 1 13 (by unfold kRO; omega)).trans hlp)))))))) p68 trivial) (fun r69 w70 h71 => ?_)
      obtain ⟨rfl, q72f, ⟨q72T, q72H, q72c, -, q72k⟩, ⟨q72o, q72t, q72l⟩, q72x⟩ := h71
      have f73 : e_fr (kRt cd) w w70 := e_fr.trans f58 (e_fr.mono q72f (fun c k q => by exact q))
      have s74 : gS w57 w70 cd 0 0 0 0 0 := q72x
      have x75 : gS w w70 cd 0 1 0 0 0 := gS.trans x64 s74 (by omega)
      have p76 := zpl.step p65 s74
      have p77 := zpl.step p66 s74
      have p78 := zpl.step p67 s74
      have p79 := lpK.step p68 s74
      show e_Ok 20 elay kcode eI (d + 1) 156 (76, [(1, (0, z32)), (0, (1, 1))], [], w70) _
      refine e_Ok.run (t' := (77, [(1, (0, z32)), (0, (1, 1))], [(1, 1)], w70)) 1 rfl ?_
      refine e_Ok.getr (z := cd) rfl (el_o rfl) rfl rfl ((q72f 1 3 (by unfold kRt; omega)).trans (by rw [← hw57]; exact (e_up_ne _ _ (Or.inr (by omega))).trans ((q50f 1 3 (by unfold kEm; omega)).trans ((q44f 1 3 (by unfold kEm; omega)).trans ((q37f 1 3 (by unfold kEm; omega)).trans ((q31f 1 3 (by unfold kEm; omega)).trans ((q23f 1 3 (by unfold kRk; omega)).trans ((q14f 1 3 (by unfold kRa; omega)).trans ((q4g 1 3 (by unfold kRO; omega)).trans hc))))))))) (by omega) ?_
      refine e_Ok.run (t' := (83, [(1, (0, z32)), (0, (1, 1))], [(0, 0), (0, 47), (1, cd)], w70)) 2 rfl ?_
      refine e_Ok.callV rfl (by omega) rfl (lD0 hcd) rfl rfl (c_21 q72T hcd (by omega) (by omega)) (fun r80 w81 h82 => ?_)
      obtain ⟨z84, rfl, q83f, q83T, q83x⟩ := h82
      have q83H : e_Has kRy w81 := H_fr q83f (fun c k g => by unfold kEm at g; omega) q72H
      have q83k : tkR w81 := (q72k.fr q83f (fun k g => by unfold kEm; omega))
      have q83z : 0 ≤ z84 ∧ z84 ≤ 4000 := by have g := e_Has.get q72T (c := cd) (k := 0) (lo := 0) (hi := 4000) (kD_0 hcd) (by decide); unfold emQ at q83x; omega
      have f85 : e_fr (kRt cd) w w81 := e_fr.trans f73 (e_fr.mono q83f (fun c k q => by unfold kEm at q; unfold kRt; omega))
      have s86 : gS w70 w81 cd 1 0 0 0 0 := gS.big hcd ((e_Has.get q72T (c := cd) (k := 0) (lo := 0) (hi := 4000) (kD_0 hcd) (by decide)).1) (by omega) q83f q83x (by omega) (by omega) (fun g => by omega) (fun g => by omega)
      have x87 : gS w w81 cd 1 1 0 0 0 := gS.trans x75 s86 (by omega)
      have p88 := zpl.step p76 s86
      have p89 := zpl.step p77 s86
      have p90 := zpl.step p78 s86
      have p91 := lpK.step p79 s86
      show e_Ok 20 elay kcode eI (d + 1) 156 (86, [(1, (0, z32)), (0, (1, 1))], [(0, z84)], w81) _
      refine e_Ok.run (t' := (88, [(1, (0, z32)), (0, (1, 1))], [(1, 1)], w81)) 2 rfl ?_
      have h92 := (e_Has.get q72H (c := 1) (k := 5) (lo := 0) (hi := 53) rfl (by decide))
      refine e_Ok.getf (z := w70 1 5) rfl (el_o rfl) rfl rfl ((q83f 1 5 (by unfold kEm; omega)).trans rfl) (by omega) ?_
      refine e_Ok.run (t' := (93, [(1, (0, z32)), (0, (1, 1))], [(0, 43), (0, w70 1 5)], w81)) 1 rfl ?_
      refine e_Ok.if2 rfl (fun h93 => ?_) (fun h93 => ?_)
      · replace h93 : (w70 1 5 : Int) ≠ 43 := h93
        refine e_Ok.run (t' := (120, [(1, (0, z32)), (0, (1, 1))], [(1, 1)], w81)) 1 rfl ?_
        refine e_Ok.getf (z := w70 1 5) rfl (el_o rfl) rfl rfl ((q83f 1 5 (by unfold kEm; omega)).trans rfl) (by omega) ?_
        refine e_Ok.run (t' := (125, [(1, (0, z32)), (0, (1, 1))], [(0, 44), (0, w70 1 5)], w81)) 1 rfl ?_
        refine e_Ok.if2 rfl (fun h94 => ?_) (fun h94 => ?_)
        · replace h94 : (w70 1 5 : Int) ≠ 44 := h94
          refine e_Ok.run (t' := (153, [(1, (0, z32)), (0, (1, 1))], [(1, 1), (1, 1)], w81)) 2 rfl ?_
          refine e_Ok.getf (z := t + 1) rfl (el_o rfl) rfl rfl ((q83f 1 12 (by unfold kEm; omega)).trans (q72t.trans (by rw [← hw57]; exact e_up_eq _ _ _ _))) (by omega) ?_
          refine e_Ok.run (t' := (157, [(1, (0, z32)), (0, (1, 1))], [(0, 1), (0, t + 1), (1, 1)], w81)) 1 rfl ?_
          refine e_Ok.sub' (z := t) rfl (by omega) (by omega) ?_
          refine e_Ok.putf rfl (el_o rfl) rfl rfl ?_
          generalize hw95 : e_up w81 1 12 t = w95
          have f101 : e_fr (kRt cd) w w95 := e_fr.up f85 hw95 (by unfold kRt; omega)
          have hT103 : e_Has kTy w95 := e_Has.ups q83T hw95 rfl
          have hH104 : e_Has kRy w95 := e_Has.upr q83H hw95 rfl (by omega)
          have t105 : tkR w95 := q83k.eq (fun k g => by rw [← hw95]; exact e_up_ne _ _ (by omega))
          have g106 : e_fr (fun c k => c = 1 ∧ 11 ≤ k ∧ k ≤ 13) w81 w95 := fun c k g => by have g2 : ¬ (c = 1 ∧ 11 ≤ k ∧ k ≤ 13) := g; rw [← hw95]; exact e_up_ne _ _ (by omega)
          have s107 : gS w81 w95 cd 0 0 0 0 0 := gS.wr hcd ((e_Has.get q83T (c := cd) (k := 0) (lo := 0) (hi := 4000) (kD_0 hcd) (by decide)).1) (by omega) g106
          have x108 : gS w w95 cd 1 1 0 0 0 := gS.trans x87 s107 (by omega)
          have p109 := zpl.step p88 s107
          have p110 := zpl.step p89 s107
          have p111 := zpl.step p90 s107
          have p112 := lpK.step p91 s107
          refine e_Ok.run (t' := (162, [(1, (0, z32)), (0, (1, 1))], [(1, 1)], w95)) 1 rfl ?_
          refine e_Ok.getr (z := cd) rfl (el_o rfl) rfl rfl (by rw [← hw95]; exact (e_up_ne _ _ (Or.inr (by omega))).trans ((q83f 1 3 (by unfold kEm; omega)).trans ((q72f 1 3 (by unfold kRt; omega)).trans (by rw [← hw57]; exact (e_up_ne _ _ (Or.inr (by omega))).trans ((q50f 1 3 (by unfold kEm; omega)).trans ((q44f 1 3 (by unfold kEm; omega)).trans ((q37f 1 3 (by unfold kEm; omega)).trans ((q31f 1 3 (by unfold kEm; omega)).trans ((q23f 1 3 (by unfold kRk; omega)).trans ((q14f 1 3 (by unfold kRa; omega)).trans ((q4g 1 3 (by unfold kRO; omega)).trans hc))))))))))) (by omega) ?_
          refine e_Ok.run (t' := (167, [(1, (0, z32)), (0, (1, 1))], [(0, 3), (0, z32), (1, cd)], w95)) 2 rfl ?_
          refine e_Ok.add (z := z32 + 3) rfl (by omega) (by omega) ?_
          refine e_Ok.run (t' := (169, [(1, (0, z32)), (0, (1, 1))], [(1, 1), (0, z32 + 3), (1, cd)], w95)) 1 rfl ?_
          refine e_Ok.getr (z := cd) rfl (el_o rfl) rfl rfl (by rw [← hw95]; exact (e_up_ne _ _ (Or.inr (by omega))).trans ((q83f 1 3 (by unfold kEm; omega)).trans ((q72f 1 3 (by unfold kRt; omega)).trans (by rw [← hw57]; exact (e_up_ne _ _ (Or.inr (by omega))).trans ((q50f 1 3 (by unfold kEm; omega)).trans ((q44f 1 3 (by unfold kEm; omega)).trans ((q37f 1 3 (by unfold kEm; omega)).trans ((q31f 1 3 (by unfold kEm; omega)).trans ((q23f 1 3 (by unfold kRk; omega)).trans ((q14f 1 3 (by unfold kRa; omega)).trans ((q4g 1 3 (by unfold kRO; omega)).trans hc))))))))))) (by omega) ?_
          have h113 := (e_Has.get q83T (c := cd) (k := 0) (lo := 0) (hi := 4000) (kD_0 hcd) (by decide))
          refine e_Ok.getf (z := w81 cd 0) rfl (lD0 hcd) rfl rfl (by rw [← hw95]; exact (e_up_ne _ _ (Or.inr (by omega))).trans rfl) (by omega) ?_
          refine e_Ok.callV rfl (by omega) rfl (lD0 hcd) rfl rfl (c_22 hT103 hcd (by omega) (by have g := e_Has.get hT103 (c := cd) (k := 0) (lo := 0) (hi := 4000) (kD_0 hcd) (by decide); omega)) (fun r114 w115 h116 => ?_)
          obtain ⟨rfl, q117f, q117T, q117x⟩ := h116
          have q117H : e_Has kRy w115 := H_fr q117f (fun c k g => by unfold kPa at g; omega) hH104
          have q117k : tkR w115 := t105.fr q117f (fun k g => by unfold kPa; omega)
          have f118 : e_fr (kRt cd) w w115 := e_fr.trans f101 (e_fr.mono q117f (fun c k q => by unfold kPa at q; unfold kRt; omega))
          have s119 : gS w95 w115 cd 0 0 0 0 0 := gS.pat hcd ((e_Has.get hT103 (c := cd) (k := 0) (lo := 0) (hi := 4000) (kD_0 hcd) (by decide)).1) q117f q117x (show w81 cd 0 = w95 cd 0 from Eq.symm (by rw [← hw95]; exact (e_up_ne _ _ (Or.inr (by omega))).trans rfl)) p111 (by omega)
          have x120 : gS w w115 cd 1 1 0 0 0 := gS.trans x108 s119 (by omega)
          have p121 := zpl.step p109 s119
          have p122 := zpl.step p110 s119
          have p123 := zpl.step p111 s119
          have p124 := lpK.step p112 s119
          show e_Ok 20 elay kcode eI (d + 1) 156 (178, [(1, (0, z32)), (0, (1, 1))], [], w115) _
          refine e_Ok.run (t' := (181, [(1, (0, z32)), (0, (1, 1))], [(0, 23), (1, 1)], w115)) 2 rfl ?_
          refine e_Ok.callV rfl (by omega) rfl rfl rfl rfl (c_129 (by omega) q117T q117H q117k (by omega)) (fun r125 w126 h127 => ?_)
          obtain ⟨rfl, q128f, q128T, q128H, q128k, q128x⟩ := h127
          have f129 : e_fr (kRt cd) w w126 := e_fr.trans f118 (e_fr.mono q128f (fun c k q => by unfold kRk at q; unfold kRt; omega))
          have s130 : gS w115 w126 cd (-3) 0 0 0 0 := gS.acc hcd ((e_Has.get q117T (c := cd) (k := 0) (lo := 0) (hi := 4000) (kD_0 hcd) (by decide)).1) (by omega) q128f q128x (fun g => q117k.a3 (by omega))
          have x131 : gS w w126 cd (-2) 1 0 0 0 := gS.trans x120 s130 (by omega)
          have p132 := zpl.step p121 s130
          have p133 := zpl.step p122 s130
          have p134 := zpl.step p123 s130
          have p135 := lpK.step p124 s130
          show e_Ok 20 elay kcode eI (d + 1) 156 (184, [(1, (0, z32)), (0, (1, 1))], [], w126) _
          refine e_Ok.run (t' := (186, [(1, (0, z32)), (0, (1, 1))], [(1, 1), (1, 1)], w126)) 2 rfl ?_
          refine e_Ok.getf (z := o + 1) rfl (el_o rfl) rfl rfl ((q128f 1 11 (by unfold kRk; omega)).trans ((q117f 1 11 (by unfold kPa; omega)).trans (by rw [← hw95]; exact (e_up_ne _ _ (Or.inr (by omega))).trans ((q83f 1 11 (by unfold kEm; omega)).trans (q72o.trans (by rw [← hw57]; exact (e_up_ne _ _ (Or.inr (by omega))).trans ((q50f 1 11 (by unfold kEm; omega)).trans ((q44f 1 11 (by unfold kEm; omega)).trans ((q37f 1 11 (by unfold kEm; omega)).trans ((q31f 1 11 (by unfold kEm; omega)).trans ((q23f 1 11 (by unfold kRk; omega)).trans ((q14f 1 11 (by unfold kRa; omega)).trans q4b)))))))))))) (by omega) ?_
          refine e_Ok.run (t' := (190, [(1, (0, z32)), (0, (1, 1))], [(0, 1), (0, o + 1), (1, 1)], w126)) 1 rfl ?_
          refine e_Ok.sub' (z := o) rfl (by omega) (by omega) ?_
          refine e_Ok.putf rfl (el_o rfl) rfl rfl ?_
          generalize hw136 : e_up w126 1 11 o = w136
          have f137 : e_fr (kRt cd) w w136 := e_fr.up f129 hw136 (by unfold kRt; omega)
          have hT138 : e_Has kTy w136 := e_Has.ups q128T hw136 rfl
          have hH139 : e_Has kRy w136 := e_Has.upr q128H hw136 rfl (by omega)
          have t140 : tkR w136 := q128k.eq (fun k g => by rw [← hw136]; exact e_up_ne _ _ (by omega))
          have g141 : e_fr (fun c k => c = 1 ∧ 11 ≤ k ∧ k ≤ 13) w126 w136 := fun c k g => by have g2 : ¬ (c = 1 ∧ 11 ≤ k ∧ k ≤ 13) := g; rw [← hw136]; exact e_up_ne _ _ (by omega)
          have s142 : gS w126 w136 cd 0 0 0 0 0 := gS.wr hcd ((e_Has.get q128T (c := cd) (k := 0) (lo := 0) (hi := 4000) (kD_0 hcd) (by decide)).1) (by omega) g141
          have x143 : gS w w136 cd (-2) 1 0 0 0 := gS.trans x131 s142 (by omega)
          have p144 := zpl.step p132 s142
          have p145 := zpl.step p133 s142
          have p146 := zpl.step p134 s142
          have p147 := lpK.step p135 s142
          refine e_Ok.rets rfl rfl ?_
          exact ⟨rfl, f137, ⟨hT138, hH139, (by rw [← hw136]; exact (e_up_ne _ _ (Or.inr (by omega))).trans ((q128f 1 3 (by unfold kRk; omega)).trans ((q117f 1 3 (by unfold kPa; omega)).trans (by rw [← hw95]; exact (e_up_ne _ _ (Or.inr (by omega))).trans ((q83f 1 3 (by unfold kEm; omega)).trans ((q72f 1 3 (by unfold kRt; omega)).trans (by rw [← hw57]; exact (e_up_ne _ _ (Or.inr (by omega))).trans ((q50f 1 3 (by unfold kEm; omega)).trans ((q44f 1 3 (by unfold kEm; omega)).trans ((q37f 1 3 (by unfold kEm; omega)).trans ((q31f 1 3 (by unfold kEm; omega)).trans ((q23f 1 3 (by unfold kRk; omega)).trans ((q14f 1 3 (by unfold kRa; omega)).trans ((q4g 1 3 (by unfold kRO; omega)).trans hc)))))))))))))), hcd, t140⟩, ⟨(by have g1 : w136 1 11 = o := (by rw [← hw136]; exact e_up_eq _ _ _ _); have g0 : w 1 11 = o := ho; omega), (by have g1 : w136 1 12 = t := (by rw [← hw136]; exact (e_up_ne _ _ (Or.inr (by omega))).trans ((q128f 1 12 (by unfold kRk; omega)).trans ((q117f 1 12 (by unfold kPa; omega)).trans (by rw [← hw95]; exact e_up_eq _ _ _ _)))); have g0 : w 1 12 = t := ht; omega), (by have g1 : w136 1 13 = lp := (by rw [← hw136]; exact (e_up_ne _ _ (Or.inr (by omega))).trans ((q128f 1 13 (by unfold kRk; omega)).trans ((q117f 1 13 (by unfold kPa; omega)).trans (by rw [← hw95]; exact (e_up_ne _ _ (Or.inr (by omega))).trans ((q83f 1 13 (by unfold kEm; omega)).trans (q72l.trans (by rw [← hw57]; exact (e_up_ne _ _ (Or.inr (by omega))).trans ((q50f 1 13 (by unfold kEm; omega)).trans ((q44f 1 13 (by unfold kEm; omega)).trans ((q37f 1 13 (by unfold kEm; omega)).trans ((q31f 1 13 (by unfold kEm; omega)).trans ((q23f 1 13 (by unfold kRk; omega)).trans ((q14f 1 13 (by unfold kRa; omega)).trans ((q4g 1 13 (by unfold kRO; omega)).trans hlp)))))))))))))); have g0 : w 1 13 = lp := hlp; omega)⟩, x143.le (by omega)⟩
        · replace h94 : (w70 1 5 : Int) = 44 := by have q : ¬ ((w70 1 5 : Int) ≠ 44) := h94; omega
          refine e_Ok.run (t' := (129, [(1, (0, z32)), (0, (1, 1))], [(1, 1)], w81)) 1 rfl ?_
          refine e_Ok.getr (z := cd) rfl (el_o rfl) rfl rfl ((q83f 1 3 (by unfold kEm; omega)).trans ((q72f 1 3 (by unfold kRt; omega)).trans (by rw [← hw57]; exact (e_up_ne _ _ (Or.inr (by omega))).trans ((q50f 1 3 (by unfold kEm; omega)).trans ((q44f 1 3 (by unfold kEm; omega)).trans ((q37f 1 3 (by unfold kEm; omega)).trans ((q31f 1 3 (by unfold kEm; omega)).trans ((q23f 1 3 (by unfold kRk; omega)).trans ((q14f 1 3 (by unfold kRa; omega)).trans ((q4g 1 3 (by unfold kRO; omega)).trans hc)))))))))) (by omega) ?_
          refine e_Ok.run (t' := (134, [(1, (0, z32)), (0, (1, 1))], [(0, 2), (0, z32), (1, cd)], w81)) 2 rfl ?_
          refine e_Ok.add (z := z32 + 2) rfl (by omega) (by omega) ?_
          refine e_Ok.run (t' := (136, [(1, (0, z32)), (0, (1, 1))], [(1, 1), (0, z32 + 2), (1, cd)], w81)) 1 rfl ?_
          refine e_Ok.getr (z := cd) rfl (el_o rfl) rfl rfl ((q83f 1 3 (by unfold kEm; omega)).trans ((q72f 1 3 (by unfold kRt; omega)).trans (by rw [← hw57]; exact (e_up_ne _ _ (Or.inr (by omega))).trans ((q50f 1 3 (by unfold kEm; omega)).trans ((q44f 1 3 (by unfold kEm; omega)).trans ((q37f 1 3 (by unfold kEm; omega)).trans ((q31f 1 3 (by unfold kEm; omega)).trans ((q23f 1 3 (by unfold kRk; omega)).trans ((q14f 1 3 (by unfold kRa; omega)).trans ((q4g 1 3 (by unfold kRO; omega)).trans hc)))))))))) (by omega) ?_
          have h148 := (e_Has.get q83T (c := cd) (k := 0) (lo := 0) (hi := 4000) (kD_0 hcd) (by decide))
          refine e_Ok.getf (z := w81 cd 0) rfl (lD0 hcd) rfl rfl rfl (by omega) ?_
          refine e_Ok.callV rfl (by omega) rfl (lD0 hcd) rfl rfl (c_22 q83T hcd (by omega) (by have g := e_Has.get q83T (c := cd) (k := 0) (lo := 0) (hi := 4000) (kD_0 hcd) (by decide); omega)) (fun r149 w150 h151 => ?_)
          obtain ⟨rfl, q152f, q152T, q152x⟩ := h151
          have q152H : e_Has kRy w150 := H_fr q152f (fun c k g => by unfold kPa at g; omega) q83H
          have q152k : tkR w150 := q83k.fr q152f (fun k g => by unfold kPa; omega)
          have f153 : e_fr (kRt cd) w w150 := e_fr.trans f85 (e_fr.mono q152f (fun c k q => by unfold kPa at q; unfold kRt; omega))
          have s154 : gS w81 w150 cd 0 0 0 0 0 := gS.pat hcd ((e_Has.get q83T (c := cd) (k := 0) (lo := 0) (hi := 4000) (kD_0 hcd) (by decide)).1) q152f q152x (show w81 cd 0 = w81 cd 0 from Eq.symm rfl) p89 (by omega)
          have x155 : gS w w150 cd 1 1 0 0 0 := gS.trans x87 s154 (by omega)
          have p156 := zpl.step p88 s154
          have p157 := zpl.step p89 s154
          have p158 := zpl.step p90 s154
          have p159 := lpK.step p91 s154
          show e_Ok 20 elay kcode eI (d + 1) 156 (145, [(1, (0, z32)), (0, (1, 1))], [], w150) _
          refine e_Ok.run (t' := (148, [(1, (0, z32)), (0, (1, 1))], [(0, 48), (1, 1)], w150)) 2 rfl ?_
          have k163 : w150 1 5 = w70 1 5 := ((q152f 1 5 (by unfold kPa; omega)).trans ((q83f 1 5 (by unfold kEm; omega)).trans rfl))
          refine e_Ok.callV rfl (by omega) rfl rfl rfl rfl (c_157 (by omega) (o := o + 1) (t := t + 1) (lp := lp) ⟨q152T, q152H, ((q152f 1 3 (by unfold kPa; omega)).trans ((q83f 1 3 (by unfold kEm; omega)).trans ((q72f 1 3 (by unfold kRt; omega)).trans (by rw [← hw57]; exact (e_up_ne _ _ (Or.inr (by omega))).trans ((q50f 1 3 (by unfold kEm; omega)).trans ((q44f 1 3 (by unfold kEm; omega)).trans ((q37f 1 3 (by unfold kEm; omega)).trans ((q31f 1 3 (by unfold kEm; omega)).trans ((q23f 1 3 (by unfold kRk; omega)).trans ((q14f 1 3 (by unfold kRa; omega)).trans ((q4g 1 3 (by unfold kRO; omega)).trans hc))))))))))), hcd, q152k⟩ ((q152f 1 11 (by unfold kPa; omega)).trans ((q83f 1 11 (by unfold kEm; omega)).trans (q72o.trans (by rw [← hw57]; exact (e_up_ne _ _ (Or.inr (by omega))).trans ((q50f 1 11 (by unfold kEm; omega)).trans ((q44f 1 11 (by unfold kEm; omega)).trans ((q37f 1 11 (by unfold kEm; omega)).trans ((q31f 1 11 (by unfold kEm; omega)).trans ((q23f 1 11 (by unfold kRk; omega)).trans ((q14f 1 11 (by unfold kRa; omega)).trans q4b)))))))))) (by omega) ((q152f 1 12 (by unfold kPa; omega)).trans ((q83f 1 12 (by unfold kEm; omega)).trans (q72t.trans (by rw [← hw57]; exact e_up_eq _ _ _ _)))) (by omega) ((q152f 1 13 (by unfold kPa; omega)).trans ((q83f 1 13 (by unfold kEm; omega)).trans (q72l.trans (by rw [← hw57]; exact (e_up_ne _ _ (Or.inr (by omega))).trans ((q50f 1 13 (by unfold kEm; omega)).trans ((q44f 1 13 (by unfold kEm; omega)).trans ((q37f 1 13 (by unfold kEm; omega)).trans ((q31f 1 13 (by unfold kEm; omega)).trans ((q23f 1 13 (by unfold kRk; omega)).trans ((q14f 1 13 (by unfold kRa; omega)).trans ((q4g 1 13 (by unfold kRO; omega)).trans hlp))))))))))) p159 (by omega) (by omega) (fun k e => hB (by omega) k (by omega))) (fun r160 w161 h162 => ?_)
          obtain ⟨rfl, q164f, ⟨q164T, q164H, q164c, -, q164k⟩, ⟨q164o, q164t, q164l⟩, q164x⟩ := h162
          have f165 : e_fr (kRt cd) w w161 := e_fr.trans f153 (e_fr.mono q164f (fun c k q => by exact q))
          have s166 : gS w150 w161 cd 0 0 0 0 0 := q164x
          have x167 : gS w w161 cd 1 1 0 0 0 := gS.trans x155 s166 (by omega)
          have p168 := zpl.step p156 s166
          have p169 := zpl.step p157 s166
          have p170 := zpl.step p158 s166
          have p171 := lpK.step p159 s166
          show e_Ok 20 elay kcode eI (d + 1) 156 (151, [(1, (0, z32)), (0, (1, 1))], [], w161) _
          refine e_Ok.run (t' := (153, [(1, (0, z32)), (0, (1, 1))], [(1, 1), (1, 1)], w161)) 2 rfl ?_
          refine e_Ok.getf (z := t + 1) rfl (el_o rfl) rfl rfl (q164t.trans ((q152f 1 12 (by unfold kPa; omega)).trans ((q83f 1 12 (by unfold kEm; omega)).trans (q72t.trans (by rw [← hw57]; exact e_up_eq _ _ _ _))))) (by omega) ?_
          refine e_Ok.run (t' := (157, [(1, (0, z32)), (0, (1, 1))], [(0, 1), (0, t + 1), (1, 1)], w161)) 1 rfl ?_
          refine e_Ok.sub' (z := t) rfl (by omega) (by omega) ?_
          refine e_Ok.putf rfl (el_o rfl) rfl rfl ?_
          generalize hw172 : e_up w161 1 12 t = w172
          have f173 : e_fr (kRt cd) w w172 := e_fr.up f165 hw172 (by unfold kRt; omega)
          have hT174 : e_Has kTy w172 := e_Has.ups q164T hw172 rfl
          have hH175 : e_Has kRy w172 := e_Has.upr q164H hw172 rfl (by omega)
          have t176 : tkR w172 := q164k.eq (fun k g => by rw [← hw172]; exact e_up_ne _ _ (by omega))
          have g177 : e_fr (fun c k => c = 1 ∧ 11 ≤ k ∧ k ≤ 13) w161 w172 := fun c k g => by have g2 : ¬ (c = 1 ∧ 11 ≤ k ∧ k ≤ 13) := g; rw [← hw172]; exact e_up_ne _ _ (by omega)
          have s178 : gS w161 w172 cd 0 0 0 0 0 := gS.wr hcd ((e_Has.get q164T (c := cd) (k := 0) (lo := 0) (hi := 4000) (kD_0 hcd) (by decide)).1) (by omega) g177
          have x179 : gS w w172 cd 1 1 0 0 0 := gS.trans x167 s178 (by omega)
          have p180 := zpl.step p168 s178
          have p181 := zpl.step p169 s178
          have p182 := zpl.step p170 s178
          have p183 := lpK.step p171 s178
          refine e_Ok.run (t' := (162, [(1, (0, z32)), (0, (1, 1))], [(1, 1)], w172)) 1 rfl ?_
          refine e_Ok.getr (z := cd) rfl (el_o rfl) rfl rfl (by rw [← hw172]; exact (e_up_ne _ _ (Or.inr (by omega))).trans ((q164f 1 3 (by unfold kRt; omega)).trans ((q152f 1 3 (by unfold kPa; omega)).trans ((q83f 1 3 (by unfold kEm; omega)).trans ((q72f 1 3 (by unfold kRt; omega)).trans (by rw [← hw57]; exact (e_up_ne _ _ (Or.inr (by omega))).trans ((q50f 1 3 (by unfold kEm; omega)).trans ((q44f 1 3 (by unfold kEm; omega)).trans ((q37f 1 3 (by unfold kEm; omega)).trans ((q31f 1 3 (by unfold kEm; omega)).trans ((q23f 1 3 (by unfold kRk; omega)).trans ((q14f 1 3 (by unfold kRa; omega)).trans ((q4g 1 3 (by unfold kRO; omega)).trans hc))))))))))))) (by omega) ?_
          refine e_Ok.run (t' := (167, [(1, (0, z32)), (0, (1, 1))], [(0, 3), (0, z32), (1, cd)], w172)) 2 rfl ?_
          refine e_Ok.add (z := z32 + 3) rfl (by omega) (by omega) ?_
          refine e_Ok.run (t' := (169, [(1, (0, z32)), (0, (1, 1))], [(1, 1), (0, z32 + 3), (1, cd)], w172)) 1 rfl ?_
          refine e_Ok.getr (z := cd) rfl (el_o rfl) rfl rfl (by rw [← hw172]; exact (e_up_ne _ _ (Or.inr (by omega))).trans ((q164f 1 3 (by unfold kRt; omega)).trans ((q152f 1 3 (by unfold kPa; omega)).trans ((q83f 1 3 (by unfold kEm; omega)).trans ((q72f 1 3 (by unfold kRt; omega)).trans (by rw [← hw57]; exact (e_up_ne _ _ (Or.inr (by omega))).trans ((q50f 1 3 (by unfold kEm; omega)).trans ((q44f 1 3 (by unfold kEm; omega)).trans ((q37f 1 3 (by unfold kEm; omega)).trans ((q31f 1 3 (by unfold kEm; omega)).trans ((q23f 1 3 (by unfold kRk; omega)).trans ((q14f 1 3 (by unfold kRa; omega)).trans ((q4g 1 3 (by unfold kRO; omega)).trans hc))))))))))))) (by omega) ?_
          have h184 := (e_Has.get q164T (c := cd) (k := 0) (lo := 0) (hi := 4000) (kD_0 hcd) (by decide))
          refine e_Ok.getf (z := w161 cd 0) rfl (lD0 hcd) rfl rfl (by rw [← hw172]; exact (e_up_ne _ _ (Or.inr (by omega))).trans rfl) (by omega) ?_
          refine e_Ok.callV rfl (by omega) rfl (lD0 hcd) rfl rfl (c_22 hT174 hcd (by omega) (by have g := e_Has.get hT174 (c := cd) (k := 0) (lo := 0) (hi := 4000) (kD_0 hcd) (by decide); omega)) (fun r185 w186 h187 => ?_)
          obtain ⟨rfl, q188f, q188T, q188x⟩ := h187
          have q188H : e_Has kRy w186 := H_fr q188f (fun c k g => by unfold kPa at g; omega) hH175
          have q188k : tkR w186 := t176.fr q188f (fun k g => by unfold kPa; omega)
          have f189 : e_fr (kRt cd) w w186 := e_fr.trans f173 (e_fr.mono q188f (fun c k q => by unfold kPa at q; unfold kRt; omega))
          have s190 : gS w172 w186 cd 0 0 0 0 0 := gS.pat hcd ((e_Has.get hT174 (c := cd) (k := 0) (lo := 0) (hi := 4000) (kD_0 hcd) (by decide)).1) q188f q188x (show w161 cd 0 = w172 cd 0 from Eq.symm (by rw [← hw172]; exact (e_up_ne _ _ (Or.inr (by omega))).trans rfl)) p182 (by omega)
          have x191 : gS w w186 cd 1 1 0 0 0 := gS.trans x179 s190 (by omega)
          have p192 := zpl.step p180 s190
          have p193 := zpl.step p181 s190
          have p194 := zpl.step p182 s190
          have p195 := lpK.step p183 s190
          show e_Ok 20 elay kcode eI (d + 1) 156 (178, [(1, (0, z32)), (0, (1, 1))], [], w186) _
          refine e_Ok.run (t' := (181, [(1, (0, z32)), (0, (1, 1))], [(0, 23), (1, 1)], w186)) 2 rfl ?_
          refine e_Ok.callV rfl (by omega) rfl rfl rfl rfl (c_129 (by omega) q188T q188H q188k (by omega)) (fun r196 w197 h198 => ?_)
          obtain ⟨rfl, q199f, q199T, q199H, q199k, q199x⟩ := h198
          have f200 : e_fr (kRt cd) w w197 := e_fr.trans f189 (e_fr.mono q199f (fun c k q => by unfold kRk at q; unfold kRt; omega))
          have s201 : gS w186 w197 cd (-3) 0 0 0 0 := gS.acc hcd ((e_Has.get q188T (c := cd) (k := 0) (lo := 0) (hi := 4000) (kD_0 hcd) (by decide)).1) (by omega) q199f q199x (fun g => q188k.a3 (by omega))
          have x202 : gS w w197 cd (-2) 1 0 0 0 := gS.trans x191 s201 (by omega)
          have p203 := zpl.step p192 s201
          have p204 := zpl.step p193 s201
          have p205 := zpl.step p194 s201
          have p206 := lpK.step p195 s201
          show e_Ok 20 elay kcode eI (d + 1) 156 (184, [(1, (0, z32)), (0, (1, 1))], [], w197) _
          refine e_Ok.run (t' := (186, [(1, (0, z32)), (0, (1, 1))], [(1, 1), (1, 1)], w197)) 2 rfl ?_
          refine e_Ok.getf (z := o + 1) rfl (el_o rfl) rfl rfl ((q199f 1 11 (by unfold kRk; omega)).trans ((q188f 1 11 (by unfold kPa; omega)).trans (by rw [← hw172]; exact (e_up_ne _ _ (Or.inr (by omega))).trans (q164o.trans ((q152f 1 11 (by unfold kPa; omega)).trans ((q83f 1 11 (by unfold kEm; omega)).trans (q72o.trans (by rw [← hw57]; exact (e_up_ne _ _ (Or.inr (by omega))).trans ((q50f 1 11 (by unfold kEm; omega)).trans ((q44f 1 11 (by unfold kEm; omega)).trans ((q37f 1 11 (by unfold kEm; omega)).trans ((q31f 1 11 (by unfold kEm; omega)).trans ((q23f 1 11 (by unfold kRk; omega)).trans ((q14f 1 11 (by unfold kRa; omega)).trans q4b)))))))))))))) (by omega) ?_
          refine e_Ok.run (t' := (190, [(1, (0, z32)), (0, (1, 1))], [(0, 1), (0, o + 1), (1, 1)], w197)) 1 rfl ?_
          refine e_Ok.sub' (z := o) rfl (by omega) (by omega) ?_
          refine e_Ok.putf rfl (el_o rfl) rfl rfl ?_
          generalize hw207 : e_up w197 1 11 o = w207
          have f208 : e_fr (kRt cd) w w207 := e_fr.up f200 hw207 (by unfold kRt; omega)
          have hT209 : e_Has kTy w207 := e_Has.ups q199T hw207 rfl
          have hH210 : e_Has kRy w207 := e_Has.upr q199H hw207 rfl (by omega)
          have t211 : tkR w207 := q199k.eq (fun k g => by rw [← hw207]; exact e_up_ne _ _ (by omega))
          have g212 : e_fr (fun c k => c = 1 ∧ 11 ≤ k ∧ k ≤ 13) w197 w207 := fun c k g => by have g2 : ¬ (c = 1 ∧ 11 ≤ k ∧ k ≤ 13) := g; rw [← hw207]; exact e_up_ne _ _ (by omega)
          have s213 : gS w197 w207 cd 0 0 0 0 0 := gS.wr hcd ((e_Has.get q199T (c := cd) (k := 0) (lo := 0) (hi := 4000) (kD_0 hcd) (by decide)).1) (by omega) g212
          have x214 : gS w w207 cd (-2) 1 0 0 0 := gS.trans x202 s213 (by omega)
          have p215 := zpl.step p203 s213
          have p216 := zpl.step p204 s213
          have p217 := zpl.step p205 s213
          have p218 := lpK.step p206 s213
          refine e_Ok.rets rfl rfl ?_
          exact ⟨rfl, f208, ⟨hT209, hH210, (by rw [← hw207]; exact (e_up_ne _ _ (Or.inr (by omega))).trans ((q199f 1 3 (by unfold kRk; omega)).trans ((q188f 1 3 (by unfold kPa; omega)).trans (by rw [← hw172]; exact (e_up_ne _ _ (Or.inr (by omega))).trans ((q164f 1 3 (by unfold kRt; omega)).trans ((q152f 1 3 (by unfold kPa; omega)).trans ((q83f 1 3 (by unfold kEm; omega)).trans ((q72f 1 3 (by unfold kRt; omega)).trans (by rw [← hw57]; exact (e_up_ne _ _ (Or.inr (by omega))).trans ((q50f 1 3 (by unfold kEm; omega)).trans ((q44f 1 3 (by unfold kEm; omega)).trans ((q37f 1 3 (by unfold kEm; omega)).trans ((q31f 1 3 (by unfold kEm; omega)).trans ((q23f 1 3 (by unfold kRk; omega)).trans ((q14f 1 3 (by unfold kRa; omega)).trans ((q4g 1 3 (by unfold kRO; omega)).trans hc)))))))))))))))), hcd, t211⟩, ⟨(by have g1 : w207 1 11 = o := (by rw [← hw207]; exact e_up_eq _ _ _ _); have g0 : w 1 11 = o := ho; omega), (by have g1 : w207 1 12 = t := (by rw [← hw207]; exact (e_up_ne _ _ (Or.inr (by omega))).trans ((q199f 1 12 (by unfold kRk; omega)).trans ((q188f 1 12 (by unfold kPa; omega)).trans (by rw [← hw172]; exact e_up_eq _ _ _ _)))); have g0 : w 1 12 = t := ht; omega), (by have g1 : w207 1 13 = lp := (by rw [← hw207]; exact (e_up_ne _ _ (Or.inr (by omega))).trans ((q199f 1 13 (by unfold kRk; omega)).trans ((q188f 1 13 (by unfold kPa; omega)).trans (by rw [← hw172]; exact (e_up_ne _ _ (Or.inr (by omega))).trans (q164l.trans ((q152f 1 13 (by unfold kPa; omega)).trans ((q83f 1 13 (by unfold kEm; omega)).trans (q72l.trans (by rw [← hw57]; exact (e_up_ne _ _ (Or.inr (by omega))).trans ((q50f 1 13 (by unfold kEm; omega)).trans ((q44f 1 13 (by unfold kEm; omega)).trans ((q37f 1 13 (by unfold kEm; omega)).trans ((q31f 1 13 (by unfold kEm; omega)).trans ((q23f 1 13 (by unfold kRk; omega)).trans ((q14f 1 13 (by unfold kRa; omega)).trans ((q4g 1 13 (by unfold kRO; omega)).trans hlp)))))))))))))))); have g0 : w 1 13 = lp := hlp; omega)⟩, x214.le (by omega)⟩
      · replace h93 : (w70 1 5 : Int) = 43 := by have q : ¬ ((w70 1 5 : Int) ≠ 43) := h93; omega
        refine e_Ok.run (t' := (97, [(1, (0, z32)), (0, (1, 1))], [(1, 1)], w81)) 1 rfl ?_
        refine e_Ok.getr (z := cd) rfl (el_o rfl) rfl rfl ((q83f 1 3 (by unfold kEm; omega)).trans ((q72f 1 3 (by unfold kRt; omega)).trans (by rw [← hw57]; exact (e_up_ne _ _ (Or.inr (by omega))).trans ((q50f 1 3 (by unfold kEm; omega)).trans ((q44f 1 3 (by unfold kEm; omega)).trans ((q37f 1 3 (by unfold kEm; omega)).trans ((q31f 1 3 (by unfold kEm; omega)).trans ((q23f 1 3 (by unfold kRk; omega)).trans ((q14f 1 3 (by unfold kRa; omega)).trans ((q4g 1 3 (by unfold kRO; omega)).trans hc)))))))))) (by omega) ?_
        refine e_Ok.run (t' := (102, [(1, (0, z32)), (0, (1, 1))], [(0, 1), (0, z32), (1, cd)], w81)) 2 rfl ?_
        refine e_Ok.add (z := z32 + 1) rfl (by omega) (by omega) ?_
        refine e_Ok.run (t' := (104, [(1, (0, z32)), (0, (1, 1))], [(1, 1), (0, z32 + 1), (1, cd)], w81)) 1 rfl ?_
        refine e_Ok.getr (z := cd) rfl (el_o rfl) rfl rfl ((q83f 1 3 (by unfold kEm; omega)).trans ((q72f 1 3 (by unfold kRt; omega)).trans (by rw [← hw57]; exact (e_up_ne _ _ (Or.inr (by omega))).trans ((q50f 1 3 (by unfold kEm; omega)).trans ((q44f 1 3 (by unfold kEm; omega)).trans ((q37f 1 3 (by unfold kEm; omega)).trans ((q31f 1 3 (by unfold kEm; omega)).trans ((q23f 1 3 (by unfold kRk; omega)).trans ((q14f 1 3 (by unfold kRa; omega)).trans ((q4g 1 3 (by unfold kRO; omega)).trans hc)))))))))) (by omega) ?_
        have h219 := (e_Has.get q83T (c := cd) (k := 0) (lo := 0) (hi := 4000) (kD_0 hcd) (by decide))
        refine e_Ok.getf (z := w81 cd 0) rfl (lD0 hcd) rfl rfl rfl (by omega) ?_
        refine e_Ok.callV rfl (by omega) rfl (lD0 hcd) rfl rfl (c_22 q83T hcd (by omega) (by have g := e_Has.get q83T (c := cd) (k := 0) (lo := 0) (hi := 4000) (kD_0 hcd) (by decide); omega)) (fun r220 w221 h222 => ?_)
        obtain ⟨rfl, q223f, q223T, q223x⟩ := h222
        have q223H : e_Has kRy w221 := H_fr q223f (fun c k g => by unfold kPa at g; omega) q83H
        have q223k : tkR w221 := q83k.fr q223f (fun k g => by unfold kPa; omega)
        have f224 : e_fr (kRt cd) w w221 := e_fr.trans f85 (e_fr.mono q223f (fun c k q => by unfold kPa at q; unfold kRt; omega))
        have s225 : gS w81 w221 cd 0 0 0 0 0 := gS.pat hcd ((e_Has.get q83T (c := cd) (k := 0) (lo := 0) (hi := 4000) (kD_0 hcd) (by decide)).1) q223f q223x (show w81 cd 0 = w81 cd 0 from Eq.symm rfl) p88 (by omega)
        have x226 : gS w w221 cd 1 1 0 0 0 := gS.trans x87 s225 (by omega)
        have p227 := zpl.step p88 s225
        have p228 := zpl.step p89 s225
        have p229 := zpl.step p90 s225
        have p230 := lpK.step p91 s225
        show e_Ok 20 elay kcode eI (d + 1) 156 (113, [(1, (0, z32)), (0, (1, 1))], [], w221) _
        refine e_Ok.run (t' := (116, [(1, (0, z32)), (0, (1, 1))], [(0, 47), (1, 1)], w221)) 2 rfl ?_
        have k234 : w221 1 5 = w70 1 5 := ((q223f 1 5 (by unfold kPa; omega)).trans ((q83f 1 5 (by unfold kEm; omega)).trans rfl))
        refine e_Ok.callV rfl (by omega) rfl rfl rfl rfl (c_157 (by omega) (o := o + 1) (t := t + 1) (lp := lp) ⟨q223T, q223H, ((q223f 1 3 (by unfold kPa; omega)).trans ((q83f 1 3 (by unfold kEm; omega)).trans ((q72f 1 3 (by unfold kRt; omega)).trans (by rw [← hw57]; exact (e_up_ne _ _ (Or.inr (by omega))).trans ((q50f 1 3 (by unfold kEm; omega)).trans ((q44f 1 3 (by unfold kEm; omega)).trans ((q37f 1 3 (by unfold kEm; omega)).trans ((q31f 1 3 (by unfold kEm; omega)).trans ((q23f 1 3 (by unfold kRk; omega)).trans ((q14f 1 3 (by unfold kRa; omega)).trans ((q4g 1 3 (by unfold kRO; omega)).trans hc))))))))))), hcd, q223k⟩ ((q223f 1 11 (by unfold kPa; omega)).trans ((q83f 1 11 (by unfold kEm; omega)).trans (q72o.trans (by rw [← hw57]; exact (e_up_ne _ _ (Or.inr (by omega))).trans ((q50f 1 11 (by unfold kEm; omega)).trans ((q44f 1 11 (by unfold kEm; omega)).trans ((q37f 1 11 (by unfold kEm; omega)).trans ((q31f 1 11 (by unfold kEm; omega)).trans ((q23f 1 11 (by unfold kRk; omega)).trans ((q14f 1 11 (by unfold kRa; omega)).trans q4b)))))))))) (by omega) ((q223f 1 12 (by unfold kPa; omega)).trans ((q83f 1 12 (by unfold kEm; omega)).trans (q72t.trans (by rw [← hw57]; exact e_up_eq _ _ _ _)))) (by omega) ((q223f 1 13 (by unfold kPa; omega)).trans ((q83f 1 13 (by unfold kEm; omega)).trans (q72l.trans (by rw [← hw57]; exact (e_up_ne _ _ (Or.inr (by omega))).trans ((q50f 1 13 (by unfold kEm; omega)).trans ((q44f 1 13 (by unfold kEm; omega)).trans ((q37f 1 13 (by unfold kEm; omega)).trans ((q31f 1 13 (by unfold kEm; omega)).trans ((q23f 1 13 (by unfold kRk; omega)).trans ((q14f 1 13 (by unfold kRa; omega)).trans ((q4g 1 13 (by unfold kRO; omega)).trans hlp))))))))))) p230 (by omega) (by omega) (fun k e => hB (by omega) k (by omega))) (fun r231 w232 h233 => ?_)
        obtain ⟨rfl, q235f, ⟨q235T, q235H, q235c, -, q235k⟩, ⟨q235o, q235t, q235l⟩, q235x⟩ := h233
        have f236 : e_fr (kRt cd) w w232 := e_fr.trans f224 (e_fr.mono q235f (fun c k q => by exact q))
        have s237 : gS w221 w232 cd 0 0 0 0 0 := q235x
        have x238 : gS w w232 cd 1 1 0 0 0 := gS.trans x226 s237 (by omega)
        have p239 := zpl.step p227 s237
        have p240 := zpl.step p228 s237
        have p241 := zpl.step p229 s237
        have p242 := lpK.step p230 s237
        show e_Ok 20 elay kcode eI (d + 1) 156 (119, [(1, (0, z32)), (0, (1, 1))], [], w232) _
        refine e_Ok.run (t' := (120, [(1, (0, z32)), (0, (1, 1))], [(1, 1)], w232)) 1 rfl ?_
        have h243 := (e_Has.get q235H (c := 1) (k := 5) (lo := 0) (hi := 53) rfl (by decide))
        refine e_Ok.getf (z := w232 1 5) rfl (el_o rfl) rfl rfl rfl (by omega) ?_
        refine e_Ok.run (t' := (125, [(1, (0, z32)), (0, (1, 1))], [(0, 44), (0, w232 1 5)], w232)) 1 rfl ?_
        refine e_Ok.if2 rfl (fun h244 => ?_) (fun h244 => ?_)
        · replace h244 : (w232 1 5 : Int) ≠ 44 := h244
          refine e_Ok.run (t' := (153, [(1, (0, z32)), (0, (1, 1))], [(1, 1), (1, 1)], w232)) 2 rfl ?_
          refine e_Ok.getf (z := t + 1) rfl (el_o rfl) rfl rfl (q235t.trans ((q223f 1 12 (by unfold kPa; omega)).trans ((q83f 1 12 (by unfold kEm; omega)).trans (q72t.trans (by rw [← hw57]; exact e_up_eq _ _ _ _))))) (by omega) ?_
          refine e_Ok.run (t' := (157, [(1, (0, z32)), (0, (1, 1))], [(0, 1), (0, t + 1), (1, 1)], w232)) 1 rfl ?_
          refine e_Ok.sub' (z := t) rfl (by omega) (by omega) ?_
          refine e_Ok.putf rfl (el_o rfl) rfl rfl ?_
          generalize hw245 : e_up w232 1 12 t = w245
          have f246 : e_fr (kRt cd) w w245 := e_fr.up f236 hw245 (by unfold kRt; omega)
          have hT247 : e_Has kTy w245 := e_Has.ups q235T hw245 rfl
          have hH248 : e_Has kRy w245 := e_Has.upr q235H hw245 rfl (by omega)
          have t249 : tkR w245 := q235k.eq (fun k g => by rw [← hw245]; exact e_up_ne _ _ (by omega))
          have g250 : e_fr (fun c k => c = 1 ∧ 11 ≤ k ∧ k ≤ 13) w232 w245 := fun c k g => by have g2 : ¬ (c = 1 ∧ 11 ≤ k ∧ k ≤ 13) := g; rw [← hw245]; exact e_up_ne _ _ (by omega)
          have s251 : gS w232 w245 cd 0 0 0 0 0 := gS.wr hcd ((e_Has.get q235T (c := cd) (k := 0) (lo := 0) (hi := 4000) (kD_0 hcd) (by decide)).1) (by omega) g250
          have x252 : gS w w245 cd 1 1 0 0 0 := gS.trans x238 s251 (by omega)
          have p253 := zpl.step p239 s251
          have p254 := zpl.step p240 s251
          have p255 := zpl.step p241 s251
          have p256 := lpK.step p242 s251
          refine e_Ok.run (t' := (162, [(1, (0, z32)), (0, (1, 1))], [(1, 1)], w245)) 1 rfl ?_
          refine e_Ok.getr (z := cd) rfl (el_o rfl) rfl rfl (by rw [← hw245]; exact (e_up_ne _ _ (Or.inr (by omega))).trans ((q235f 1 3 (by unfold kRt; omega)).trans ((q223f 1 3 (by unfold kPa; omega)).trans ((q83f 1 3 (by unfold kEm; omega)).trans ((q72f 1 3 (by unfold kRt; omega)).trans (by rw [← hw57]; exact (e_up_ne _ _ (Or.inr (by omega))).trans ((q50f 1 3 (by unfold kEm; omega)).trans ((q44f 1 3 (by unfold kEm; omega)).trans ((q37f 1 3 (by unfold kEm; omega)).trans ((q31f 1 3 (by unfold kEm; omega)).trans ((q23f 1 3 (by unfold kRk; omega)).trans ((q14f 1 3 (by unfold kRa; omega)).trans ((q4g 1 3 (by unfold kRO; omega)).trans hc))))))))))))) (by omega) ?_
          refine e_Ok.run (t' := (167, [(1, (0, z32)), (0, (1, 1))], [(0, 3), (0, z32), (1, cd)], w245)) 2 rfl ?_
          refine e_Ok.add (z := z32 + 3) rfl (by omega) (by omega) ?_
          refine e_Ok.run (t' := (169, [(1, (0, z32)), (0, (1, 1))], [(1, 1), (0, z32 + 3), (1, cd)], w245)) 1 rfl ?_
          refine e_Ok.getr (z := cd) rfl (el_o rfl) rfl rfl (by rw [← hw245]; exact (e_up_ne _ _ (Or.inr (by omega))).trans ((q235f 1 3 (by unfold kRt; omega)).trans ((q223f 1 3 (by unfold kPa; omega)).trans ((q83f 1 3 (by unfold kEm; omega)).trans ((q72f 1 3 (by unfold kRt; omega)).trans (by rw [← hw57]; exact (e_up_ne _ _ (Or.inr (by omega))).trans ((q50f 1 3 (by unfold kEm; omega)).trans ((q44f 1 3 (by unfold kEm; omega)).trans ((q37f 1 3 (by unfold kEm; omega)).trans ((q31f 1 3 (by unfold kEm; omega)).trans ((q23f 1 3 (by unfold kRk; omega)).trans ((q14f 1 3 (by unfold kRa; omega)).trans ((q4g 1 3 (by unfold kRO; omega)).trans hc))))))))))))) (by omega) ?_
          have h257 := (e_Has.get q235T (c := cd) (k := 0) (lo := 0) (hi := 4000) (kD_0 hcd) (by decide))
          refine e_Ok.getf (z := w232 cd 0) rfl (lD0 hcd) rfl rfl (by rw [← hw245]; exact (e_up_ne _ _ (Or.inr (by omega))).trans rfl) (by omega) ?_
          refine e_Ok.callV rfl (by omega) rfl (lD0 hcd) rfl rfl (c_22 hT247 hcd (by omega) (by have g := e_Has.get hT247 (c := cd) (k := 0) (lo := 0) (hi := 4000) (kD_0 hcd) (by decide); omega)) (fun r258 w259 h260 => ?_)
          obtain ⟨rfl, q261f, q261T, q261x⟩ := h260
          have q261H : e_Has kRy w259 := H_fr q261f (fun c k g => by unfold kPa at g; omega) hH248
          have q261k : tkR w259 := t249.fr q261f (fun k g => by unfold kPa; omega)
          have f262 : e_fr (kRt cd) w w259 := e_fr.trans f246 (e_fr.mono q261f (fun c k q => by unfold kPa at q; unfold kRt; omega))
          have s263 : gS w245 w259 cd 0 0 0 0 0 := gS.pat hcd ((e_Has.get hT247 (c := cd) (k := 0) (lo := 0) (hi := 4000) (kD_0 hcd) (by decide)).1) q261f q261x (show w232 cd 0 = w245 cd 0 from Eq.symm (by rw [← hw245]; exact (e_up_ne _ _ (Or.inr (by omega))).trans rfl)) p255 (by omega)
          have x264 : gS w w259 cd 1 1 0 0 0 := gS.trans x252 s263 (by omega)
          have p265 := zpl.step p253 s263
          have p266 := zpl.step p254 s263
          have p267 := zpl.step p255 s263
          have p268 := lpK.step p256 s263
          show e_Ok 20 elay kcode eI (d + 1) 156 (178, [(1, (0, z32)), (0, (1, 1))], [], w259) _
          refine e_Ok.run (t' := (181, [(1, (0, z32)), (0, (1, 1))], [(0, 23), (1, 1)], w259)) 2 rfl ?_
          refine e_Ok.callV rfl (by omega) rfl rfl rfl rfl (c_129 (by omega) q261T q261H q261k (by omega)) (fun r269 w270 h271 => ?_)
          obtain ⟨rfl, q272f, q272T, q272H, q272k, q272x⟩ := h271
          have f273 : e_fr (kRt cd) w w270 := e_fr.trans f262 (e_fr.mono q272f (fun c k q => by unfold kRk at q; unfold kRt; omega))
          have s274 : gS w259 w270 cd (-3) 0 0 0 0 := gS.acc hcd ((e_Has.get q261T (c := cd) (k := 0) (lo := 0) (hi := 4000) (kD_0 hcd) (by decide)).1) (by omega) q272f q272x (fun g => q261k.a3 (by omega))
          have x275 : gS w w270 cd (-2) 1 0 0 0 := gS.trans x264 s274 (by omega)
          have p276 := zpl.step p265 s274
          have p277 := zpl.step p266 s274
          have p278 := zpl.step p267 s274
          have p279 := lpK.step p268 s274
          show e_Ok 20 elay kcode eI (d + 1) 156 (184, [(1, (0, z32)), (0, (1, 1))], [], w270) _
          refine e_Ok.run (t' := (186, [(1, (0, z32)), (0, (1, 1))], [(1, 1), (1, 1)], w270)) 2 rfl ?_
          refine e_Ok.getf (z := o + 1) rfl (el_o rfl) rfl rfl ((q272f 1 11 (by unfold kRk; omega)).trans ((q261f 1 11 (by unfold kPa; omega)).trans (by rw [← hw245]; exact (e_up_ne _ _ (Or.inr (by omega))).trans (q235o.trans ((q223f 1 11 (by unfold kPa; omega)).trans ((q83f 1 11 (by unfold kEm; omega)).trans (q72o.trans (by rw [← hw57]; exact (e_up_ne _ _ (Or.inr (by omega))).trans ((q50f 1 11 (by unfold kEm; omega)).trans ((q44f 1 11 (by unfold kEm; omega)).trans ((q37f 1 11 (by unfold kEm; omega)).trans ((q31f 1 11 (by unfold kEm; omega)).trans ((q23f 1 11 (by unfold kRk; omega)).trans ((q14f 1 11 (by unfold kRa; omega)).trans q4b)))))))))))))) (by omega) ?_
          refine e_Ok.run (t' := (190, [(1, (0, z32)), (0, (1, 1))], [(0, 1), (0, o + 1), (1, 1)], w270)) 1 rfl ?_
          refine e_Ok.sub' (z := o) rfl (by omega) (by omega) ?_
          refine e_Ok.putf rfl (el_o rfl) rfl rfl ?_
          generalize hw280 : e_up w270 1 11 o = w280
          have f281 : e_fr (kRt cd) w w280 := e_fr.up f273 hw280 (by unfold kRt; omega)
          have hT282 : e_Has kTy w280 := e_Has.ups q272T hw280 rfl
          have hH283 : e_Has kRy w280 := e_Has.upr q272H hw280 rfl (by omega)
          have t284 : tkR w280 := q272k.eq (fun k g => by rw [← hw280]; exact e_up_ne _ _ (by omega))
          have g285 : e_fr (fun c k => c = 1 ∧ 11 ≤ k ∧ k ≤ 13) w270 w280 := fun c k g => by have g2 : ¬ (c = 1 ∧ 11 ≤ k ∧ k ≤ 13) := g; rw [← hw280]; exact e_up_ne _ _ (by omega)
          have s286 : gS w270 w280 cd 0 0 0 0 0 := gS.wr hcd ((e_Has.get q272T (c := cd) (k := 0) (lo := 0) (hi := 4000) (kD_0 hcd) (by decide)).1) (by omega) g285
          have x287 : gS w w280 cd (-2) 1 0 0 0 := gS.trans x275 s286 (by omega)
          have p288 := zpl.step p276 s286
          have p289 := zpl.step p277 s286
          have p290 := zpl.step p278 s286
          have p291 := lpK.step p279 s286
          refine e_Ok.rets rfl rfl ?_
          exact ⟨rfl, f281, ⟨hT282, hH283, (by rw [← hw280]; exact (e_up_ne _ _ (Or.inr (by omega))).trans ((q272f 1 3 (by unfold kRk; omega)).trans ((q261f 1 3 (by unfold kPa; omega)).trans (by rw [← hw245]; exact (e_up_ne _ _ (Or.inr (by omega))).trans ((q235f 1 3 (by unfold kRt; omega)).trans ((q223f 1 3 (by unfold kPa; omega)).trans ((q83f 1 3 (by unfold kEm; omega)).trans ((q72f 1 3 (by unfold kRt; omega)).trans (by rw [← hw57]; exact (e_up_ne _ _ (Or.inr (by omega))).trans ((q50f 1 3 (by unfold kEm; omega)).trans ((q44f 1 3 (by unfold kEm; omega)).trans ((q37f 1 3 (by unfold kEm; omega)).trans ((q31f 1 3 (by unfold kEm; omega)).trans ((q23f 1 3 (by unfold kRk; omega)).trans ((q14f 1 3 (by unfold kRa; omega)).trans ((q4g 1 3 (by unfold kRO; omega)).trans hc)))))))))))))))), hcd, t284⟩, ⟨(by have g1 : w280 1 11 = o := (by rw [← hw280]; exact e_up_eq _ _ _ _); have g0 : w 1 11 = o := ho; omega), (by have g1 : w280 1 12 = t := (by rw [← hw280]; exact (e_up_ne _ _ (Or.inr (by omega))).trans ((q272f 1 12 (by unfold kRk; omega)).trans ((q261f 1 12 (by unfold kPa; omega)).trans (by rw [← hw245]; exact e_up_eq _ _ _ _)))); have g0 : w 1 12 = t := ht; omega), (by have g1 : w280 1 13 = lp := (by rw [← hw280]; exact (e_up_ne _ _ (Or.inr (by omega))).trans ((q272f 1 13 (by unfold kRk; omega)).trans ((q261f 1 13 (by unfold kPa; omega)).trans (by rw [← hw245]; exact (e_up_ne _ _ (Or.inr (by omega))).trans (q235l.trans ((q223f 1 13 (by unfold kPa; omega)).trans ((q83f 1 13 (by unfold kEm; omega)).trans (q72l.trans (by rw [← hw57]; exact (e_up_ne _ _ (Or.inr (by omega))).trans ((q50f 1 13 (by unfold kEm; omega)).trans ((q44f 1 13 (by unfold kEm; omega)).trans ((q37f 1 13 (by unfold kEm; omega)).trans ((q31f 1 13 (by unfold kEm; omega)).trans ((q23f 1 13 (by unfold kRk; omega)).trans ((q14f 1 13 (by unfold kRa; omega)).trans ((q4g 1 13 (by unfold kRO; omega)).trans hlp)))))))))))))))); have g0 : w 1 13 = lp := hlp; omega)⟩, x287.le (by omega)⟩
        · replace h244 : (w232 1 5 : Int) = 44 := by have q : ¬ ((w232 1 5 : Int) ≠ 44) := h244; omega
          refine e_Ok.run (t' := (129, [(1, (0, z32)), (0, (1, 1))], [(1, 1)], w232)) 1 rfl ?_
          refine e_Ok.getr (z := cd) rfl (el_o rfl) rfl rfl ((q235f 1 3 (by unfold kRt; omega)).trans ((q223f 1 3 (by unfold kPa; omega)).trans ((q83f 1 3 (by unfold kEm; omega)).trans ((q72f 1 3 (by unfold kRt; omega)).trans (by rw [← hw57]; exact (e_up_ne _ _ (Or.inr (by omega))).trans ((q50f 1 3 (by unfold kEm; omega)).trans ((q44f 1 3 (by unfold kEm; omega)).trans ((q37f 1 3 (by unfold kEm; omega)).trans ((q31f 1 3 (by unfold kEm; omega)).trans ((q23f 1 3 (by unfold kRk; omega)).trans ((q14f 1 3 (by unfold kRa; omega)).trans ((q4g 1 3 (by unfold kRO; omega)).trans hc)))))))))))) (by omega) ?_
          refine e_Ok.run (t' := (134, [(1, (0, z32)), (0, (1, 1))], [(0, 2), (0, z32), (1, cd)], w232)) 2 rfl ?_
          refine e_Ok.add (z := z32 + 2) rfl (by omega) (by omega) ?_
          refine e_Ok.run (t' := (136, [(1, (0, z32)), (0, (1, 1))], [(1, 1), (0, z32 + 2), (1, cd)], w232)) 1 rfl ?_
          refine e_Ok.getr (z := cd) rfl (el_o rfl) rfl rfl ((q235f 1 3 (by unfold kRt; omega)).trans ((q223f 1 3 (by unfold kPa; omega)).trans ((q83f 1 3 (by unfold kEm; omega)).trans ((q72f 1 3 (by unfold kRt; omega)).trans (by rw [← hw57]; exact (e_up_ne _ _ (Or.inr (by omega))).trans ((q50f 1 3 (by unfold kEm; omega)).trans ((q44f 1 3 (by unfold kEm; omega)).trans ((q37f 1 3 (by unfold kEm; omega)).trans ((q31f 1 3 (by unfold kEm; omega)).trans ((q23f 1 3 (by unfold kRk; omega)).trans ((q14f 1 3 (by unfold kRa; omega)).trans ((q4g 1 3 (by unfold kRO; omega)).trans hc)))))))))))) (by omega) ?_
          have h292 := (e_Has.get q235T (c := cd) (k := 0) (lo := 0) (hi := 4000) (kD_0 hcd) (by decide))
          refine e_Ok.getf (z := w232 cd 0) rfl (lD0 hcd) rfl rfl rfl (by omega) ?_
          refine e_Ok.callV rfl (by omega) rfl (lD0 hcd) rfl rfl (c_22 q235T hcd (by omega) (by have g := e_Has.get q235T (c := cd) (k := 0) (lo := 0) (hi := 4000) (kD_0 hcd) (by decide); omega)) (fun r293 w294 h295 => ?_)
          obtain ⟨rfl, q296f, q296T, q296x⟩ := h295
          have q296H : e_Has kRy w294 := H_fr q296f (fun c k g => by unfold kPa at g; omega) q235H
          have q296k : tkR w294 := q235k.fr q296f (fun k g => by unfold kPa; omega)
          have f297 : e_fr (kRt cd) w w294 := e_fr.trans f236 (e_fr.mono q296f (fun c k q => by unfold kPa at q; unfold kRt; omega))
          have s298 : gS w232 w294 cd 0 0 0 0 0 := gS.pat hcd ((e_Has.get q235T (c := cd) (k := 0) (lo := 0) (hi := 4000) (kD_0 hcd) (by decide)).1) q296f q296x (show w232 cd 0 = w232 cd 0 from Eq.symm rfl) p240 (by omega)
          have x299 : gS w w294 cd 1 1 0 0 0 := gS.trans x238 s298 (by omega)
          have p300 := zpl.step p239 s298
          have p301 := zpl.step p240 s298
          have p302 := zpl.step p241 s298
          have p303 := lpK.step p242 s298
          show e_Ok 20 elay kcode eI (d + 1) 156 (145, [(1, (0, z32)), (0, (1, 1))], [], w294) _
          refine e_Ok.run (t' := (148, [(1, (0, z32)), (0, (1, 1))], [(0, 48), (1, 1)], w294)) 2 rfl ?_
          have k307 : w294 1 5 = w232 1 5 := ((q296f 1 5 (by unfold kPa; omega)).trans rfl)
          refine e_Ok.callV rfl (by omega) rfl rfl rfl rfl (c_157 (by omega) (o := o + 1) (t := t + 1) (lp := lp) ⟨q296T, q296H, ((q296f 1 3 (by unfold kPa; omega)).trans ((q235f 1 3 (by unfold kRt; omega)).trans ((q223f 1 3 (by unfold kPa; omega)).trans ((q83f 1 3 (by unfold kEm; omega)).trans ((q72f 1 3 (by unfold kRt; omega)).trans (by rw [← hw57]; exact (e_up_ne _ _ (Or.inr (by omega))).trans ((q50f 1 3 (by unfold kEm; omega)).trans ((q44f 1 3 (by unfold kEm; omega)).trans ((q37f 1 3 (by unfold kEm; omega)).trans ((q31f 1 3 (by unfold kEm; omega)).trans ((q23f 1 3 (by unfold kRk; omega)).trans ((q14f 1 3 (by unfold kRa; omega)).trans ((q4g 1 3 (by unfold kRO; omega)).trans hc))))))))))))), hcd, q296k⟩ ((q296f 1 11 (by unfold kPa; omega)).trans (q235o.trans ((q223f 1 11 (by unfold kPa; omega)).trans ((q83f 1 11 (by unfold kEm; omega)).trans (q72o.trans (by rw [← hw57]; exact (e_up_ne _ _ (Or.inr (by omega))).trans ((q50f 1 11 (by unfold kEm; omega)).trans ((q44f 1 11 (by unfold kEm; omega)).trans ((q37f 1 11 (by unfold kEm; omega)).trans ((q31f 1 11 (by unfold kEm; omega)).trans ((q23f 1 11 (by unfold kRk; omega)).trans ((q14f 1 11 (by unfold kRa; omega)).trans q4b)))))))))))) (by omega) ((q296f 1 12 (by unfold kPa; omega)).trans (q235t.trans ((q223f 1 12 (by unfold kPa; omega)).trans ((q83f 1 12 (by unfold kEm; omega)).trans (q72t.trans (by rw [← hw57]; exact e_up_eq _ _ _ _)))))) (by omega) ((q296f 1 13 (by unfold kPa; omega)).trans (q235l.trans ((q223f 1 13 (by unfold kPa; omega)).trans ((q83f 1 13 (by unfold kEm; omega)).trans (q72l.trans (by rw [← hw57]; exact (e_up_ne _ _ (Or.inr (by omega))).trans ((q50f 1 13 (by unfold kEm; omega)).trans ((q44f 1 13 (by unfold kEm; omega)).trans ((q37f 1 13 (by unfold kEm; omega)).trans ((q31f 1 13 (by unfold kEm; omega)).trans ((q23f 1 13 (by unfold kRk; omega)).trans ((q14f 1 13 (by unfold kRa; omega)).trans ((q4g 1 13 (by unfold kRO; omega)).trans hlp))))))))))))) p303 (by omega) (by omega) (fun k e => hB (by omega) k (by omega))) (fun r304 w305 h306 => ?_)
          obtain ⟨rfl, q308f, ⟨q308T, q308H, q308c, -, q308k⟩, ⟨q308o, q308t, q308l⟩, q308x⟩ := h306
          have f309 : e_fr (kRt cd) w w305 := e_fr.trans f297 (e_fr.mono q308f (fun c k q => by exact q))
          have s310 : gS w294 w305 cd 0 0 0 0 0 := q308x
          have x311 : gS w w305 cd 1 1 0 0 0 := gS.trans x299 s310 (by omega)
          have p312 := zpl.step p300 s310
          have p313 := zpl.step p301 s310
          have p314 := zpl.step p302 s310
          have p315 := lpK.step p303 s310
          show e_Ok 20 elay kcode eI (d + 1) 156 (151, [(1, (0, z32)), (0, (1, 1))], [], w305) _
          refine e_Ok.run (t' := (153, [(1, (0, z32)), (0, (1, 1))], [(1, 1), (1, 1)], w305)) 2 rfl ?_
          refine e_Ok.getf (z := t + 1) rfl (el_o rfl) rfl rfl (q308t.trans ((q296f 1 12 (by unfold kPa; omega)).trans (q235t.trans ((q223f 1 12 (by unfold kPa; omega)).trans ((q83f 1 12 (by unfold kEm; omega)).trans (q72t.trans (by rw [← hw57]; exact e_up_eq _ _ _ _))))))) (by omega) ?_
          refine e_Ok.run (t' := (157, [(1, (0, z32)), (0, (1, 1))], [(0, 1), (0, t + 1), (1, 1)], w305)) 1 rfl ?_
          refine e_Ok.sub' (z := t) rfl (by omega) (by omega) ?_
          refine e_Ok.putf rfl (el_o rfl) rfl rfl ?_
          generalize hw316 : e_up w305 1 12 t = w316
          have f317 : e_fr (kRt cd) w w316 := e_fr.up f309 hw316 (by unfold kRt; omega)
          have hT318 : e_Has kTy w316 := e_Has.ups q308T hw316 rfl
          have hH319 : e_Has kRy w316 := e_Has.upr q308H hw316 rfl (by omega)
          have t320 : tkR w316 := q308k.eq (fun k g => by rw [← hw316]; exact e_up_ne _ _ (by omega))
          have g321 : e_fr (fun c k => c = 1 ∧ 11 ≤ k ∧ k ≤ 13) w305 w316 := fun c k g => by have g2 : ¬ (c = 1 ∧ 11 ≤ k ∧ k ≤ 13) := g; rw [← hw316]; exact e_up_ne _ _ (by omega)
          have s322 : gS w305 w316 cd 0 0 0 0 0 := gS.wr hcd ((e_Has.get q308T (c := cd) (k := 0) (lo := 0) (hi := 4000) (kD_0 hcd) (by decide)).1) (by omega) g321
          have x323 : gS w w316 cd 1 1 0 0 0 := gS.trans x311 s322 (by omega)
          have p324 := zpl.step p312 s322
          have p325 := zpl.step p313 s322
          have p326 := zpl.step p314 s322
          have p327 := lpK.step p315 s322
          refine e_Ok.run (t' := (162, [(1, (0, z32)), (0, (1, 1))], [(1, 1)], w316)) 1 rfl ?_
          refine e_Ok.getr (z := cd) rfl (el_o rfl) rfl rfl (by rw [← hw316]; exact (e_up_ne _ _ (Or.inr (by omega))).trans ((q308f 1 3 (by unfold kRt; omega)).trans ((q296f 1 3 (by unfold kPa; omega)).trans ((q235f 1 3 (by unfold kRt; omega)).trans ((q223f 1 3 (by unfold kPa; omega)).trans ((q83f 1 3 (by unfold kEm; omega)).trans ((q72f 1 3 (by unfold kRt; omega)).trans (by rw [← hw57]; exact (e_up_ne _ _ (Or.inr (by omega))).trans ((q50f 1 3 (by unfold kEm; omega)).trans ((q44f 1 3 (by unfold kEm; omega)).trans ((q37f 1 3 (by unfold kEm; omega)).trans ((q31f 1 3 (by unfold kEm; omega)).trans ((q23f 1 3 (by unfold kRk; omega)).trans ((q14f 1 3 (by unfold kRa; omega)).trans ((q4g 1 3 (by unfold kRO; omega)).trans hc))))))))))))))) (by omega) ?_
          refine e_Ok.run (t' := (167, [(1, (0, z32)), (0, (1, 1))], [(0, 3), (0, z32), (1, cd)], w316)) 2 rfl ?_
          refine e_Ok.add (z := z32 + 3) rfl (by omega) (by omega) ?_
          refine e_Ok.run (t' := (169, [(1, (0, z32)), (0, (1, 1))], [(1, 1), (0, z32 + 3), (1, cd)], w316)) 1 rfl ?_
          refine e_Ok.getr (z := cd) rfl (el_o rfl) rfl rfl (by rw [← hw316]; exact (e_up_ne _ _ (Or.inr (by omega))).trans ((q308f 1 3 (by unfold kRt; omega)).trans ((q296f 1 3 (by unfold kPa; omega)).trans ((q235f 1 3 (by unfold kRt; omega)).trans ((q223f 1 3 (by unfold kPa; omega)).trans ((q83f 1 3 (by unfold kEm; omega)).trans ((q72f 1 3 (by unfold kRt; omega)).trans (by rw [← hw57]; exact (e_up_ne _ _ (Or.inr (by omega))).trans ((q50f 1 3 (by unfold kEm; omega)).trans ((q44f 1 3 (by unfold kEm; omega)).trans ((q37f 1 3 (by unfold kEm; omega)).trans ((q31f 1 3 (by unfold kEm; omega)).trans ((q23f 1 3 (by unfold kRk; omega)).trans ((q14f 1 3 (by unfold kRa; omega)).trans ((q4g 1 3 (by unfold kRO; omega)).trans hc))))))))))))))) (by omega) ?_
          have h329 := (e_Has.get q308T (c := cd) (k := 0) (lo := 0) (hi := 4000) (kD_0 hcd) (by decide))
          refine e_Ok.getf (z := w305 cd 0) rfl (lD0 hcd) rfl rfl (by rw [← hw316]; exact (e_up_ne _ _ (Or.inr (by omega))).trans rfl) (by omega) ?_
          refine e_Ok.callV rfl (by omega) rfl (lD0 hcd) rfl rfl (c_22 hT318 hcd (by omega) (by have g := e_Has.get hT318 (c := cd) (k := 0) (lo := 0) (hi := 4000) (kD_0 hcd) (by decide); omega)) (fun r331 w332 h333 => ?_)
          obtain ⟨rfl, q334f, q334T, q334x⟩ := h333
          have q334H : e_Has kRy w332 := H_fr q334f (fun c k g => by unfold kPa at g; omega) hH319
          have q334k : tkR w332 := t320.fr q334f (fun k g => by unfold kPa; omega)
          have f335 : e_fr (kRt cd) w w332 := e_fr.trans f317 (e_fr.mono q334f (fun c k q => by unfold kPa at q; unfold kRt; omega))
          have s336 : gS w316 w332 cd 0 0 0 0 0 := gS.pat hcd ((e_Has.get hT318 (c := cd) (k := 0) (lo := 0) (hi := 4000) (kD_0 hcd) (by decide)).1) q334f q334x (show w305 cd 0 = w316 cd 0 from Eq.symm (by rw [← hw316]; exact (e_up_ne _ _ (Or.inr (by omega))).trans rfl)) p326 (by omega)
          have x337 : gS w w332 cd 1 1 0 0 0 := gS.trans x323 s336 (by omega)
          have p339 := zpl.step p324 s336
          have p340 := zpl.step p325 s336
          have p341 := zpl.step p326 s336
          have p342 := lpK.step p327 s336
          show e_Ok 20 elay kcode eI (d + 1) 156 (178, [(1, (0, z32)), (0, (1, 1))], [], w332) _
          refine e_Ok.run (t' := (181, [(1, (0, z32)), (0, (1, 1))], [(0, 23), (1, 1)], w332)) 2 rfl ?_
          refine e_Ok.callV rfl (by omega) rfl rfl rfl rfl (c_129 (by omega) q334T q334H q334k (by omega)) (fun r343 w344 h345 => ?_)
          obtain ⟨rfl, q346f, q346T, q346H, q346k, q346x⟩ := h345
          have f347 : e_fr (kRt cd) w w344 := e_fr.trans f335 (e_fr.mono q346f (fun c k q => by unfold kRk at q; unfold kRt; omega))
          have s348 : gS w332 w344 cd (-3) 0 0 0 0 := gS.acc hcd ((e_Has.get q334T (c := cd) (k := 0) (lo := 0) (hi := 4000) (kD_0 hcd) (by decide)).1) (by omega) q346f q346x (fun g => q334k.a3 (by omega))
          have x349 : gS w w344 cd (-2) 1 0 0 0 := gS.trans x337 s348 (by omega)
          have p350 := zpl.step p339 s348
          have p351 := zpl.step p340 s348
          have p352 := zpl.step p341 s348
          have p353 := lpK.step p342 s348
          show e_Ok 20 elay kcode eI (d + 1) 156 (184, [(1, (0, z32)), (0, (1, 1))], [], w344) _
          refine e_Ok.run (t' := (186, [(1, (0, z32)), (0, (1, 1))], [(1, 1), (1, 1)], w344)) 2 rfl ?_
          refine e_Ok.getf (z := o + 1) rfl (el_o rfl) rfl rfl ((q346f 1 11 (by unfold kRk; omega)).trans ((q334f 1 11 (by unfold kPa; omega)).trans (by rw [← hw316]; exact (e_up_ne _ _ (Or.inr (by omega))).trans (q308o.trans ((q296f 1 11 (by unfold kPa; omega)).trans (q235o.trans ((q223f 1 11 (by unfold kPa; omega)).trans ((q83f 1 11 (by unfold kEm; omega)).trans (q72o.trans (by rw [← hw57]; exact (e_up_ne _ _ (Or.inr (by omega))).trans ((q50f 1 11 (by unfold kEm; omega)).trans ((q44f 1 11 (by unfold kEm; omega)).trans ((q37f 1 11 (by unfold kEm; omega)).trans ((q31f 1 11 (by unfold kEm; omega)).trans ((q23f 1 11 (by unfold kRk; omega)).trans ((q14f 1 11 (by unfold kRa; omega)).trans q4b)))))))))))))))) (by omega) ?_
          refine e_Ok.run (t' := (190, [(1, (0, z32)), (0, (1, 1))], [(0, 1), (0, o + 1), (1, 1)], w344)) 1 rfl ?_
          refine e_Ok.sub' (z := o) rfl (by omega) (by omega) ?_
          refine e_Ok.putf rfl (el_o rfl) rfl rfl ?_
          generalize hw354 : e_up w344 1 11 o = w354
          have f355 : e_fr (kRt cd) w w354 := e_fr.up f347 hw354 (by unfold kRt; omega)
          have hT356 : e_Has kTy w354 := e_Has.ups q346T hw354 rfl
          have hH357 : e_Has kRy w354 := e_Has.upr q346H hw354 rfl (by omega)
          have t358 : tkR w354 := q346k.eq (fun k g => by rw [← hw354]; exact e_up_ne _ _ (by omega))
          have g359 : e_fr (fun c k => c = 1 ∧ 11 ≤ k ∧ k ≤ 13) w344 w354 := fun c k g => by have g2 : ¬ (c = 1 ∧ 11 ≤ k ∧ k ≤ 13) := g; rw [← hw354]; exact e_up_ne _ _ (by omega)
          have s360 : gS w344 w354 cd 0 0 0 0 0 := gS.wr hcd ((e_Has.get q346T (c := cd) (k := 0) (lo := 0) (hi := 4000) (kD_0 hcd) (by decide)).1) (by omega) g359
          have x361 : gS w w354 cd (-2) 1 0 0 0 := gS.trans x349 s360 (by omega)
          have p362 := zpl.step p350 s360
          have p363 := zpl.step p351 s360
          have p364 := zpl.step p352 s360
          have p365 := lpK.step p353 s360
          refine e_Ok.rets rfl rfl ?_
          exact ⟨rfl, f355, ⟨hT356, hH357, (by rw [← hw354]; exact (e_up_ne _ _ (Or.inr (by omega))).trans ((q346f 1 3 (by unfold kRk; omega)).trans ((q334f 1 3 (by unfold kPa; omega)).trans (by rw [← hw316]; exact (e_up_ne _ _ (Or.inr (by omega))).trans ((q308f 1 3 (by unfold kRt; omega)).trans ((q296f 1 3 (by unfold kPa; omega)).trans ((q235f 1 3 (by unfold kRt; omega)).trans ((q223f 1 3 (by unfold kPa; omega)).trans ((q83f 1 3 (by unfold kEm; omega)).trans ((q72f 1 3 (by unfold kRt; omega)).trans (by rw [← hw57]; exact (e_up_ne _ _ (Or.inr (by omega))).trans ((q50f 1 3 (by unfold kEm; omega)).trans ((q44f 1 3 (by unfold kEm; omega)).trans ((q37f 1 3 (by unfold kEm; omega)).trans ((q31f 1 3 (by unfold kEm; omega)).trans ((q23f 1 3 (by unfold kRk; omega)).trans ((q14f 1 3 (by unfold kRa; omega)).trans ((q4g 1 3 (by unfold kRO; omega)).trans hc)))))))))))))))))), hcd, t358⟩, ⟨(by have g1 : w354 1 11 = o := (by rw [← hw354]; exact e_up_eq _ _ _ _); have g0 : w 1 11 = o := ho; omega), (by have g1 : w354 1 12 = t := (by rw [← hw354]; exact (e_up_ne _ _ (Or.inr (by omega))).trans ((q346f 1 12 (by unfold kRk; omega)).trans ((q334f 1 12 (by unfold kPa; omega)).trans (by rw [← hw316]; exact e_up_eq _ _ _ _)))); have g0 : w 1 12 = t := ht; omega), (by have g1 : w354 1 13 = lp := (by rw [← hw354]; exact (e_up_ne _ _ (Or.inr (by omega))).trans ((q346f 1 13 (by unfold kRk; omega)).trans ((q334f 1 13 (by unfold kPa; omega)).trans (by rw [← hw316]; exact (e_up_ne _ _ (Or.inr (by omega))).trans (q308l.trans ((q296f 1 13 (by unfold kPa; omega)).trans (q235l.trans ((q223f 1 13 (by unfold kPa; omega)).trans ((q83f 1 13 (by unfold kEm; omega)).trans (q72l.trans (by rw [← hw57]; exact (e_up_ne _ _ (Or.inr (by omega))).trans ((q50f 1 13 (by unfold kEm; omega)).trans ((q44f 1 13 (by unfold kEm; omega)).trans ((q37f 1 13 (by unfold kEm; omega)).trans ((q31f 1 13 (by unfold kEm; omega)).trans ((q23f 1 13 (by unfold kRk; omega)).trans ((q14f 1 13 (by unfold kRa; omega)).trans ((q4g 1 13 (by unfold kRO; omega)).trans hlp)))))))))))))))))); have g0 : w 1 13 = lp := hlp; omega)⟩, x361.le (by omega)⟩
    · replace h10 : (1 : Int) = 0 := by have q : ¬ ((1 : Int) ≠ 0) := h10; omega
      exfalso; omega
  · show e_Ok 20 elay kcode eI (d + 1) 156 (4, [(0, (1, 1))], [(0, 0)], w2) _
    have f366 : e_fr (kRt cd) w w2 := e_fr.trans (e_fr.refl w) (e_fr.mono q4d (fun c k q => by unfold kRk at q; unfold kRt; omega))
    have q4n := q4a
    have s367 : gS w w2 cd 0 1 0 1 0 := gS.dead q4n
    have x368 : gS w w2 cd 0 1 0 1 0 := gS.trans x0 s367 (by omega)
    have p369 := lpK.step hlk s367
    refine e_Ok.if1 rfl (fun h370 => ?_) (fun h370 => ?_)
    · replace h370 : (0 : Int) ≠ 0 := h370
      exfalso; omega
    · replace h370 : (0 : Int) = 0 := by have q : ¬ ((0 : Int) ≠ 0) := h370; omega
      refine e_Ok.rets rfl rfl ?_
      exact ⟨rfl, f366, ⟨q4T, q4H, ((q4d 1 3 (by unfold kRk; omega)).trans hc), hcd, q4k⟩, ⟨(by have g1 : w2 1 11 = o := ((q4d 1 11 (by unfold kRk; omega)).trans ho); have g0 : w 1 11 = o := ho; omega), (by have g1 : w2 1 12 = t := ((q4d 1 12 (by unfold kRk; omega)).trans ht); have g0 : w 1 12 = t := ht; omega), (by have g1 : w2 1 13 = lp := ((q4d 1 13 (by unfold kRk; omega)).trans hlp); have g0 : w 1 13 = lp := hlp; omega)⟩, gS.dead q4n⟩
set_option maxHeartbeats 4000000 in
theorem c_145 {d : Nat} (hd : 283 ≤ d) {w : eW} {cd o : Int} (hS : rS w cd) (ho : w 1 11 = o) (hor : 0 ≤ o ∧ o ≤ 30) {t lp : Int} (ht : w 1 12 = t) (htr : 0 ≤ t ∧ t ≤ o) (hlp : w 1 13 = lp) (hlk : lpK w cd lp) (h5 : isK (w 1 5)) (hc1 : ∀ k, d = k + 1 → zgC 154 o (-1) 1 (fun k => k = 39) k) (hc2 : ∀ k, d = k + 1 → zgC 155 o 0 0 (fun k => k = 41) k) (hc3 : ∀ k, d = k + 1 → zgC 156 o (-1) 1 (fun k => k = 42) k) : e_Ok 20 elay kcode eI d 145 (0, [(0, (1, 1))], [], w) (fun r w' => r = [] ∧ gQ w w' cd 0 0 0) := by
  obtain ⟨d, rfl⟩ : ∃ e, d = e + 1 := ⟨d - 1, by omega⟩
  obtain ⟨hT, hH, hc, hcd, hk⟩ := hS
  have hcd2 := hcd; unfold isCd at hcd2
  have hcd3 : 2 ≤ cd ∧ cd ≤ 145 := by omega
  have pL := e_Has.get hT (c := cd) (k := 0) (lo := 0) (hi := 4000) (kD_0 hcd) (by decide)
  have p1 := e_Has.get hH (c := 1) (k := 1) (lo := (-2147483648)) (hi := 2147483647) rfl (by decide)
  have p5 := e_Has.get hH (c := 1) (k := 5) (lo := 0) (hi := 53) rfl (by decide)
  have p6 := e_Has.get hH (c := 1) (k := 6) (lo := 0) (hi := 4000) rfl (by decide)
  have p9 := e_Has.get hH (c := 1) (k := 9) (lo := (-2147483648)) (hi := 2147483647) rfl (by decide)
  have p7 := e_Has.get hH (c := 1) (k := 7) (lo := 0) (hi := 4000) rfl (by decide)
  have p12 := e_Has.get hH (c := 1) (k := 12) (lo := 0) (hi := 30) rfl (by decide)
  have p13 := e_Has.get hH (c := 1) (k := 13) (lo := (-1)) (hi := 4000) rfl (by decide)
  have x0 : gS w w cd 0 0 0 0 0 := gS.refl pL.1
  unfold isK at h5
  refine e_Ok.run (t' := (1, [(0, (1, 1))], [(1, 1)], w)) 1 rfl ?_
  refine e_Ok.getf (z := w 1 5) rfl (el_o rfl) rfl rfl rfl (by omega) ?_
  refine e_Ok.run (t' := (6, [(0, (1, 1))], [(0, 41), (0, w 1 5)], w)) 1 rfl ?_
  refine e_Ok.if2 rfl (fun h1 => ?_) (fun h1 => ?_)
  · replace h1 : (w 1 5 : Int) = 41 := h1
    refine e_Ok.run (t' := (21, [(0, (1, 1))], [(1, 1)], w)) 1 rfl ?_
    refine e_Ok.getf (z := w 1 5) rfl (el_o rfl) rfl rfl rfl (by omega) ?_
    have hs3 : ∀ x : Int, 41 ≤ x ∧ x ≤ 41 → (x = 41) := fun x h => by omega
    obtain h2 := hs3 (w 1 5) (by omega)
    · refine e_Ok.swk (tg := 345) rfl (by rw [h2]; rfl) ?_
      refine e_Ok.run (t' := (346, [(0, (1, 1))], [(1, 1)], w)) 1 rfl ?_
      have k7 : w 1 5 = w 1 5 := rfl
      refine e_Ok.callV rfl (by omega) rfl rfl rfl rfl (hc2 d rfl w cd t lp ⟨hT, hH, hc, hcd, hk⟩ ho ht (by omega) hlp hlk (show w 1 5 = 41 from by omega)) (fun r4 w5 h6 => ?_)
      obtain ⟨rfl, q8f, ⟨q8T, q8H, q8c, -, q8k⟩, ⟨q8o, q8t, q8l⟩, q8x⟩ := h6
      have f9 : e_fr (kRt cd) w w5 := e_fr.trans (e_fr.refl w) (e_fr.mono q8f (fun c k q => by exact q))
      have s10 : gS w w5 cd 0 0 0 0 0 := q8x
      have x11 : gS w w5 cd 0 0 0 0 0 := gS.trans x0 s10 (by omega)
      have p12 := lpK.step hlk s10
      show e_Ok 20 elay kcode eI (d + 1) 145 (349, [(0, (1, 1))], [], w5) _
      refine e_Ok.run (t' := (356, [(0, (1, 1))], [], w5)) 1 rfl ?_
      refine e_Ok.rets rfl rfl ?_
      exact ⟨rfl, f9, ⟨q8T, q8H, ((q8f 1 3 (by unfold kRt; omega)).trans hc), hcd, q8k⟩, ⟨(by have g1 : w5 1 11 = o := (q8o.trans ho); have g0 : w 1 11 = o := ho; omega), (by have g1 : w5 1 12 = t := (q8t.trans ht); have g0 : w 1 12 = t := ht; omega), (by have g1 : w5 1 13 = lp := (q8l.trans hlp); have g0 : w 1 13 = lp := hlp; omega)⟩, x11.le (by omega)⟩
  · replace h1 : (w 1 5 : Int) ≠ 41 := by have q : ¬ ((w 1 5 : Int) = 41) := h1; omega
    refine e_Ok.run (t' := (10, [(0, (1, 1))], [(1, 1)], w)) 1 rfl ?_
    refine e_Ok.getr (z := cd) rfl (el_o rfl) rfl rfl hc (by omega) ?_
    refine e_Ok.run (t' := (16, [(0, (1, 1))], [(0, 0), (0, 50), (1, cd)], w)) 2 rfl ?_
    refine e_Ok.callV rfl (by omega) rfl (lD0 hcd) rfl rfl (c_21 hT hcd (by omega) (by omega)) (fun r13 w14 h15 => ?_)
    obtain ⟨z17, rfl, q16f, q16T, q16x⟩ := h15
    have q16H : e_Has kRy w14 := H_fr q16f (fun c k g => by unfold kEm at g; omega) hH
    have q16k : tkR w14 := (hk.fr q16f (fun k g => by unfold kEm; omega))
    have q16z : 0 ≤ z17 ∧ z17 ≤ 4000 := by have g := e_Has.get hT (c := cd) (k := 0) (lo := 0) (hi := 4000) (kD_0 hcd) (by decide); unfold emQ at q16x; omega
    have f18 : e_fr (kRt cd) w w14 := e_fr.trans (e_fr.refl w) (e_fr.mono q16f (fun c k q => by unfold kEm at q; unfold kRt; omega))
    have s19 : gS w w14 cd 1 0 0 1 0 := gS.beg hcd ((e_Has.get hT (c := cd) (k := 0) (lo := 0) (hi := 4000) (kD_0 hcd) (by decide)).1) q16f q16x
    have x20 : gS w w14 cd 1 0 0 1 0 := gS.trans x0 s19 (by omega)
    have p21 := lpK.step hlk s19
    have p22 : zpl w14 cd z17 50 := zpl.em hcd ((e_Has.get hT (c := cd) (k := 0) (lo := 0) (hi := 4000) (kD_0 hcd) (by decide)).1) q16f q16x (by omega)
    show e_Ok 20 elay kcode eI (d + 1) 145 (19, [(0, (1, 1))], [(0, z17)], w14) _
    refine e_Ok.run (t' := (21, [(0, (1, 1))], [(1, 1)], w14)) 2 rfl ?_
    refine e_Ok.getf (z := w 1 5) rfl (el_o rfl) rfl rfl ((q16f 1 5 (by unfold kEm; omega)).trans rfl) (by omega) ?_
    have hs24 : ∀ x : Int, 1 ≤ x ∧ x ≤ 42 ∧ x ≠ 2 ∧ x ≠ 3 ∧ x ≠ 4 ∧ x ≠ 5 ∧ x ≠ 6 ∧ x ≠ 7 ∧ x ≠ 8 ∧ x ≠ 9 ∧ x ≠ 10 ∧ x ≠ 11 ∧ x ≠ 12 ∧ x ≠ 13 ∧ x ≠ 14 ∧ x ≠ 15 ∧ x ≠ 16 ∧ x ≠ 17 ∧ x ≠ 18 ∧ x ≠ 19 ∧ x ≠ 20 ∧ x ≠ 21 ∧ x ≠ 22 ∧ x ≠ 23 ∧ x ≠ 40 ∧ x ≠ 41 → (x = 1) ∨ (x = 24) ∨ (x = 25) ∨ (x = 26) ∨ (x = 27) ∨ (x = 28) ∨ (x = 29) ∨ (x = 30) ∨ (x = 31) ∨ (x = 32) ∨ (x = 33) ∨ (x = 34) ∨ (x = 35) ∨ (x = 36) ∨ (x = 37) ∨ (x = 38) ∨ (x = 39) ∨ (x = 42) := fun x h => by omega
    obtain h23 | h23 | h23 | h23 | h23 | h23 | h23 | h23 | h23 | h23 | h23 | h23 | h23 | h23 | h23 | h23 | h23 | h23 := hs24 (w 1 5) (by omega)
    · refine e_Ok.swk (tg := 204) rfl (by rw [h23]; rfl) ?_
      refine e_Ok.run (t' := (205, [(0, (1, 1))], [(1, 1)], w14)) 1 rfl ?_
      have k28 : w14 1 5 = w 1 5 := ((q16f 1 5 (by unfold kEm; omega)).trans rfl)
      refine e_Ok.callV rfl (by omega) rfl rfl rfl rfl (c_149 (by omega) (o := o) ⟨q16T, q16H, ((q16f 1 3 (by unfold kEm; omega)).trans hc), hcd, q16k⟩ ((q16f 1 11 (by unfold kEm; omega)).trans ho) (by omega) (by omega)) (fun r25 w26 h27 => ?_)
      obtain ⟨rfl, q29f, ⟨q29T, q29H, q29c, -, q29k⟩, ⟨q29o, q29t, q29l⟩, q29x⟩ := h27
      have f30 : e_fr (kRt cd) w w26 := e_fr.trans f18 (e_fr.mono q29f (fun c k q => by exact q))
      have s31 : gS w14 w26 cd (-1) 1 0 0 0 := q29x
      have x32 : gS w w26 cd 0 0 0 0 0 := gS.trans x20 s31 (by omega)
      have p33 := zpl.step p22 s31
      have p34 := lpK.step p21 s31
      show e_Ok 20 elay kcode eI (d + 1) 145 (208, [(0, (1, 1))], [], w26) _
      refine e_Ok.run (t' := (356, [(0, (1, 1))], [], w26)) 1 rfl ?_
      refine e_Ok.rets rfl rfl ?_
      exact ⟨rfl, f30, ⟨q29T, q29H, ((q29f 1 3 (by unfold kRt; omega)).trans ((q16f 1 3 (by unfold kEm; omega)).trans hc)), hcd, q29k⟩, ⟨(by have g1 : w26 1 11 = o := (q29o.trans ((q16f 1 11 (by unfold kEm; omega)).trans ho)); have g0 : w 1 11 = o := ho; omega), (by have g1 : w26 1 12 = t := (q29t.trans ((q16f 1 12 (by unfold kEm; omega)).trans ht)); have g0 : w 1 12 = t := ht; omega), (by have g1 : w26 1 13 = lp := (q29l.trans ((q16f 1 13 (by unfold kEm; omega)).trans hlp)); have g0 : w 1 13 = lp := hlp; omega)⟩, x32.le (by omega)⟩
    · refine e_Ok.swk (tg := 211) rfl (by rw [h23]; rfl) ?_
      refine e_Ok.run (t' := (212, [(0, (1, 1))], [(1, 1)], w14)) 1 rfl ?_
      have k38 : w14 1 5 = w 1 5 := ((q16f 1 5 (by unfold kEm; omega)).trans rfl)
      refine e_Ok.callV rfl (by omega) rfl rfl rfl rfl (c_150 (by omega) (o := o) ⟨q16T, q16H, ((q16f 1 3 (by unfold kEm; omega)).trans hc), hcd, q16k⟩ ((q16f 1 11 (by unfold kEm; omega)).trans ho) (by omega) (by omega)) (fun r35 w36 h37 => ?_)
      obtain ⟨rfl, q40f, ⟨q40T, q40H, q40c, -, q40k⟩, ⟨q40o, q40t, q40l⟩, q40x⟩ := h37
      have f41 : e_fr (kRt cd) w w36 := e_fr.trans f18 (e_fr.mono q40f (fun c k q => by exact q))
      have s42 : gS w14 w36 cd (-1) 1 0 0 0 := q40x
      have x43 : gS w w36 cd 0 0 0 0 0 := gS.trans x20 s42 (by omega)
      have p44 := zpl.step p22 s42
      have p45 := lpK.step p21 s42
      show e_Ok 20 elay kcode eI (d + 1) 145 (215, [(0, (1, 1))], [], w36) _
      refine e_Ok.run (t' := (356, [(0, (1, 1))], [], w36)) 1 rfl ?_
      refine e_Ok.rets rfl rfl ?_
      exact ⟨rfl, f41, ⟨q40T, q40H, ((q40f 1 3 (by unfold kRt; omega)).trans ((q16f 1 3 (by unfold kEm; omega)).trans hc)), hcd, q40k⟩, ⟨(by have g1 : w36 1 11 = o := (q40o.trans ((q16f 1 11 (by unfold kEm; omega)).trans ho)); have g0 : w 1 11 = o := ho; omega), (by have g1 : w36 1 12 = t := (q40t.trans ((q16f 1 12 (by unfold kEm; omega)).trans ht)); have g0 : w 1 12 = t := ht; omega), (by have g1 : w36 1 13 = lp := (q40l.trans ((q16f 1 13 (by unfold kEm; omega)).trans hlp)); have g0 : w 1 13 = lp := hlp; omega)⟩, x43.le (by omega)⟩
    · refine e_Ok.swk (tg := 218) rfl (by rw [h23]; rfl) ?_
      refine e_Ok.run (t' := (221, [(0, (1, 1))], [(0, 28), (1, 1)], w14)) 2 rfl ?_
      have k49 : w14 1 5 = w 1 5 := ((q16f 1 5 (by unfold kEm; omega)).trans rfl)
      refine e_Ok.callV rfl (by omega) rfl rfl rfl rfl (c_147 (by omega) (o := o) ⟨q16T, q16H, ((q16f 1 3 (by unfold kEm; omega)).trans hc), hcd, q16k⟩ ((q16f 1 11 (by unfold kEm; omega)).trans ho) (by omega) (by omega) (by omega)) (fun r46 w47 h48 => ?_)
      obtain ⟨rfl, q50f, ⟨q50T, q50H, q50c, -, q50k⟩, ⟨q50o, q50t, q50l⟩, q50x⟩ := h48
      have f51 : e_fr (kRt cd) w w47 := e_fr.trans f18 (e_fr.mono q50f (fun c k q => by exact q))
      have s52 : gS w14 w47 cd (-1) 1 0 0 0 := q50x
      have x53 : gS w w47 cd 0 0 0 0 0 := gS.trans x20 s52 (by omega)
      have p54 := zpl.step p22 s52
      have p55 := lpK.step p21 s52
      show e_Ok 20 elay kcode eI (d + 1) 145 (224, [(0, (1, 1))], [], w47) _
      refine e_Ok.run (t' := (356, [(0, (1, 1))], [], w47)) 1 rfl ?_
      refine e_Ok.rets rfl rfl ?_
      exact ⟨rfl, f51, ⟨q50T, q50H, ((q50f 1 3 (by unfold kRt; omega)).trans ((q16f 1 3 (by unfold kEm; omega)).trans hc)), hcd, q50k⟩, ⟨(by have g1 : w47 1 11 = o := (q50o.trans ((q16f 1 11 (by unfold kEm; omega)).trans ho)); have g0 : w 1 11 = o := ho; omega), (by have g1 : w47 1 12 = t := (q50t.trans ((q16f 1 12 (by unfold kEm; omega)).trans ht)); have g0 : w 1 12 = t := ht; omega), (by have g1 : w47 1 13 = lp := (q50l.trans ((q16f 1 13 (by unfold kEm; omega)).trans hlp)); have g0 : w 1 13 = lp := hlp; omega)⟩, x53.le (by omega)⟩
    · refine e_Ok.swk (tg := 227) rfl (by rw [h23]; rfl) ?_
      refine e_Ok.run (t' := (230, [(0, (1, 1))], [(0, 29), (1, 1)], w14)) 2 rfl ?_
      have k59 : w14 1 5 = w 1 5 := ((q16f 1 5 (by unfold kEm; omega)).trans rfl)
      refine e_Ok.callV rfl (by omega) rfl rfl rfl rfl (c_147 (by omega) (o := o) ⟨q16T, q16H, ((q16f 1 3 (by unfold kEm; omega)).trans hc), hcd, q16k⟩ ((q16f 1 11 (by unfold kEm; omega)).trans ho) (by omega) (by omega) (by omega)) (fun r56 w57 h58 => ?_)
      obtain ⟨rfl, q60f, ⟨q60T, q60H, q60c, -, q60k⟩, ⟨q60o, q60t, q60l⟩, q60x⟩ := h58
      have f61 : e_fr (kRt cd) w w57 := e_fr.trans f18 (e_fr.mono q60f (fun c k q => by exact q))
      have s62 : gS w14 w57 cd (-1) 1 0 0 0 := q60x
      have x63 : gS w w57 cd 0 0 0 0 0 := gS.trans x20 s62 (by omega)
      have p64 := zpl.step p22 s62
      have p65 := lpK.step p21 s62
      show e_Ok 20 elay kcode eI (d + 1) 145 (233, [(0, (1, 1))], [], w57) _
      refine e_Ok.run (t' := (356, [(0, (1, 1))], [], w57)) 1 rfl ?_
      refine e_Ok.rets rfl rfl ?_
      exact ⟨rfl, f61, ⟨q60T, q60H, ((q60f 1 3 (by unfold kRt; omega)).trans ((q16f 1 3 (by unfold kEm; omega)).trans hc)), hcd, q60k⟩, ⟨(by have g1 : w57 1 11 = o := (q60o.trans ((q16f 1 11 (by unfold kEm; omega)).trans ho)); have g0 : w 1 11 = o := ho; omega), (by have g1 : w57 1 12 = t := (q60t.trans ((q16f 1 12 (by unfold kEm; omega)).trans ht)); have g0 : w 1 12 = t := ht; omega), (by have g1 : w57 1 13 = lp := (q60l.trans ((q16f 1 13 (by unfold kEm; omega)).trans hlp)); have g0 : w 1 13 = lp := hlp; omega)⟩, x63.le (by omega)⟩
    · refine e_Ok.swk (tg := 236) rfl (by rw [h23]; rfl) ?_
      refine e_Ok.run (t' := (237, [(0, (1, 1))], [(1, 1)], w14)) 1 rfl ?_
      have k69 : w14 1 5 = w 1 5 := ((q16f 1 5 (by unfold kEm; omega)).trans rfl)
      refine e_Ok.callV rfl (by omega) rfl rfl rfl rfl (c_151 (by omega) (o := o) ⟨q16T, q16H, ((q16f 1 3 (by unfold kEm; omega)).trans hc), hcd, q16k⟩ ((q16f 1 11 (by unfold kEm; omega)).trans ho) (by omega) (by omega)) (fun r66 w67 h68 => ?_)
      obtain ⟨rfl, q70f, ⟨q70T, q70H, q70c, -, q70k⟩, ⟨q70o, q70t, q70l⟩, q70x⟩ := h68
      have f71 : e_fr (kRt cd) w w67 := e_fr.trans f18 (e_fr.mono q70f (fun c k q => by exact q))
      have s72 : gS w14 w67 cd (-1) 1 0 0 0 := q70x
      have x73 : gS w w67 cd 0 0 0 0 0 := gS.trans x20 s72 (by omega)
      have p74 := zpl.step p22 s72
      have p75 := lpK.step p21 s72
      show e_Ok 20 elay kcode eI (d + 1) 145 (240, [(0, (1, 1))], [], w67) _
      refine e_Ok.run (t' := (356, [(0, (1, 1))], [], w67)) 1 rfl ?_
      refine e_Ok.rets rfl rfl ?_
      exact ⟨rfl, f71, ⟨q70T, q70H, ((q70f 1 3 (by unfold kRt; omega)).trans ((q16f 1 3 (by unfold kEm; omega)).trans hc)), hcd, q70k⟩, ⟨(by have g1 : w67 1 11 = o := (q70o.trans ((q16f 1 11 (by unfold kEm; omega)).trans ho)); have g0 : w 1 11 = o := ho; omega), (by have g1 : w67 1 12 = t := (q70t.trans ((q16f 1 12 (by unfold kEm; omega)).trans ht)); have g0 : w 1 12 = t := ht; omega), (by have g1 : w67 1 13 = lp := (q70l.trans ((q16f 1 13 (by unfold kEm; omega)).trans hlp)); have g0 : w 1 13 = lp := hlp; omega)⟩, x73.le (by omega)⟩
    · refine e_Ok.swk (tg := 243) rfl (by rw [h23]; rfl) ?_
      refine e_Ok.run (t' := (246, [(0, (1, 1))], [(0, 31), (1, 1)], w14)) 2 rfl ?_
      have k79 : w14 1 5 = w 1 5 := ((q16f 1 5 (by unfold kEm; omega)).trans rfl)
      refine e_Ok.callV rfl (by omega) rfl rfl rfl rfl (c_147 (by omega) (o := o) ⟨q16T, q16H, ((q16f 1 3 (by unfold kEm; omega)).trans hc), hcd, q16k⟩ ((q16f 1 11 (by unfold kEm; omega)).trans ho) (by omega) (by omega) (by omega)) (fun r76 w77 h78 => ?_)
      obtain ⟨rfl, q80f, ⟨q80T, q80H, q80c, -, q80k⟩, ⟨q80o, q80t, q80l⟩, q80x⟩ := h78
      have f81 : e_fr (kRt cd) w w77 := e_fr.trans f18 (e_fr.mono q80f (fun c k q => by exact q))
      have s82 : gS w14 w77 cd (-1) 1 0 0 0 := q80x
      have x83 : gS w w77 cd 0 0 0 0 0 := gS.trans x20 s82 (by omega)
      have p84 := zpl.step p22 s82
      have p85 := lpK.step p21 s82
      show e_Ok 20 elay kcode eI (d + 1) 145 (249, [(0, (1, 1))], [], w77) _
      refine e_Ok.run (t' := (356, [(0, (1, 1))], [], w77)) 1 rfl ?_
      refine e_Ok.rets rfl rfl ?_
      exact ⟨rfl, f81, ⟨q80T, q80H, ((q80f 1 3 (by unfold kRt; omega)).trans ((q16f 1 3 (by unfold kEm; omega)).trans hc)), hcd, q80k⟩, ⟨(by have g1 : w77 1 11 = o := (q80o.trans ((q16f 1 11 (by unfold kEm; omega)).trans ho)); have g0 : w 1 11 = o := ho; omega), (by have g1 : w77 1 12 = t := (q80t.trans ((q16f 1 12 (by unfold kEm; omega)).trans ht)); have g0 : w 1 12 = t := ht; omega), (by have g1 : w77 1 13 = lp := (q80l.trans ((q16f 1 13 (by unfold kEm; omega)).trans hlp)); have g0 : w 1 13 = lp := hlp; omega)⟩, x83.le (by omega)⟩
    · refine e_Ok.swk (tg := 252) rfl (by rw [h23]; rfl) ?_
      refine e_Ok.run (t' := (255, [(0, (1, 1))], [(0, 32), (1, 1)], w14)) 2 rfl ?_
      have k89 : w14 1 5 = w 1 5 := ((q16f 1 5 (by unfold kEm; omega)).trans rfl)
      refine e_Ok.callV rfl (by omega) rfl rfl rfl rfl (c_147 (by omega) (o := o) ⟨q16T, q16H, ((q16f 1 3 (by unfold kEm; omega)).trans hc), hcd, q16k⟩ ((q16f 1 11 (by unfold kEm; omega)).trans ho) (by omega) (by omega) (by omega)) (fun r86 w87 h88 => ?_)
      obtain ⟨rfl, q90f, ⟨q90T, q90H, q90c, -, q90k⟩, ⟨q90o, q90t, q90l⟩, q90x⟩ := h88
      have f91 : e_fr (kRt cd) w w87 := e_fr.trans f18 (e_fr.mono q90f (fun c k q => by exact q))
      have s92 : gS w14 w87 cd (-1) 1 0 0 0 := q90x
      have x93 : gS w w87 cd 0 0 0 0 0 := gS.trans x20 s92 (by omega)
      have p94 := zpl.step p22 s92
      have p95 := lpK.step p21 s92
      show e_Ok 20 elay kcode eI (d + 1) 145 (258, [(0, (1, 1))], [], w87) _
      refine e_Ok.run (t' := (356, [(0, (1, 1))], [], w87)) 1 rfl ?_
      refine e_Ok.rets rfl rfl ?_
      exact ⟨rfl, f91, ⟨q90T, q90H, ((q90f 1 3 (by unfold kRt; omega)).trans ((q16f 1 3 (by unfold kEm; omega)).trans hc)), hcd, q90k⟩, ⟨(by have g1 : w87 1 11 = o := (q90o.trans ((q16f 1 11 (by unfold kEm; omega)).trans ho)); have g0 : w 1 11 = o := ho; omega), (by have g1 : w87 1 12 = t := (q90t.trans ((q16f 1 12 (by unfold kEm; omega)).trans ht)); have g0 : w 1 12 = t := ht; omega), (by have g1 : w87 1 13 = lp := (q90l.trans ((q16f 1 13 (by unfold kEm; omega)).trans hlp)); have g0 : w 1 13 = lp := hlp; omega)⟩, x93.le (by omega)⟩
    · refine e_Ok.swk (tg := 261) rfl (by rw [h23]; rfl) ?_
      refine e_Ok.run (t' := (264, [(0, (1, 1))], [(0, 33), (1, 1)], w14)) 2 rfl ?_
      have k105 : w14 1 5 = w 1 5 := ((q16f 1 5 (by unfold kEm; omega)).trans rfl)
      refine e_Ok.callV rfl (by omega) rfl rfl rfl rfl (c_148 (by omega) (o := o) ⟨q16T, q16H, ((q16f 1 3 (by unfold kEm; omega)).trans hc), hcd, q16k⟩ ((q16f 1 11 (by unfold kEm; omega)).trans ho) (by omega) (by omega) (by omega)) (fun r101 w103 h104 => ?_)
      obtain ⟨rfl, q106f, ⟨q106T, q106H, q106c, -, q106k⟩, ⟨q106o, q106t, q106l⟩, q106x⟩ := h104
      have f107 : e_fr (kRt cd) w w103 := e_fr.trans f18 (e_fr.mono q106f (fun c k q => by exact q))
      have s108 : gS w14 w103 cd (-1) 1 0 0 0 := q106x
      have x109 : gS w w103 cd 0 0 0 0 0 := gS.trans x20 s108 (by omega)
      have p110 := zpl.step p22 s108
      have p111 := lpK.step p21 s108
      show e_Ok 20 elay kcode eI (d + 1) 145 (267, [(0, (1, 1))], [], w103) _
      refine e_Ok.run (t' := (356, [(0, (1, 1))], [], w103)) 1 rfl ?_
      refine e_Ok.rets rfl rfl ?_
      exact ⟨rfl, f107, ⟨q106T, q106H, ((q106f 1 3 (by unfold kRt; omega)).trans ((q16f 1 3 (by unfold kEm; omega)).trans hc)), hcd, q106k⟩, ⟨(by have g1 : w103 1 11 = o := (q106o.trans ((q16f 1 11 (by unfold kEm; omega)).trans ho)); have g0 : w 1 11 = o := ho; omega), (by have g1 : w103 1 12 = t := (q106t.trans ((q16f 1 12 (by unfold kEm; omega)).trans ht)); have g0 : w 1 12 = t := ht; omega), (by have g1 : w103 1 13 = lp := (q106l.trans ((q16f 1 13 (by unfold kEm; omega)).trans hlp)); have g0 : w 1 13 = lp := hlp; omega)⟩, x109.le (by omega)⟩
    · refine e_Ok.swk (tg := 270) rfl (by rw [h23]; rfl) ?_
      refine e_Ok.run (t' := (273, [(0, (1, 1))], [(0, 34), (1, 1)], w14)) 2 rfl ?_
      have k115 : w14 1 5 = w 1 5 := ((q16f 1 5 (by unfold kEm; omega)).trans rfl)
      refine e_Ok.callV rfl (by omega) rfl rfl rfl rfl (c_148 (by omega) (o := o) ⟨q16T, q16H, ((q16f 1 3 (by unfold kEm; omega)).trans hc), hcd, q16k⟩ ((q16f 1 11 (by unfold kEm; omega)).trans ho) (by omega) (by omega) (by omega)) (fun r112 w113 h114 => ?_)
      obtain ⟨rfl, q116f, ⟨q116T, q116H, q116c, -, q116k⟩, ⟨q116o, q116t, q116l⟩, q116x⟩ := h114
      have f117 : e_fr (kRt cd) w w113 := e_fr.trans f18 (e_fr.mono q116f (fun c k q => by exact q))
      have s118 : gS w14 w113 cd (-1) 1 0 0 0 := q116x
      have x119 : gS w w113 cd 0 0 0 0 0 := gS.trans x20 s118 (by omega)
      have p120 := zpl.step p22 s118
      have p121 := lpK.step p21 s118
      show e_Ok 20 elay kcode eI (d + 1) 145 (276, [(0, (1, 1))], [], w113) _
      refine e_Ok.run (t' := (356, [(0, (1, 1))], [], w113)) 1 rfl ?_
      refine e_Ok.rets rfl rfl ?_
      exact ⟨rfl, f117, ⟨q116T, q116H, ((q116f 1 3 (by unfold kRt; omega)).trans ((q16f 1 3 (by unfold kEm; omega)).trans hc)), hcd, q116k⟩, ⟨(by have g1 : w113 1 11 = o := (q116o.trans ((q16f 1 11 (by unfold kEm; omega)).trans ho)); have g0 : w 1 11 = o := ho; omega), (by have g1 : w113 1 12 = t := (q116t.trans ((q16f 1 12 (by unfold kEm; omega)).trans ht)); have g0 : w 1 12 = t := ht; omega), (by have g1 : w113 1 13 = lp := (q116l.trans ((q16f 1 13 (by unfold kEm; omega)).trans hlp)); have g0 : w 1 13 = lp := hlp; omega)⟩, x119.le (by omega)⟩
    · refine e_Ok.swk (tg := 279) rfl (by rw [h23]; rfl) ?_
      refine e_Ok.run (t' := (282, [(0, (1, 1))], [(0, 35), (1, 1)], w14)) 2 rfl ?_
      have k125 : w14 1 5 = w 1 5 := ((q16f 1 5 (by unfold kEm; omega)).trans rfl)
      refine e_Ok.callV rfl (by omega) rfl rfl rfl rfl (c_147 (by omega) (o := o) ⟨q16T, q16H, ((q16f 1 3 (by unfold kEm; omega)).trans hc), hcd, q16k⟩ ((q16f 1 11 (by unfold kEm; omega)).trans ho) (by omega) (by omega) (by omega)) (fun r122 w123 h124 => ?_)
      obtain ⟨rfl, q126f, ⟨q126T, q126H, q126c, -, q126k⟩, ⟨q126o, q126t, q126l⟩, q126x⟩ := h124
      have f127 : e_fr (kRt cd) w w123 := e_fr.trans f18 (e_fr.mono q126f (fun c k q => by exact q))
      have s128 : gS w14 w123 cd (-1) 1 0 0 0 := q126x
      have x129 : gS w w123 cd 0 0 0 0 0 := gS.trans x20 s128 (by omega)
      have p130 := zpl.step p22 s128
      have p131 := lpK.step p21 s128
      show e_Ok 20 elay kcode eI (d + 1) 145 (285, [(0, (1, 1))], [], w123) _
      refine e_Ok.run (t' := (356, [(0, (1, 1))], [], w123)) 1 rfl ?_
      refine e_Ok.rets rfl rfl ?_
      exact ⟨rfl, f127, ⟨q126T, q126H, ((q126f 1 3 (by unfold kRt; omega)).trans ((q16f 1 3 (by unfold kEm; omega)).trans hc)), hcd, q126k⟩, ⟨(by have g1 : w123 1 11 = o := (q126o.trans ((q16f 1 11 (by unfold kEm; omega)).trans ho)); have g0 : w 1 11 = o := ho; omega), (by have g1 : w123 1 12 = t := (q126t.trans ((q16f 1 12 (by unfold kEm; omega)).trans ht)); have g0 : w 1 12 = t := ht; omega), (by have g1 : w123 1 13 = lp := (q126l.trans ((q16f 1 13 (by unfold kEm; omega)).trans hlp)); have g0 : w 1 13 = lp := hlp; omega)⟩, x129.le (by omega)⟩
    · refine e_Ok.swk (tg := 288) rfl (by rw [h23]; rfl) ?_
      refine e_Ok.run (t' := (291, [(0, (1, 1))], [(0, 36), (1, 1)], w14)) 2 rfl ?_
      have k135 : w14 1 5 = w 1 5 := ((q16f 1 5 (by unfold kEm; omega)).trans rfl)
      refine e_Ok.callV rfl (by omega) rfl rfl rfl rfl (c_147 (by omega) (o := o) ⟨q16T, q16H, ((q16f 1 3 (by unfold kEm; omega)).trans hc), hcd, q16k⟩ ((q16f 1 11 (by unfold kEm; omega)).trans ho) (by omega) (by omega) (by omega)) (fun r132 w133 h134 => ?_)
      obtain ⟨rfl, q136f, ⟨q136T, q136H, q136c, -, q136k⟩, ⟨q136o, q136t, q136l⟩, q136x⟩ := h134
      have f137 : e_fr (kRt cd) w w133 := e_fr.trans f18 (e_fr.mono q136f (fun c k q => by exact q))
      have s138 : gS w14 w133 cd (-1) 1 0 0 0 := q136x
      have x139 : gS w w133 cd 0 0 0 0 0 := gS.trans x20 s138 (by omega)
      have p140 := zpl.step p22 s138
      have p141 := lpK.step p21 s138
      show e_Ok 20 elay kcode eI (d + 1) 145 (294, [(0, (1, 1))], [], w133) _
      refine e_Ok.run (t' := (356, [(0, (1, 1))], [], w133)) 1 rfl ?_
      refine e_Ok.rets rfl rfl ?_
      exact ⟨rfl, f137, ⟨q136T, q136H, ((q136f 1 3 (by unfold kRt; omega)).trans ((q16f 1 3 (by unfold kEm; omega)).trans hc)), hcd, q136k⟩, ⟨(by have g1 : w133 1 11 = o := (q136o.trans ((q16f 1 11 (by unfold kEm; omega)).trans ho)); have g0 : w 1 11 = o := ho; omega), (by have g1 : w133 1 12 = t := (q136t.trans ((q16f 1 12 (by unfold kEm; omega)).trans ht)); have g0 : w 1 12 = t := ht; omega), (by have g1 : w133 1 13 = lp := (q136l.trans ((q16f 1 13 (by unfold kEm; omega)).trans hlp)); have g0 : w 1 13 = lp := hlp; omega)⟩, x139.le (by omega)⟩
    · refine e_Ok.swk (tg := 297) rfl (by rw [h23]; rfl) ?_
      refine e_Ok.run (t' := (300, [(0, (1, 1))], [(0, 37), (1, 1)], w14)) 2 rfl ?_
      have k145 : w14 1 5 = w 1 5 := ((q16f 1 5 (by unfold kEm; omega)).trans rfl)
      refine e_Ok.callV rfl (by omega) rfl rfl rfl rfl (c_146_a (by omega) (o := o) ⟨q16T, q16H, ((q16f 1 3 (by unfold kEm; omega)).trans hc), hcd, q16k⟩ ((q16f 1 11 (by unfold kEm; omega)).trans ho) (by omega) (by omega) (by omega)) (fun r142 w143 h144 => ?_)
      obtain ⟨rfl, q146f, ⟨q146T, q146H, q146c, -, q146k⟩, ⟨q146o, q146t, q146l⟩, q146x⟩ := h144
      have f147 : e_fr (kRt cd) w w143 := e_fr.trans f18 (e_fr.mono q146f (fun c k q => by exact q))
      have s148 : gS w14 w143 cd (-1) 1 0 0 0 := q146x
      have x149 : gS w w143 cd 0 0 0 0 0 := gS.trans x20 s148 (by omega)
      have p150 := zpl.step p22 s148
      have p151 := lpK.step p21 s148
      show e_Ok 20 elay kcode eI (d + 1) 145 (303, [(0, (1, 1))], [], w143) _
      refine e_Ok.run (t' := (356, [(0, (1, 1))], [], w143)) 1 rfl ?_
      refine e_Ok.rets rfl rfl ?_
      exact ⟨rfl, f147, ⟨q146T, q146H, ((q146f 1 3 (by unfold kRt; omega)).trans ((q16f 1 3 (by unfold kEm; omega)).trans hc)), hcd, q146k⟩, ⟨(by have g1 : w143 1 11 = o := (q146o.trans ((q16f 1 11 (by unfold kEm; omega)).trans ho)); have g0 : w 1 11 = o := ho; omega), (by have g1 : w143 1 12 = t := (q146t.trans ((q16f 1 12 (by unfold kEm; omega)).trans ht)); have g0 : w 1 12 = t := ht; omega), (by have g1 : w143 1 13 = lp := (q146l.trans ((q16f 1 13 (by unfold kEm; omega)).trans hlp)); have g0 : w 1 13 = lp := hlp; omega)⟩, x149.le (by omega)⟩
    · refine e_Ok.swk (tg := 306) rfl (by rw [h23]; rfl) ?_
      refine e_Ok.run (t' := (309, [(0, (1, 1))], [(0, 38), (1, 1)], w14)) 2 rfl ?_
      have k155 : w14 1 5 = w 1 5 := ((q16f 1 5 (by unfold kEm; omega)).trans rfl)
      refine e_Ok.callV rfl (by omega) rfl rfl rfl rfl (c_146_a (by omega) (o := o) ⟨q16T, q16H, ((q16f 1 3 (by unfold kEm; omega)).trans hc), hcd, q16k⟩ ((q16f 1 11 (by unfold kEm; omega)).trans ho) (by omega) (by omega) (by omega)) (fun r152 w153 h154 => ?_)
      obtain ⟨rfl, q156f, ⟨q156T, q156H, q156c, -, q156k⟩, ⟨q156o, q156t, q156l⟩, q156x⟩ := h154
      have f157 : e_fr (kRt cd) w w153 := e_fr.trans f18 (e_fr.mono q156f (fun c k q => by exact q))
      have s158 : gS w14 w153 cd (-1) 1 0 0 0 := q156x
      have x159 : gS w w153 cd 0 0 0 0 0 := gS.trans x20 s158 (by omega)
      have p160 := zpl.step p22 s158
      have p161 := lpK.step p21 s158
      show e_Ok 20 elay kcode eI (d + 1) 145 (312, [(0, (1, 1))], [], w153) _
      refine e_Ok.run (t' := (356, [(0, (1, 1))], [], w153)) 1 rfl ?_
      refine e_Ok.rets rfl rfl ?_
      exact ⟨rfl, f157, ⟨q156T, q156H, ((q156f 1 3 (by unfold kRt; omega)).trans ((q16f 1 3 (by unfold kEm; omega)).trans hc)), hcd, q156k⟩, ⟨(by have g1 : w153 1 11 = o := (q156o.trans ((q16f 1 11 (by unfold kEm; omega)).trans ho)); have g0 : w 1 11 = o := ho; omega), (by have g1 : w153 1 12 = t := (q156t.trans ((q16f 1 12 (by unfold kEm; omega)).trans ht)); have g0 : w 1 12 = t := ht; omega), (by have g1 : w153 1 13 = lp := (q156l.trans ((q16f 1 13 (by unfold kEm; omega)).trans hlp)); have g0 : w 1 13 = lp := hlp; omega)⟩, x159.le (by omega)⟩
    · refine e_Ok.swk (tg := 315) rfl (by rw [h23]; rfl) ?_
      refine e_Ok.run (t' := (316, [(0, (1, 1))], [(1, 1)], w14)) 1 rfl ?_
      have k165 : w14 1 5 = w 1 5 := ((q16f 1 5 (by unfold kEm; omega)).trans rfl)
      refine e_Ok.callV rfl (by omega) rfl rfl rfl rfl (c_152 (by omega) (o := o) ⟨q16T, q16H, ((q16f 1 3 (by unfold kEm; omega)).trans hc), hcd, q16k⟩ ((q16f 1 11 (by unfold kEm; omega)).trans ho) (by omega) (by omega)) (fun r162 w163 h164 => ?_)
      obtain ⟨rfl, q166f, ⟨q166T, q166H, q166c, -, q166k⟩, ⟨q166o, q166t, q166l⟩, q166x⟩ := h164
      have f167 : e_fr (kRt cd) w w163 := e_fr.trans f18 (e_fr.mono q166f (fun c k q => by exact q))
      have s168 : gS w14 w163 cd (-1) 1 0 0 0 := q166x
      have x169 : gS w w163 cd 0 0 0 0 0 := gS.trans x20 s168 (by omega)
      have p170 := zpl.step p22 s168
      have p171 := lpK.step p21 s168
      show e_Ok 20 elay kcode eI (d + 1) 145 (319, [(0, (1, 1))], [], w163) _
      refine e_Ok.run (t' := (356, [(0, (1, 1))], [], w163)) 1 rfl ?_
      refine e_Ok.rets rfl rfl ?_
      exact ⟨rfl, f167, ⟨q166T, q166H, ((q166f 1 3 (by unfold kRt; omega)).trans ((q16f 1 3 (by unfold kEm; omega)).trans hc)), hcd, q166k⟩, ⟨(by have g1 : w163 1 11 = o := (q166o.trans ((q16f 1 11 (by unfold kEm; omega)).trans ho)); have g0 : w 1 11 = o := ho; omega), (by have g1 : w163 1 12 = t := (q166t.trans ((q16f 1 12 (by unfold kEm; omega)).trans ht)); have g0 : w 1 12 = t := ht; omega), (by have g1 : w163 1 13 = lp := (q166l.trans ((q16f 1 13 (by unfold kEm; omega)).trans hlp)); have g0 : w 1 13 = lp := hlp; omega)⟩, x169.le (by omega)⟩
    · refine e_Ok.swk (tg := 322) rfl (by rw [h23]; rfl) ?_
      refine e_Ok.run (t' := (325, [(0, (1, 1))], [(0, 42), (1, 1)], w14)) 2 rfl ?_
      have k175 : w14 1 5 = w 1 5 := ((q16f 1 5 (by unfold kEm; omega)).trans rfl)
      refine e_Ok.callV rfl (by omega) rfl rfl rfl rfl (c_146_r (by omega) (o := o) ⟨q16T, q16H, ((q16f 1 3 (by unfold kEm; omega)).trans hc), hcd, q16k⟩ ((q16f 1 11 (by unfold kEm; omega)).trans ho) (by omega) (by omega)) (fun r172 w173 h174 => ?_)
      obtain ⟨rfl, q176f, ⟨q176T, q176H, q176c, -, q176k⟩, ⟨q176o, q176t, q176l⟩, q176x⟩ := h174
      have f177 : e_fr (kRt cd) w w173 := e_fr.trans f18 (e_fr.mono q176f (fun c k q => by exact q))
      have s178 : gS w14 w173 cd (-1) 1 0 0 0 := q176x
      have x179 : gS w w173 cd 0 0 0 0 0 := gS.trans x20 s178 (by omega)
      have p180 := zpl.step p22 s178
      have p181 := lpK.step p21 s178
      show e_Ok 20 elay kcode eI (d + 1) 145 (328, [(0, (1, 1))], [], w173) _
      refine e_Ok.run (t' := (356, [(0, (1, 1))], [], w173)) 1 rfl ?_
      refine e_Ok.rets rfl rfl ?_
      exact ⟨rfl, f177, ⟨q176T, q176H, ((q176f 1 3 (by unfold kRt; omega)).trans ((q16f 1 3 (by unfold kEm; omega)).trans hc)), hcd, q176k⟩, ⟨(by have g1 : w173 1 11 = o := (q176o.trans ((q16f 1 11 (by unfold kEm; omega)).trans ho)); have g0 : w 1 11 = o := ho; omega), (by have g1 : w173 1 12 = t := (q176t.trans ((q16f 1 12 (by unfold kEm; omega)).trans ht)); have g0 : w 1 12 = t := ht; omega), (by have g1 : w173 1 13 = lp := (q176l.trans ((q16f 1 13 (by unfold kEm; omega)).trans hlp)); have g0 : w 1 13 = lp := hlp; omega)⟩, x179.le (by omega)⟩
    · refine e_Ok.swk (tg := 331) rfl (by rw [h23]; rfl) ?_
      refine e_Ok.run (t' := (332, [(0, (1, 1))], [(1, 1)], w14)) 1 rfl ?_
      have k185 : w14 1 5 = w 1 5 := ((q16f 1 5 (by unfold kEm; omega)).trans rfl)
      refine e_Ok.callV rfl (by omega) rfl rfl rfl rfl (c_153 (by omega) (o := o) (t := t) (lp := lp) ⟨q16T, q16H, ((q16f 1 3 (by unfold kEm; omega)).trans hc), hcd, q16k⟩ ((q16f 1 11 (by unfold kEm; omega)).trans ho) (by omega) ((q16f 1 12 (by unfold kEm; omega)).trans ht) (by omega) ((q16f 1 13 (by unfold kEm; omega)).trans hlp) p21 (by omega)) (fun r182 w183 h184 => ?_)
      obtain ⟨rfl, q186f, ⟨q186T, q186H, q186c, -, q186k⟩, ⟨q186o, q186t, q186l⟩, q186x⟩ := h184
      have f187 : e_fr (kRt cd) w w183 := e_fr.trans f18 (e_fr.mono q186f (fun c k q => by exact q))
      have s188 : gS w14 w183 cd (-1) 1 0 0 0 := q186x
      have x189 : gS w w183 cd 0 0 0 0 0 := gS.trans x20 s188 (by omega)
      have p190 := zpl.step p22 s188
      have p191 := lpK.step p21 s188
      show e_Ok 20 elay kcode eI (d + 1) 145 (335, [(0, (1, 1))], [], w183) _
      refine e_Ok.run (t' := (356, [(0, (1, 1))], [], w183)) 1 rfl ?_
      refine e_Ok.rets rfl rfl ?_
      exact ⟨rfl, f187, ⟨q186T, q186H, ((q186f 1 3 (by unfold kRt; omega)).trans ((q16f 1 3 (by unfold kEm; omega)).trans hc)), hcd, q186k⟩, ⟨(by have g1 : w183 1 11 = o := (q186o.trans ((q16f 1 11 (by unfold kEm; omega)).trans ho)); have g0 : w 1 11 = o := ho; omega), (by have g1 : w183 1 12 = t := (q186t.trans ((q16f 1 12 (by unfold kEm; omega)).trans ht)); have g0 : w 1 12 = t := ht; omega), (by have g1 : w183 1 13 = lp := (q186l.trans ((q16f 1 13 (by unfold kEm; omega)).trans hlp)); have g0 : w 1 13 = lp := hlp; omega)⟩, x189.le (by omega)⟩
    · refine e_Ok.swk (tg := 338) rfl (by rw [h23]; rfl) ?_
      refine e_Ok.run (t' := (339, [(0, (1, 1))], [(1, 1)], w14)) 1 rfl ?_
      have k195 : w14 1 5 = w 1 5 := ((q16f 1 5 (by unfold kEm; omega)).trans rfl)
      refine e_Ok.callV rfl (by omega) rfl rfl rfl rfl (hc1 d rfl w14 cd t lp ⟨q16T, q16H, ((q16f 1 3 (by unfold kEm; omega)).trans hc), hcd, q16k⟩ ((q16f 1 11 (by unfold kEm; omega)).trans ho) ((q16f 1 12 (by unfold kEm; omega)).trans ht) (by omega) ((q16f 1 13 (by unfold kEm; omega)).trans hlp) p21 (show w14 1 5 = 39 from by omega)) (fun r192 w193 h194 => ?_)
      obtain ⟨rfl, q196f, ⟨q196T, q196H, q196c, -, q196k⟩, ⟨q196o, q196t, q196l⟩, q196x⟩ := h194
      have f197 : e_fr (kRt cd) w w193 := e_fr.trans f18 (e_fr.mono q196f (fun c k q => by exact q))
      have s198 : gS w14 w193 cd (-1) 1 0 0 0 := q196x
      have x199 : gS w w193 cd 0 0 0 0 0 := gS.trans x20 s198 (by omega)
      have p200 := zpl.step p22 s198
      have p201 := lpK.step p21 s198
      show e_Ok 20 elay kcode eI (d + 1) 145 (342, [(0, (1, 1))], [], w193) _
      refine e_Ok.run (t' := (356, [(0, (1, 1))], [], w193)) 1 rfl ?_
      refine e_Ok.rets rfl rfl ?_
      exact ⟨rfl, f197, ⟨q196T, q196H, ((q196f 1 3 (by unfold kRt; omega)).trans ((q16f 1 3 (by unfold kEm; omega)).trans hc)), hcd, q196k⟩, ⟨(by have g1 : w193 1 11 = o := (q196o.trans ((q16f 1 11 (by unfold kEm; omega)).trans ho)); have g0 : w 1 11 = o := ho; omega), (by have g1 : w193 1 12 = t := (q196t.trans ((q16f 1 12 (by unfold kEm; omega)).trans ht)); have g0 : w 1 12 = t := ht; omega), (by have g1 : w193 1 13 = lp := (q196l.trans ((q16f 1 13 (by unfold kEm; omega)).trans hlp)); have g0 : w 1 13 = lp := hlp; omega)⟩, x199.le (by omega)⟩
    · refine e_Ok.swk (tg := 352) rfl (by rw [h23]; rfl) ?_
      refine e_Ok.run (t' := (353, [(0, (1, 1))], [(1, 1)], w14)) 1 rfl ?_
      have k205 : w14 1 5 = w 1 5 := ((q16f 1 5 (by unfold kEm; omega)).trans rfl)
      refine e_Ok.callV rfl (by omega) rfl rfl rfl rfl (hc3 d rfl w14 cd t lp ⟨q16T, q16H, ((q16f 1 3 (by unfold kEm; omega)).trans hc), hcd, q16k⟩ ((q16f 1 11 (by unfold kEm; omega)).trans ho) ((q16f 1 12 (by unfold kEm; omega)).trans ht) (by omega) ((q16f 1 13 (by unfold kEm; omega)).trans hlp) p21 (show w14 1 5 = 42 from by omega)) (fun r202 w203 h204 => ?_)
      obtain ⟨rfl, q206f, ⟨q206T, q206H, q206c, -, q206k⟩, ⟨q206o, q206t, q206l⟩, q206x⟩ := h204
      have f207 : e_fr (kRt cd) w w203 := e_fr.trans f18 (e_fr.mono q206f (fun c k q => by exact q))
      have s208 : gS w14 w203 cd (-1) 1 0 0 0 := q206x
      have x209 : gS w w203 cd 0 0 0 0 0 := gS.trans x20 s208 (by omega)
      have p210 := zpl.step p22 s208
      have p211 := lpK.step p21 s208
      show e_Ok 20 elay kcode eI (d + 1) 145 (356, [(0, (1, 1))], [], w203) _
      refine e_Ok.rets rfl rfl ?_
      exact ⟨rfl, f207, ⟨q206T, q206H, ((q206f 1 3 (by unfold kRt; omega)).trans ((q16f 1 3 (by unfold kEm; omega)).trans hc)), hcd, q206k⟩, ⟨(by have g1 : w203 1 11 = o := (q206o.trans ((q16f 1 11 (by unfold kEm; omega)).trans ho)); have g0 : w 1 11 = o := ho; omega), (by have g1 : w203 1 12 = t := (q206t.trans ((q16f 1 12 (by unfold kEm; omega)).trans ht)); have g0 : w 1 12 = t := ht; omega), (by have g1 : w203 1 13 = lp := (q206l.trans ((q16f 1 13 (by unfold kEm; omega)).trans hlp)); have g0 : w 1 13 = lp := hlp; omega)⟩, x209.le (by omega)⟩
set_option maxHeartbeats 4000000 in
theorem c_144 {d : Nat} (hd : 281 ≤ d) {w : eW} {cd o : Int} (hS : rS w cd) (ho : w 1 11 = o) (hor : 0 ≤ o ∧ o ≤ 30) {t lp : Int} (ht : w 1 12 = t) (htr : 0 ≤ t ∧ t ≤ o) (hlp : w 1 13 = lp) (hlk : lpK w cd lp) (hI : ∀ k, d = k + 1 → zgC 145 o 0 0 isK k) : e_Ok 20 elay kcode eI d 144 (0, [(0, (1, 1))], [], w) (fun r w' => r = [] ∧ gQ w w' cd 0 0 0) := by
  obtain ⟨d, rfl⟩ : ∃ e, d = e + 1 := ⟨d - 1, by omega⟩
  obtain ⟨hT, hH, hc, hcd, hk⟩ := hS
  have hcd2 := hcd; unfold isCd at hcd2
  have hcd3 : 2 ≤ cd ∧ cd ≤ 145 := by omega
  have pL := e_Has.get hT (c := cd) (k := 0) (lo := 0) (hi := 4000) (kD_0 hcd) (by decide)
  have p1 := e_Has.get hH (c := 1) (k := 1) (lo := (-2147483648)) (hi := 2147483647) rfl (by decide)
  have p5 := e_Has.get hH (c := 1) (k := 5) (lo := 0) (hi := 53) rfl (by decide)
  have p6 := e_Has.get hH (c := 1) (k := 6) (lo := 0) (hi := 4000) rfl (by decide)
  have p9 := e_Has.get hH (c := 1) (k := 9) (lo := (-2147483648)) (hi := 2147483647) rfl (by decide)
  have p7 := e_Has.get hH (c := 1) (k := 7) (lo := 0) (hi := 4000) rfl (by decide)
  have p12 := e_Has.get hH (c := 1) (k := 12) (lo := 0) (hi := 30) rfl (by decide)
  have p13 := e_Has.get hH (c := 1) (k := 13) (lo := (-1)) (hi := 4000) rfl (by decide)
  have x0 : gS w w cd 0 0 0 0 0 := gS.refl pL.1
  refine e_Ok.run (t' := (2, [(1, (0, 0)), (0, (1, 1))], [], w)) 2 rfl ?_
  have hL1 : ∀ (nn : Nat) (y1 : Int) (v1 : eW), e_fr (kRt cd) w v1 ∧ e_Has kTy v1 ∧ e_Has kRy v1 ∧ v1 1 11 = o ∧ tkR v1 ∧ gS w v1 cd 0 0 0 0 0 ∧ v1 1 12 = t ∧ v1 1 13 = lp ∧ lpK v1 cd lp ∧ ((0 ≤ y1 ∧ y1 ≤ 4000)) → 4001 - y1 < nn → e_Ok 20 elay kcode eI (d + 1) 144 (2, [(0, (1, 1)), (1, (0, y1))], [], v1) (fun r w' => r = [] ∧ gQ w w' cd 0 0 0) := by
    intro nn
    induction nn with
    | zero => intro y1 v1 hj hm; obtain ⟨j3, j4, j5, j6, j7, j8, j9, j10, j11, j12⟩ := hj; exfalso; omega
    | succ nn ih2 =>
      intro y1 v1 hj hm
      obtain ⟨j3, j4, j5, j6, j7, j8, j9, j10, j11, j12⟩ := hj
      refine e_Ok.run (t' := (6, [(0, (1, 1)), (1, (0, y1))], [(0, 4000), (0, y1)], v1)) 2 rfl ?_
      refine e_Ok.if2 rfl (fun h13 => ?_) (fun h13 => ?_)
      · replace h13 : (y1 : Int) ≥ 4000 := h13
        refine e_Ok.rets rfl rfl ?_
        exact ⟨rfl, j3, ⟨j4, j5, ((j3 1 3 (by unfold kRt; omega)).trans hc), hcd, j7⟩, ⟨(by have g1 : v1 1 11 = o := j6; have g0 : w 1 11 = o := ho; omega), (by have g1 : v1 1 12 = t := j9; have g0 : w 1 12 = t := ht; omega), (by have g1 : v1 1 13 = lp := j10; have g0 : w 1 13 = lp := hlp; omega)⟩, j8.le (by omega)⟩
      · replace h13 : (y1 : Int) < 4000 := by have q : ¬ ((y1 : Int) ≥ 4000) := h13; omega
        refine e_Ok.run (t' := (10, [(0, (1, 1)), (1, (0, y1))], [(1, 1)], v1)) 1 rfl ?_
        refine e_Ok.callV rfl (by omega) rfl rfl rfl rfl (c_143 (by omega) j4 j5) (fun r14 w15 h16 => ?_)
        obtain ⟨z17, rfl, rfl, ⟨rfl, q18⟩ | ⟨rfl, -⟩⟩ := h16
        · show e_Ok 20 elay kcode eI (d + 1) 144 (13, [(0, (1, 1)), (1, (0, y1))], [(0, 1)], v1) _
          refine e_Ok.if1 rfl (fun h19 => ?_) (fun h19 => ?_)
          · replace h19 : (1 : Int) = 0 := h19
            exfalso; omega
          · replace h19 : (1 : Int) ≠ 0 := by have q : ¬ ((1 : Int) = 0) := h19; omega
            refine e_Ok.run (t' := (17, [(0, (1, 1)), (1, (0, y1))], [(1, 1)], v1)) 1 rfl ?_
            refine e_Ok.callV rfl (by omega) rfl rfl rfl rfl (hI d rfl v1 cd t lp ⟨j4, j5, ((j3 1 3 (by unfold kRt; omega)).trans hc), hcd, j7⟩ j6 j9 (by omega) j10 j11 q18) (fun r20 w21 h22 => ?_)
            obtain ⟨rfl, q23f, ⟨q23T, q23H, q23c, -, q23k⟩, ⟨q23o, q23t, q23l⟩, q23x⟩ := h22
            have f24 : e_fr (kRt cd) w w21 := e_fr.trans j3 (e_fr.mono q23f (fun c k q => by exact q))
            have s25 : gS v1 w21 cd 0 0 0 0 0 := q23x
            have x26 : gS w w21 cd 0 0 0 0 0 := gS.trans j8 s25 (by omega)
            have p27 := lpK.step j11 s25
            show e_Ok 20 elay kcode eI (d + 1) 144 (20, [(0, (1, 1)), (1, (0, y1))], [], w21) _
            refine e_Ok.inc (z := y1 + 1) rfl rfl (by omega) (by omega) ?_
            show e_Ok 20 elay kcode eI (d + 1) 144 (23, [(1, (0, y1 + 1)), (0, (1, 1))], [], w21) _
            refine e_Ok.run (t' := (2, [(1, (0, y1 + 1)), (0, (1, 1))], [], w21)) 1 rfl ?_
            refine e_Ok.sub kAlk (e_sub_of rfl ?_) (ih2 (y1 + 1) w21 ⟨f24, q23T, q23H, (q23o.trans j6), q23k, (x26.le (by omega)), (q23t.trans j9), (q23l.trans j10), p27, (by omega)⟩ (by omega))
            exact ⟨rfl, rfl, trivial⟩
        · show e_Ok 20 elay kcode eI (d + 1) 144 (13, [(0, (1, 1)), (1, (0, y1))], [(0, 0)], v1) _
          refine e_Ok.if1 rfl (fun h28 => ?_) (fun h28 => ?_)
          · replace h28 : (0 : Int) = 0 := h28
            refine e_Ok.rets rfl rfl ?_
            exact ⟨rfl, j3, ⟨j4, j5, ((j3 1 3 (by unfold kRt; omega)).trans hc), hcd, j7⟩, ⟨(by have g1 : v1 1 11 = o := j6; have g0 : w 1 11 = o := ho; omega), (by have g1 : v1 1 12 = t := j9; have g0 : w 1 12 = t := ht; omega), (by have g1 : v1 1 13 = lp := j10; have g0 : w 1 13 = lp := hlp; omega)⟩, j8.le (by omega)⟩
          · replace h28 : (0 : Int) ≠ 0 := by have q : ¬ ((0 : Int) = 0) := h28; omega
            exfalso; omega
  refine e_Ok.sub kAlk (e_sub_of rfl ?_) (hL1 (4001 + 1 : Int).toNat 0 w ⟨(e_fr.refl w), hT, hH, ho, hk, (x0.le (by omega)), ht, hlp, hlk, (by omega)⟩ (by omega))
  exact ⟨rfl, rfl, trivial⟩
theorem g154 {d : Nat} {o : Int} (hd : 281 ≤ d) (hor : 0 ≤ o ∧ o ≤ 30) (hB : o < 30 → ∀ k, d = k + 1 → zgC 144 (o + 1) 0 0 (fun _ => True) k) : zgC 154 o (-1) 1 (fun k => k = 39) d := fun _ _ _ _ h1 h2 h3 h4 h5 h6 h7 => c_154 hd h1 h2 hor h3 h4 h5 h6 h7 hB
theorem g155 {d : Nat} {o : Int} (hd : 281 ≤ d) (hor : 0 ≤ o ∧ o ≤ 30) (hB : o < 30 → ∀ k, d = k + 1 → zgC 144 (o + 1) 0 0 (fun _ => True) k) : zgC 155 o 0 0 (fun k => k = 41) d := fun _ _ _ _ h1 h2 h3 h4 h5 h6 h7 => c_155 hd h1 h2 hor h3 h4 h5 h6 h7 hB
theorem g156 {d : Nat} {o : Int} (hd : 284 ≤ d) (hor : 0 ≤ o ∧ o ≤ 30) (hB : o < 30 → ∀ k, d ≤ k + 2 → zgC 144 (o + 1) 0 0 (fun _ => True) k) : zgC 156 o (-1) 1 (fun k => k = 42) d := fun _ _ _ _ h1 h2 h3 h4 h5 h6 h7 => c_156 (by omega) h1 h2 hor h3 h4 h5 h6 h7 hB
theorem g145 {d : Nat} {o : Int} (hd : 285 ≤ d) (hor : 0 ≤ o ∧ o ≤ 30) (hc1 : ∀ k, d = k + 1 → zgC 154 o (-1) 1 (fun k => k = 39) k) (hc2 : ∀ k, d = k + 1 → zgC 155 o 0 0 (fun k => k = 41) k) (hc3 : ∀ k, d = k + 1 → zgC 156 o (-1) 1 (fun k => k = 42) k) : zgC 145 o 0 0 isK d := fun _ _ _ _ h1 h2 h3 h4 h5 h6 h7 => c_145 (by omega) h1 h2 hor h3 h4 h5 h6 h7 hc1 hc2 hc3
theorem g144 {d : Nat} {o : Int} (hd : 283 ≤ d) (hor : 0 ≤ o ∧ o ≤ 30) (hI : ∀ k, d = k + 1 → zgC 145 o 0 0 isK k) : zgC 144 o 0 0 (fun _ => True) d := fun _ _ _ _ h1 h2 h3 h4 h5 h6 _ => c_144 (by omega) h1 h2 hor h3 h4 h5 h6 hI
theorem g_lv : ∀ (k : Nat), k ≤ 30 → ∀ d, 290 + 5 * k ≤ d → zgC 144 (30 - (k : Int)) 0 0 (fun _ => True) d
  | 0, _ => fun d hd => g144 (by omega) (by omega) (fun j e => g145 (by omega) (by omega) (fun i e => g154 (by omega) (by omega) (fun h => by omega)) (fun i e => g155 (by omega) (by omega) (fun h => by omega)) (fun i e => g156 (by omega) (by omega) (fun h => by omega)))
  | k + 1, hk => fun d hd => by
    have ih := g_lv k (by omega)
    have eo : 30 - ((k + 1 : Nat) : Int) + 1 = 30 - (k : Int) := by omega
    have hB : ∀ j, 290 + 5 * k ≤ j → zgC 144 (30 - ((k + 1 : Nat) : Int) + 1) 0 0 (fun _ => True) j := fun j hj => by rw [eo]; exact ih j hj
    exact g144 (by omega) (by omega) (fun j e => g145 (by omega) (by omega) (fun i e => g154 (by omega) (by omega) (fun _ m e => hB m (by omega))) (fun i e => g155 (by omega) (by omega) (fun _ m e => hB m (by omega))) (fun i e => g156 (by omega) (by omega) (fun _ m e => hB m (by omega))))
/-- statements, with o things open -/
theorem g_blk {d : Nat} {o : Int} (hd : 440 ≤ d) (hor : 0 ≤ o ∧ o ≤ 30) : zgC 144 o 0 0 (fun _ => True) d := by
  have hk : ((30 - o).toNat : Int) = 30 - o := by omega
  have q := g_lv (30 - o).toNat (by omega)
  rw [hk, show 30 - (30 - o) = o by omega] at q
  exact q d (by omega)
end
