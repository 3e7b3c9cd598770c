noncomputable section
/-! the class: the reader, statements -/
/-- the loop that a break would leave -/
def lpK (w : eW) (cd lp : Int) : Prop := lp = -1 ∨ zpl w cd (lp + 1) 49
theorem lpK.step {w v : eW} {cd lp s b c b' c' : Int} (h : lpK w cd lp) (g : gS w v cd s b c b' c') : lpK v cd lp := by
  rcases h with h | h
  · exact Or.inl h
  · exact Or.inr (h.step g)
def gQ (w w' : eW) (cd s b c : Int) : Prop := e_fr (kRt cd) w w' ∧ rS w' cd ∧ (w' 1 11 = w 1 11 ∧ w' 1 12 = w 1 12 ∧ w' 1 13 = w 1 13) ∧ gS w w' cd s b c 0 0
/-- a method for statements -/
def zgC (M : Nat) (o s b : Int) (K : Int → Prop) (d : Nat) : Prop := ∀ (w : eW) (cd t lp : Int), rS w cd → w 1 11 = o → w 1 12 = t → (0 ≤ t ∧ t ≤ o) → w 1 13 = lp → lpK w cd lp → K (w 1 5) → e_Ok 20 elay kcode eI d M (0, [(0, (1, 1))], [], w) (fun r w' => r = [] ∧ gQ w w' cd s b 0)
def isK (k : Int) : Prop := k = 1 ∨ (24 ≤ k ∧ k ≤ 39) ∨ k = 41 ∨ k = 42
theorem no_dn_0 : ¬ kRk 1 3 := by unfold kRk; omega
theorem no_dn_1 : ¬ kRa 1 3 := by unfold kRa; omega
theorem no_dn_2 : ¬ kRk 1 11 := by unfold kRk; omega
theorem no_dn_3 : ¬ kRa 1 11 := by unfold kRa; omega
theorem no_dn_4 : ¬ kRk 1 12 := by unfold kRk; omega
theorem no_dn_5 : ¬ kRa 1 12 := by unfold kRa; omega
theorem no_dn_6 : ¬ kRk 1 13 := by unfold kRk; omega
theorem no_dn_7 : ¬ kRa 1 13 := by unfold kRa; omega
theorem su_dn_17 {cd : Int} {c k : Int} (q : kRa c k) : kRx cd c k := by
  unfold kRa at q
  rcases q with ⟨q, ⟨q, q⟩⟩
  · exact Or.inl ⟨(by omega), Or.inr (Or.inr ⟨(by omega), (by omega)⟩)⟩
theorem su_dn_18 {cd : Int} {c k : Int} (q : kRk c k) : kRx cd c k := by
  unfold kRk at q
  rcases q with ⟨q, (q | q | ⟨q, q⟩)⟩
  · exact Or.inl ⟨(by omega), Or.inl (by omega)⟩
  · exact Or.inl ⟨(by omega), Or.inr (Or.inl (by omega))⟩
  · exact Or.inl ⟨(by omega), Or.inr (Or.inr ⟨(by omega), (by omega)⟩)⟩
theorem su_dn_19 {cd : Int} {c k : Int} (q : kEm cd c k) : kRx cd c k := by
  unfold kEm at q
  rcases q with ⟨q, q⟩ | q
  · exact Or.inr (Or.inl ⟨(by omega), (by omega)⟩)
  · exact Or.inr (Or.inr (by omega))
theorem su_dn_20 {cd : Int} {c k : Int} (q : kRx cd c k) : kRt cd c k := by
  unfold kRx at q
  rcases q with ⟨q, (q | q | ⟨q, q⟩)⟩ | ⟨q, q⟩ | q
  · exact Or.inl ⟨(by omega), Or.inl (by omega)⟩
  · exact Or.inl ⟨(by omega), Or.inr (Or.inl (by omega))⟩
  · exact Or.inl ⟨(by omega), Or.inr (Or.inr ⟨(by omega), (by omega)⟩)⟩
  · exact Or.inr (Or.inl ⟨(by omega), (by omega)⟩)
  · exact Or.inr (Or.inr (by omega))
set_option maxHeartbeats 4000000 in
theorem c_146_a {d : Nat} (hd : 281 ≤ d) {w : eW} {cd o : Int} (hS : rS w cd) (ho : w 1 11 = o) (hor : 0 ≤ o ∧ o ≤ 30) {op : Int} (g_op : 37 ≤ op ∧ op ≤ 38) (h5 : 34 ≤ w 1 5 ∧ w 1 5 ≤ 35) : e_Ok 20 elay kcode eI d 146 (0, [(0, (1, 1)), (1, (0, op))], [], w) (fun r w' => r = [] ∧ gQ w w' cd (-1) 1 0) := by
  obtain ⟨d, rfl⟩ : ∃ e, d = e + 1 := ⟨d - 1, by omega⟩
  obtain ⟨hT, hH, hc, hcd, hk⟩ := hS
  have hcd2 := hcd; unfold isCd at hcd2
  have hcd3 : 2 ≤ cd ∧ cd ≤ 145 := by omega
  have pL := e_Has.get hT (c := cd) (k := 0) (lo := 0) (hi := 4000) (kD_0 hcd) (by decide)
  have p1 := e_Has.get hH (c := 1) (k := 1) (lo := (-2147483648)) (hi := 2147483647) rfl (by decide)
  have p5 := e_Has.get hH (c := 1) (k := 5) (lo := 0) (hi := 53) rfl (by decide)
  have p6 := e_Has.get hH (c := 1) (k := 6) (lo := 0) (hi := 4000) rfl (by decide)
  have p9 := e_Has.get hH (c := 1) (k := 9) (lo := (-2147483648)) (hi := 2147483647) rfl (by decide)
  have p7 := e_Has.get hH (c := 1) (k := 7) (lo := 0) (hi := 4000) rfl (by decide)
  have p12 := e_Has.get hH (c := 1) (k := 12) (lo := 0) (hi := 30) rfl (by decide)
  have p13 := e_Has.get hH (c := 1) (k := 13) (lo := (-1)) (hi := 4000) rfl (by decide)
  refine e_Ok.ps1 (x := (1, 1)) (q := 1) 1 rfl ?_
  refine e_Ok.callV rfl (e_dq hd rfl) rfl rfl rfl rfl (c_123 (e_dq hd rfl) hT hH hk.1.2) (fun r1 w2 h3 => ?_)
  obtain ⟨rfl, q4f, q4T, q4H, q4k, q4x, q44⟩ := h3
  refine e_Ok.nrm (q := 4) (st' := []) rfl rfl ?_
  refine e_Ok.ps2 (x := (0, 19)) (y := (1, 1)) (q := 7) 2 rfl ?_
  refine e_Ok.callV rfl (e_dq hd rfl) rfl rfl rfl rfl (c_129 (e_dq hd rfl) q4T q4H q4k (by omega)) (fun r8 w9 h10 => ?_)
  obtain ⟨rfl, q11f, q11T, q11H, q11k, q11x⟩ := h10
  refine e_Ok.nrm (q := 10) (st' := []) rfl rfl ?_
  refine e_Ok.ps1 (x := (1, 1)) (q := 11) 1 rfl ?_
  refine e_Ok.getr (z := cd) rfl (el_o rfl) rfl rfl ((q11f 1 3 no_dn_0).trans ((q4f 1 3 no_dn_1).trans hc)) (by omega) ?_
  refine e_Ok.ps2 (x := (0, 0)) (y := (0, op)) (q := 16) 2 rfl ?_
  refine e_Ok.callV rfl (e_dq hd rfl) rfl (lD0 hcd) rfl rfl (c_21 q11T hcd (by omega) (by omega)) (fun r15 w16 h17 => ?_)
  obtain ⟨z19, rfl, q18f, q18T, q18x⟩ := h17
  have q18z : 0 ≤ z19 ∧ z19 ≤ 4000 := by have g := e_Has.get q11T (c := cd) (k := 0) (lo := 0) (hi := 4000) (kD_0 hcd) (by decide); unfold emQ at q18x; omega
  refine e_Ok.nrm (q := 19) (st' := [(0, z19)]) rfl rfl ?_
  refine e_Ok.run (t' := (20, [(0, (1, 1)), (1, (0, op))], [], w16)) 1 rfl ?_
  refine e_Ok.rets rfl rfl ?_
  exact ⟨rfl, (e_fr.mono (show e_fr (kRx cd) w w16 from e_fr.trans (show e_fr (kRx cd) w w9 from e_fr.trans (show e_fr (kRx cd) w w2 from e_fr.trans (e_fr.refl w) (e_fr.mono q4f (fun c k q => by first | exact su_dn_17 q | (unfold kRa at q; unfold kRx; omega)))) (e_fr.mono q11f (fun c k q => by first | exact su_dn_18 q | (unfold kRk at q; unfold kRx; omega)))) (e_fr.mono q18f (fun c k q => by first | exact su_dn_19 q | (unfold kEm at q; unfold kRx; omega)))) (fun c k q => by first | exact su_dn_20 q | (unfold kRx at q; unfold kRt; omega))), ⟨q18T, (show e_Has kRy w16 from H_fr q18f (fun c k g => by unfold kEm at g; omega) q11H), ((q18f 1 3 (by unfold kEm; omega)).trans ((q11f 1 3 no_dn_0).trans ((q4f 1 3 no_dn_1).trans hc))), hcd, (show tkR w16 from (q11k.fr q18f (fun k g => by unfold kEm; omega)))⟩, ⟨(by have g1 : w16 1 11 = o := ((q18f 1 11 (by unfold kEm; omega)).trans ((q11f 1 11 no_dn_2).trans ((q4f 1 11 no_dn_3).trans ho))); have g0 : w 1 11 = o := ho; omega), (by have g1 : w16 1 12 = w 1 12 := ((q18f 1 12 (by unfold kEm; omega)).trans ((q11f 1 12 no_dn_4).trans ((q4f 1 12 no_dn_5).trans rfl))); have g0 : w 1 12 = w 1 12 := rfl; omega), (by have g1 : w16 1 13 = w 1 13 := ((q18f 1 13 (by unfold kEm; omega)).trans ((q11f 1 13 no_dn_6).trans ((q4f 1 13 no_dn_7).trans rfl))); have g0 : w 1 13 = w 1 13 := rfl; omega)⟩, (show gS w w16 cd (-2) 1 0 0 0 from gS.trans (show gS w w9 cd (-3) 1 0 1 0 from gS.trans (show gS w w2 cd (-2) 1 0 1 0 from gS.trans (show gS w w cd 0 1 0 1 0 from gS.refl pL.1) (show gS w w2 cd (-2) 1 0 1 0 from gS.adv hcd ((e_Has.get hT (c := cd) (k := 0) (lo := 0) (hi := 4000) (kD_0 hcd) (by decide)).1) (by omega) q4f q4x (hk.a2 (by omega))) (by omega)) (show gS w2 w9 cd (-1) 1 0 1 0 from gS.acc hcd ((e_Has.get q4T (c := cd) (k := 0) (lo := 0) (hi := 4000) (kD_0 hcd) (by decide)).1) (by omega) q11f q11x (fun g => q4k.a1 (by omega))) (by omega)) (show gS w9 w16 cd 1 1 0 0 0 from gS.act hcd ((e_Has.get q11T (c := cd) (k := 0) (lo := 0) (hi := 4000) (kD_0 hcd) (by decide)).1) q18f q18x (by omega) (by omega) (by omega) (by omega)) (by omega)).le (by omega)⟩
set_option maxHeartbeats 4000000 in
theorem c_146_r {d : Nat} (hd : 281 ≤ d) {w : eW} {cd o : Int} (hS : rS w cd) (ho : w 1 11 = o) (hor : 0 ≤ o ∧ o ≤ 30) (h5 : w 1 5 = 37) : e_Ok 20 elay kcode eI d 146 (0, [(0, (1, 1)), (1, (0, 42))], [], w) (fun r w' => r = [] ∧ gQ w w' cd (-1) 1 0) := by
  obtain ⟨d, rfl⟩ : ∃ e, d = e + 1 := ⟨d - 1, by omega⟩
  obtain ⟨hT, hH, hc, hcd, hk⟩ := hS
  have hcd2 := hcd; unfold isCd at hcd2
  have hcd3 : 2 ≤ cd ∧ cd ≤ 145 := by omega
  have pL := e_Has.get hT (c := cd) (k := 0) (lo := 0) (hi := 4000) (kD_0 hcd) (by decide)
  have p1 := e_Has.get hH (c := 1) (k := 1) (lo := (-2147483648)) (hi := 2147483647) rfl (by decide)
  have p5 := e_Has.get hH (c := 1) (k := 5) (lo := 0) (hi := 53) rfl (by decide)
  have p6 := e_Has.get hH (c := 1) (k := 6) (lo := 0) (hi := 4000) rfl (by decide)
  have p9 := e_Has.get hH (c := 1) (k := 9) (lo := (-2147483648)) (hi := 2147483647) rfl (by decide)
  have p7 := e_Has.get hH (c := 1) (k := 7) (lo := 0) (hi := 4000) rfl (by decide)
  have p12 := e_Has.get hH (c := 1) (k := 12) (lo := 0) (hi := 30) rfl (by decide)
  have p13 := e_Has.get hH (c := 1) (k := 13) (lo := (-1)) (hi := 4000) rfl (by decide)
  refine e_Ok.ps1 (x := (1, 1)) (q := 1) 1 rfl ?_
  refine e_Ok.callV rfl (e_dq hd rfl) rfl rfl rfl rfl (c_123 (e_dq hd rfl) hT hH hk.1.2) (fun r1 w2 h3 => ?_)
  obtain ⟨rfl, q4f, q4T, q4H, q4k, q4x, q44⟩ := h3
  refine e_Ok.nrm (q := 4) (st' := []) rfl rfl ?_
  refine e_Ok.ps2 (x := (0, 19)) (y := (1, 1)) (q := 7) 2 rfl ?_
  refine e_Ok.callV rfl (e_dq hd rfl) rfl rfl rfl rfl (c_129 (e_dq hd rfl) q4T q4H q4k (by omega)) (fun r8 w9 h10 => ?_)
  obtain ⟨rfl, q11f, q11T, q11H, q11k, q11x⟩ := h10
  refine e_Ok.nrm (q := 10) (st' := []) rfl rfl ?_
  refine e_Ok.ps1 (x := (1, 1)) (q := 11) 1 rfl ?_
  refine e_Ok.getr (z := cd) rfl (el_o rfl) rfl rfl ((q11f 1 3 no_dn_0).trans ((q4f 1 3 no_dn_1).trans hc)) (by omega) ?_
  refine e_Ok.ps2 (x := (0, 0)) (y := (0, 42)) (q := 16) 2 rfl ?_
  refine e_Ok.callV rfl (e_dq hd rfl) rfl (lD0 hcd) rfl rfl (c_21 q11T hcd (by omega) (by omega)) (fun r15 w16 h17 => ?_)
  obtain ⟨z19, rfl, q18f, q18T, q18x⟩ := h17
  have q18z : 0 ≤ z19 ∧ z19 ≤ 4000 := by have g := e_Has.get q11T (c := cd) (k := 0) (lo := 0) (hi := 4000) (kD_0 hcd) (by decide); unfold emQ at q18x; omega
  refine e_Ok.nrm (q := 19) (st' := [(0, z19)]) rfl rfl ?_
  refine e_Ok.run (t' := (20, [(0, (1, 1)), (1, (0, 42))], [], w16)) 1 rfl ?_
  refine e_Ok.rets rfl rfl ?_
  exact ⟨rfl, (e_fr.mono (show e_fr (kRx cd) w w16 from e_fr.trans (show e_fr (kRx cd) w w9 from e_fr.trans (show e_fr (kRx cd) w w2 from e_fr.trans (e_fr.refl w) (e_fr.mono q4f (fun c k q => by first | exact su_dn_17 q | (unfold kRa at q; unfold kRx; omega)))) (e_fr.mono q11f (fun c k q => by first | exact su_dn_18 q | (unfold kRk at q; unfold kRx; omega)))) (e_fr.mono q18f (fun c k q => by first | exact su_dn_19 q | (unfold kEm at q; unfold kRx; omega)))) (fun c k q => by first | exact su_dn_20 q | (unfold kRx at q; unfold kRt; omega))), ⟨q18T, (show e_Has kRy w16 from H_fr q18f (fun c k g => by unfold kEm at g; omega) q11H), ((q18f 1 3 (by unfold kEm; omega)).trans ((q11f 1 3 no_dn_0).trans ((q4f 1 3 no_dn_1).trans hc))), hcd, (show tkR w16 from (q11k.fr q18f (fun k g => by unfold kEm; omega)))⟩, ⟨(by have g1 : w16 1 11 = o := ((q18f 1 11 (by unfold kEm; omega)).trans ((q11f 1 11 no_dn_2).trans ((q4f 1 11 no_dn_3).trans ho))); have g0 : w 1 11 = o := ho; omega), (by have g1 : w16 1 12 = w 1 12 := ((q18f 1 12 (by unfold kEm; omega)).trans ((q11f 1 12 no_dn_4).trans ((q4f 1 12 no_dn_5).trans rfl))); have g0 : w 1 12 = w 1 12 := rfl; omega), (by have g1 : w16 1 13 = w 1 13 := ((q18f 1 13 (by unfold kEm; omega)).trans ((q11f 1 13 no_dn_6).trans ((q4f 1 13 no_dn_7).trans rfl))); have g0 : w 1 13 = w 1 13 := rfl; omega)⟩, (show gS w w16 cd (-2) 1 0 0 0 from gS.trans (show gS w w9 cd (-3) 1 0 1 0 from gS.trans (show gS w w2 cd (-2) 1 0 1 0 from gS.trans (show gS w w cd 0 1 0 1 0 from gS.refl pL.1) (show gS w w2 cd (-2) 1 0 1 0 from gS.adv hcd ((e_Has.get hT (c := cd) (k := 0) (lo := 0) (hi := 4000) (kD_0 hcd) (by decide)).1) (by omega) q4f q4x (hk.a2 (by omega))) (by omega)) (show gS w2 w9 cd (-1) 1 0 1 0 from gS.acc hcd ((e_Has.get q4T (c := cd) (k := 0) (lo := 0) (hi := 4000) (kD_0 hcd) (by decide)).1) (by omega) q11f q11x (fun g => q4k.a1 (by omega))) (by omega)) (show gS w9 w16 cd 1 1 0 0 0 from gS.big hcd ((e_Has.get q11T (c := cd) (k := 0) (lo := 0) (hi := 4000) (kD_0 hcd) (by decide)).1) (by omega) q18f q18x (by omega) (by omega) (fun g => by omega) (fun g => by omega)) (by omega)).le (by omega)⟩
theorem su_dn_21 {cd : Int} {c k : Int} (q : kRa c k) : kRt cd c k := by
  unfold kRa at q
  rcases q with ⟨q, ⟨q, q⟩⟩
  · exact Or.inl ⟨(by omega), Or.inr (Or.inr ⟨(by omega), (by omega)⟩)⟩
theorem su_dn_22 {cd : Int} {c k : Int} (q : kRk c k) : kRt cd c k := by
  unfold kRk at q
  rcases q with ⟨q, (q | q | ⟨q, q⟩)⟩
  · exact Or.inl ⟨(by omega), Or.inl (by omega)⟩
  · exact Or.inl ⟨(by omega), Or.inr (Or.inl (by omega))⟩
  · exact Or.inl ⟨(by omega), Or.inr (Or.inr ⟨(by omega), (by omega)⟩)⟩
theorem su_dn_23 {cd : Int} {c k : Int} (q : kEm cd c k) : kRt cd c k := by
  unfold kEm at q
  rcases q with ⟨q, q⟩ | q
  · exact Or.inr (Or.inl ⟨(by omega), (by omega)⟩)
  · exact Or.inr (Or.inr (by omega))
set_option maxHeartbeats 4000000 in
theorem c_147 {d : Nat} (hd : 281 ≤ d) {w : eW} {cd o : Int} (hS : rS w cd) (ho : w 1 11 = o) (hor : 0 ≤ o ∧ o ≤ 30) {op : Int} (g_op : 28 ≤ op ∧ op ≤ 36) (h5 : 24 ≤ w 1 5 ∧ w 1 5 ≤ 39) : e_Ok 20 elay kcode eI d 147 (0, [(0, (1, 1)), (1, (0, op))], [], w) (fun r w' => r = [] ∧ gQ w w' cd (-1) 1 0) := by
  obtain ⟨d, rfl⟩ : ∃ e, d = e + 1 := ⟨d - 1, by omega⟩
  obtain ⟨hT, hH, hc, hcd, hk⟩ := hS
  have hcd2 := hcd; unfold isCd at hcd2
  have hcd3 : 2 ≤ cd ∧ cd ≤ 145 := by omega
  have pL := e_Has.get hT (c := cd) (k := 0) (lo := 0) (hi := 4000) (kD_0 hcd) (by decide)
  have p1 := e_Has.get hH (c := 1) (k := 1) (lo := (-2147483648)) (hi := 2147483647) rfl (by decide)
  have p5 := e_Has.get hH (c := 1) (k := 5) (lo := 0) (hi := 53) rfl (by decide)
  have p6 := e_Has.get hH (c := 1) (k := 6) (lo := 0) (hi := 4000) rfl (by decide)
  have p9 := e_Has.get hH (c := 1) (k := 9) (lo := (-2147483648)) (hi := 2147483647) rfl (by decide)
  have p7 := e_Has.get hH (c := 1) (k := 7) (lo := 0) (hi := 4000) rfl (by decide)
  have p12 := e_Has.get hH (c := 1) (k := 12) (lo := 0) (hi := 30) rfl (by decide)
  have p13 := e_Has.get hH (c := 1) (k := 13) (lo := (-1)) (hi := 4000) rfl (by decide)
  refine e_Ok.ps1 (x := (1, 1)) (q := 1) 1 rfl ?_
  refine e_Ok.callV rfl (e_dq hd rfl) rfl rfl rfl rfl (c_123 (e_dq hd rfl) hT hH hk.1.2) (fun r1 w2 h3 => ?_)
  obtain ⟨rfl, q4f, q4T, q4H, q4k, q4x, q44⟩ := h3
  refine e_Ok.nrm (q := 4) (st' := []) rfl rfl ?_
  refine e_Ok.ps1 (x := (1, 1)) (q := 5) 1 rfl ?_
  refine e_Ok.getr (z := cd) rfl (el_o rfl) rfl rfl ((q4f 1 3 no_dn_1).trans hc) (by omega) ?_
  have h7 := (e_Has.get hT (c := cd) (k := 0) (lo := 0) (hi := 4000) (kD_0 hcd) (by decide))
  refine e_Ok.getf (z := w cd 0) rfl (lD0 hcd) rfl rfl ((q4f cd 0 (by unfold kRa; omega)).trans rfl) (e_bq h7 (by decide) (by decide)) ?_
  refine e_Ok.run (t' := (13, [(2, (0, w cd 0)), (0, (1, 1)), (1, (0, op))], [(1, 1)], w2)) 2 rfl ?_
  refine e_Ok.callV rfl (e_dq hd rfl) rfl rfl rfl rfl (x_exp (o := o) (by omega) (by omega) w2 cd ⟨q4T, q4H, ((q4f 1 3 no_dn_1).trans hc), hcd, q4k⟩ ((q4f 1 11 no_dn_3).trans ho)) (fun r8 w9 h10 => ?_)
  obtain ⟨rfl, q11f, ⟨q11T, q11H, q11c, -, q11k⟩, q11o, q11x⟩ := h10
  refine e_Ok.nrm (q := 16) (st' := []) rfl rfl ?_
  refine e_Ok.ps2 (x := (0, 19)) (y := (1, 1)) (q := 19) 2 rfl ?_
  refine e_Ok.callV rfl (e_dq hd rfl) rfl rfl rfl rfl (c_129 (e_dq hd rfl) q11T q11H q11k (by omega)) (fun r14 w15 h16 => ?_)
  obtain ⟨rfl, q17f, q17T, q17H, q17k, q17x⟩ := h16
  refine e_Ok.nrm (q := 22) (st' := []) rfl rfl ?_
  refine e_Ok.ps1 (x := (1, 1)) (q := 23) 1 rfl ?_
  refine e_Ok.getr (z := cd) rfl (el_o rfl) rfl rfl ((q17f 1 3 no_dn_0).trans ((q11f 1 3 (by unfold kRx; omega)).trans ((q4f 1 3 no_dn_1).trans hc))) (by omega) ?_
  refine e_Ok.ps2 (x := (0, w cd 0)) (y := (0, op)) (q := 28) 2 rfl ?_
  refine e_Ok.callV rfl (e_dq hd rfl) rfl (lD0 hcd) rfl rfl (c_21 q17T hcd (by omega) (by omega)) (fun r20 w21 h22 => ?_)
  obtain ⟨z24, rfl, q23f, q23T, q23x⟩ := h22
  have q23z : 0 ≤ z24 ∧ z24 ≤ 4000 := by have g := e_Has.get q17T (c := cd) (k := 0) (lo := 0) (hi := 4000) (kD_0 hcd) (by decide); unfold emQ at q23x; omega
  refine e_Ok.nrm (q := 31) (st' := [(0, z24)]) rfl rfl ?_
  refine e_Ok.run (t' := (32, [(2, (0, w cd 0)), (0, (1, 1)), (1, (0, op))], [], w21)) 1 rfl ?_
  refine e_Ok.rets rfl rfl ?_
  exact ⟨rfl, (show e_fr (kRt cd) w w21 from e_fr.trans (show e_fr (kRt cd) w w15 from e_fr.trans (show e_fr (kRt cd) w w9 from e_fr.trans (show e_fr (kRt cd) w w2 from e_fr.trans (e_fr.refl w) (e_fr.mono q4f (fun c k q => by first | exact su_dn_21 q | (unfold kRa at q; unfold kRt; omega)))) (e_fr.mono q11f (fun c k q => by first | exact su_dn_20 q | (unfold kRx at q; unfold kRt; omega)))) (e_fr.mono q17f (fun c k q => by first | exact su_dn_22 q | (unfold kRk at q; unfold kRt; omega)))) (e_fr.mono q23f (fun c k q => by first | exact su_dn_23 q | (unfold kEm at q; unfold kRt; omega)))), ⟨q23T, (show e_Has kRy w21 from H_fr q23f (fun c k g => by unfold kEm at g; omega) q17H), ((q23f 1 3 (by unfold kEm; omega)).trans ((q17f 1 3 no_dn_0).trans ((q11f 1 3 (by unfold kRx; omega)).trans ((q4f 1 3 no_dn_1).trans hc)))), hcd, (show tkR w21 from (q17k.fr q23f (fun k g => by unfold kEm; omega)))⟩, ⟨(by have g1 : w21 1 11 = o := ((q23f 1 11 (by unfold kEm; omega)).trans ((q17f 1 11 no_dn_2).trans (q11o.trans ((q4f 1 11 no_dn_3).trans ho)))); have g0 : w 1 11 = o := ho; omega), (by have g1 : w21 1 12 = w 1 12 := ((q23f 1 12 (by unfold kEm; omega)).trans ((q17f 1 12 no_dn_4).trans ((q11f 1 12 (by unfold kRx; omega)).trans ((q4f 1 12 no_dn_5).trans rfl)))); have g0 : w 1 12 = w 1 12 := rfl; omega), (by have g1 : w21 1 13 = w 1 13 := ((q23f 1 13 (by unfold kEm; omega)).trans ((q17f 1 13 no_dn_6).trans ((q11f 1 13 (by unfold kRx; omega)).trans ((q4f 1 13 no_dn_7).trans rfl)))); have g0 : w 1 13 = w 1 13 := rfl; omega)⟩, (show gS w w21 cd ((-3) + 1) 1 0 0 0 from gS.wn hcd (show zS w w15 cd (-3) (-1) from zS.trans (show zS w w9 cd (-2) (-1) from zS.trans (show zS w w2 cd (-2) (-1) from zS.trans (show zS w w cd 0 (-1) from zS.refl pL.1) (show zS w w2 cd (-2) (-1) from zS.adv hcd ((e_Has.get hT (c := cd) (k := 0) (lo := 0) (hi := 4000) (kD_0 hcd) (by decide)).1) q4f q4x (hk.a2 (by omega))) (by omega) (by omega) (by omega) (by omega)) (show zS w2 w9 cd 0 (-1) from q11x) (by omega) (by omega) (by omega) (by omega)) (show zS w9 w15 cd (-1) (-1) from zS.acc hcd ((e_Has.get q11T (c := cd) (k := 0) (lo := 0) (hi := 4000) (kD_0 hcd) (by decide)).1) q17f q17x (fun g => q11k.a1 (by omega))) (by omega) (by omega) (by omega) (by omega)) q23f q23x (show w cd 0 = w cd 0 from rfl) (by omega) ((e_Has.get q17T (c := cd) (k := 0) (lo := 0) (hi := 4000) (kD_0 hcd) (by decide)).1)).le (by omega)⟩
set_option maxHeartbeats 4000000 in
theorem c_148 {d : Nat} (hd : 281 ≤ d) {w : eW} {cd o : Int} (hS : rS w cd) (ho : w 1 11 = o) (hor : 0 ≤ o ∧ o ≤ 30) {op : Int} (g_op : 33 ≤ op ∧ op ≤ 34) (h5 : 24 ≤ w 1 5 ∧ w 1 5 ≤ 39) : e_Ok 20 elay kcode eI d 148 (0, [(0, (1, 1)), (1, (0, op))], [], w) (fun r w' => r = [] ∧ gQ w w' cd (-1) 1 0) := by
  obtain ⟨d, rfl⟩ : ∃ e, d = e + 1 := ⟨d - 1, by omega⟩
  obtain ⟨hT, hH, hc, hcd, hk⟩ := hS
  have hcd2 := hcd; unfold isCd at hcd2
  have hcd3 : 2 ≤ cd ∧ cd ≤ 145 := by omega
  have pL := e_Has.get hT (c := cd) (k := 0) (lo := 0) (hi := 4000) (kD_0 hcd) (by decide)
  have p1 := e_Has.get hH (c := 1) (k := 1) (lo := (-2147483648)) (hi := 2147483647) rfl (by decide)
  have p5 := e_Has.get hH (c := 1) (k := 5) (lo := 0) (hi := 53) rfl (by decide)
  have p6 := e_Has.get hH (c := 1) (k := 6) (lo := 0) (hi := 4000) rfl (by decide)
  have p9 := e_Has.get hH (c := 1) (k := 9) (lo := (-2147483648)) (hi := 2147483647) rfl (by decide)
  have p7 := e_Has.get hH (c := 1) (k := 7) (lo := 0) (hi := 4000) rfl (by decide)
  have p12 := e_Has.get hH (c := 1) (k := 12) (lo := 0) (hi := 30) rfl (by decide)
  have p13 := e_Has.get hH (c := 1) (k := 13) (lo := (-1)) (hi := 4000) rfl (by decide)
  refine e_Ok.ps1 (x := (1, 1)) (q := 1) 1 rfl ?_
  refine e_Ok.callV rfl (e_dq hd rfl) rfl rfl rfl rfl (c_123 (e_dq hd rfl) hT hH hk.1.2) (fun r1 w2 h3 => ?_)
  obtain ⟨rfl, q4f, q4T, q4H, q4k, q4x, q44⟩ := h3
  refine e_Ok.nrm (q := 4) (st' := []) rfl rfl ?_
  refine e_Ok.ps1 (x := (1, 1)) (q := 5) 1 rfl ?_
  have h8 := (e_Has.get q4H (c := 1) (k := 6) (lo := 0) (hi := 4000) rfl (by decide))
  refine e_Ok.getf (z := w2 1 6) rfl (el_o rfl) rfl rfl rfl (e_bq h8 (by decide) (by decide)) ?_
  refine e_Ok.run (t' := (11, [(2, (0, w2 1 6)), (0, (1, 1)), (1, (0, op))], [(0, 1), (1, 1)], w2)) 3 rfl ?_
  refine e_Ok.callV rfl (e_dq hd rfl) rfl rfl rfl rfl (c_129 (e_dq hd rfl) q4T q4H q4k (by omega)) (fun r9 w10 h11 => ?_)
  obtain ⟨rfl, q12f, q12T, q12H, q12k, q12x⟩ := h11
  refine e_Ok.nrm (q := 14) (st' := []) rfl rfl ?_
  refine e_Ok.ps2 (x := (0, 19)) (y := (1, 1)) (q := 17) 2 rfl ?_
  refine e_Ok.callV rfl (e_dq hd rfl) rfl rfl rfl rfl (c_129 (e_dq hd rfl) q12T q12H q12k (by omega)) (fun r16 w17 h18 => ?_)
  obtain ⟨rfl, q19f, q19T, q19H, q19k, q19x⟩ := h18
  refine e_Ok.nrm (q := 20) (st' := []) rfl rfl ?_
  refine e_Ok.ps1 (x := (1, 1)) (q := 21) 1 rfl ?_
  refine e_Ok.getr (z := cd) rfl (el_o rfl) rfl rfl ((q19f 1 3 no_dn_0).trans ((q12f 1 3 no_dn_0).trans ((q4f 1 3 no_dn_1).trans hc))) (by omega) ?_
  refine e_Ok.ps2 (x := (0, w2 1 6)) (y := (0, op)) (q := 26) 2 rfl ?_
  refine e_Ok.callV rfl (e_dq hd rfl) rfl (lD0 hcd) rfl rfl (c_21 q19T hcd (by omega) (by omega)) (fun r23 w24 h25 => ?_)
  obtain ⟨z27, rfl, q26f, q26T, q26x⟩ := h25
  have q26z : 0 ≤ z27 ∧ z27 ≤ 4000 := by have g := e_Has.get q19T (c := cd) (k := 0) (lo := 0) (hi := 4000) (kD_0 hcd) (by decide); unfold emQ at q26x; omega
  refine e_Ok.nrm (q := 29) (st' := [(0, z27)]) rfl rfl ?_
  refine e_Ok.run (t' := (30, [(2, (0, w2 1 6)), (0, (1, 1)), (1, (0, op))], [], w24)) 1 rfl ?_
  refine e_Ok.rets rfl rfl ?_
  exact ⟨rfl, (e_fr.mono (show e_fr (kRx cd) w w24 from e_fr.trans (show e_fr (kRx cd) w w17 from e_fr.trans (show e_fr (kRx cd) w w10 from e_fr.trans (show e_fr (kRx cd) w w2 from e_fr.trans (e_fr.refl w) (e_fr.mono q4f (fun c k q => by first | exact su_dn_17 q | (unfold kRa at q; unfold kRx; omega)))) (e_fr.mono q12f (fun c k q => by first | exact su_dn_18 q | (unfold kRk at q; unfold kRx; omega)))) (e_fr.mono q19f (fun c k q => by first | exact su_dn_18 q | (unfold kRk at q; unfold kRx; omega)))) (e_fr.mono q26f (fun c k q => by first | exact su_dn_19 q | (unfold kEm at q; unfold kRx; omega)))) (fun c k q => by first | exact su_dn_20 q | (unfold kRx at q; unfold kRt; omega))), ⟨q26T, (show e_Has kRy w24 from H_fr q26f (fun c k g => by unfold kEm at g; omega) q19H), ((q26f 1 3 (by unfold kEm; omega)).trans ((q19f 1 3 no_dn_0).trans ((q12f 1 3 no_dn_0).trans ((q4f 1 3 no_dn_1).trans hc)))), hcd, (show tkR w24 from (q19k.fr q26f (fun k g => by unfold kEm; omega)))⟩, ⟨(by have g1 : w24 1 11 = o := ((q26f 1 11 (by unfold kEm; omega)).trans ((q19f 1 11 no_dn_2).trans ((q12f 1 11 no_dn_2).trans ((q4f 1 11 no_dn_3).trans ho)))); have g0 : w 1 11 = o := ho; omega), (by have g1 : w24 1 12 = w 1 12 := ((q26f 1 12 (by unfold kEm; omega)).trans ((q19f 1 12 no_dn_4).trans ((q12f 1 12 no_dn_4).trans ((q4f 1 12 no_dn_5).trans rfl)))); have g0 : w 1 12 = w 1 12 := rfl; omega), (by have g1 : w24 1 13 = w 1 13 := ((q26f 1 13 (by unfold kEm; omega)).trans ((q19f 1 13 no_dn_6).trans ((q12f 1 13 no_dn_6).trans ((q4f 1 13 no_dn_7).trans rfl)))); have g0 : w 1 13 = w 1 13 := rfl; omega)⟩, (show gS w w24 cd (-3) 1 0 0 0 from gS.trans (show gS w w17 cd (-4) 1 0 1 0 from gS.trans (show gS w w10 cd (-3) 1 0 1 0 from gS.trans (show gS w w2 cd (-2) 1 0 1 0 from gS.trans (show gS w w cd 0 1 0 1 0 from gS.refl pL.1) (show gS w w2 cd (-2) 1 0 1 0 from gS.adv hcd ((e_Has.get hT (c := cd) (k := 0) (lo := 0) (hi := 4000) (kD_0 hcd) (by decide)).1) (by omega) q4f q4x (hk.a2 (by omega))) (by omega)) (show gS w2 w10 cd (-1) 1 0 1 0 from gS.acc hcd ((e_Has.get q4T (c := cd) (k := 0) (lo := 0) (hi := 4000) (kD_0 hcd) (by decide)).1) (by omega) q12f q12x (fun g => q4k.a1 (by omega))) (by omega)) (show gS w10 w17 cd (-1) 1 0 1 0 from gS.acc hcd ((e_Has.get q12T (c := cd) (k := 0) (lo := 0) (hi := 4000) (kD_0 hcd) (by decide)).1) (by omega) q19f q19x (fun g => q12k.a1 (by omega))) (by omega)) (show gS w17 w24 cd 1 1 0 0 0 from gS.act hcd ((e_Has.get q19T (c := cd) (k := 0) (lo := 0) (hi := 4000) (kD_0 hcd) (by decide)).1) q26f q26x (by omega) (by omega) (by omega) (by omega)) (by omega)).le (by omega)⟩
theorem no_dn_8 : ¬ kRc 1 5 := by unfold kRc; omega
theorem no_dn_9 : ¬ kRc 1 3 := by unfold kRc; omega
theorem no_dn_10 : ¬ kRc 1 11 := by unfold kRc; omega
theorem no_dn_11 : ¬ kRc 1 12 := by unfold kRc; omega
theorem no_dn_12 : ¬ kRc 1 13 := by unfold kRc; omega
theorem su_dn_24 {cd : Int} {c k : Int} (q : kRc c k) : kRx cd c k := by
  unfold kRc at q
  rcases q with ⟨q, (q | q)⟩
  · exact Or.inl ⟨(by omega), Or.inr (Or.inr ⟨(by omega), (by omega)⟩)⟩
  · exact Or.inl ⟨(by omega), Or.inr (Or.inr ⟨(by omega), (by omega)⟩)⟩
set_option maxHeartbeats 4000000 in
theorem c_149 {d : Nat} (hd : 281 ≤ d) {w : eW} {cd o : Int} (hS : rS w cd) (ho : w 1 11 = o) (hor : 0 ≤ o ∧ o ≤ 30) (h5 : w 1 5 = 1) : e_Ok 20 elay kcode eI d 149 (0, [(0, (1, 1))], [], w) (fun r w' => r = [] ∧ gQ w w' cd (-1) 1 0) := by
  obtain ⟨d, rfl⟩ : ∃ e, d = e + 1 := ⟨d - 1, by omega⟩
  obtain ⟨hT, hH, hc, hcd, hk⟩ := hS
  have hcd2 := hcd; unfold isCd at hcd2
  have hcd3 : 2 ≤ cd ∧ cd ≤ 145 := by omega
  have pL := e_Has.get hT (c := cd) (k := 0) (lo := 0) (hi := 4000) (kD_0 hcd) (by decide)
  have p1 := e_Has.get hH (c := 1) (k := 1) (lo := (-2147483648)) (hi := 2147483647) rfl (by decide)
  have p5 := e_Has.get hH (c := 1) (k := 5) (lo := 0) (hi := 53) rfl (by decide)
  have p6 := e_Has.get hH (c := 1) (k := 6) (lo := 0) (hi := 4000) rfl (by decide)
  have p9 := e_Has.get hH (c := 1) (k := 9) (lo := (-2147483648)) (hi := 2147483647) rfl (by decide)
  have p7 := e_Has.get hH (c := 1) (k := 7) (lo := 0) (hi := 4000) rfl (by decide)
  have p12 := e_Has.get hH (c := 1) (k := 12) (lo := 0) (hi := 30) rfl (by decide)
  have p13 := e_Has.get hH (c := 1) (k := 13) (lo := (-1)) (hi := 4000) rfl (by decide)
  refine e_Ok.ps1 (x := (1, 1)) (q := 1) 1 rfl ?_
  refine e_Ok.callV rfl (e_dq hd rfl) rfl rfl rfl rfl (c_137 (e_dq hd rfl) hT hH hk hc hcd) (fun r1 w2 h3 => ?_)
  obtain ⟨z5, rfl, q4f, q4T, q4H, q4k, q4x, q4r⟩ := h3
  refine e_Ok.nrm (q := 4) (st' := [(0, z5)]) rfl rfl ?_
  refine e_Ok.run (t' := (6, [(1, (0, z5)), (0, (1, 1))], [(1, 1)], w2)) 2 rfl ?_
  refine e_Ok.callV rfl (e_dq hd rfl) rfl rfl rfl rfl (c_123 (e_dq hd rfl) q4T q4H q4k.1.2) (fun r9 w10 h11 => ?_)
  obtain ⟨rfl, q12f, q12T, q12H, q12k, q12x, q124⟩ := h11
  have k14 : w2 1 5 = w 1 5 := ((q4f 1 5 no_dn_8).trans rfl)
  refine e_Ok.nrm (q := 9) (st' := []) rfl rfl ?_
  refine e_Ok.ps2 (x := (0, 13)) (y := (1, 1)) (q := 12) 2 rfl ?_
  refine e_Ok.callV rfl (e_dq hd rfl) rfl rfl rfl rfl (c_129 (e_dq hd rfl) q12T q12H q12k (by omega)) (fun r17 w18 h19 => ?_)
  obtain ⟨rfl, q20f, q20T, q20H, q20k, q20x⟩ := h19
  refine e_Ok.nrm (q := 15) (st' := []) rfl rfl ?_
  refine e_Ok.ps1 (x := (1, 1)) (q := 16) 1 rfl ?_
  refine e_Ok.callV rfl (e_dq hd rfl) rfl rfl rfl rfl (x_exp (o := o) (by omega) (by omega) w18 cd ⟨q20T, q20H, ((q20f 1 3 no_dn_0).trans ((q12f 1 3 no_dn_1).trans ((q4f 1 3 no_dn_9).trans hc))), hcd, q20k⟩ ((q20f 1 11 no_dn_2).trans ((q12f 1 11 no_dn_3).trans ((q4f 1 11 no_dn_10).trans ho)))) (fun r24 w25 h26 => ?_)
  obtain ⟨rfl, q27f, ⟨q27T, q27H, q27c, -, q27k⟩, q27o, q27x⟩ := h26
  refine e_Ok.nrm (q := 19) (st' := []) rfl rfl ?_
  refine e_Ok.ps2 (x := (0, 19)) (y := (1, 1)) (q := 22) 2 rfl ?_
  refine e_Ok.callV rfl (e_dq hd rfl) rfl rfl rfl rfl (c_129 (e_dq hd rfl) q27T q27H q27k (by omega)) (fun r31 w32 h33 => ?_)
  obtain ⟨rfl, q34f, q34T, q34H, q34k, q34x⟩ := h33
  refine e_Ok.nrm (q := 25) (st' := []) rfl rfl ?_
  refine e_Ok.ps1 (x := (1, 1)) (q := 26) 1 rfl ?_
  refine e_Ok.getr (z := cd) rfl (el_o rfl) rfl rfl ((q34f 1 3 no_dn_0).trans ((q27f 1 3 (by unfold kRx; omega)).trans ((q20f 1 3 no_dn_0).trans ((q12f 1 3 no_dn_1).trans ((q4f 1 3 no_dn_9).trans hc))))) (by omega) ?_
  refine e_Ok.ps2 (x := (0, z5)) (y := (0, 25)) (q := 32) 2 rfl ?_
  refine e_Ok.callV rfl (e_dq hd rfl) rfl (lD0 hcd) rfl rfl (c_21 q34T hcd (by omega) (by omega)) (fun r38 w40 h41 => ?_)
  obtain ⟨z43, rfl, q42f, q42T, q42x⟩ := h41
  have q42z : 0 ≤ z43 ∧ z43 ≤ 4000 := by have g := e_Has.get q34T (c := cd) (k := 0) (lo := 0) (hi := 4000) (kD_0 hcd) (by decide); unfold emQ at q42x; omega
  refine e_Ok.nrm (q := 35) (st' := [(0, z43)]) rfl rfl ?_
  refine e_Ok.run (t' := (36, [(1, (0, z5)), (0, (1, 1))], [], w40)) 1 rfl ?_
  refine e_Ok.rets rfl rfl ?_
  exact ⟨rfl, (e_fr.mono (show e_fr (kRx cd) w w40 from e_fr.trans (show e_fr (kRx cd) w w32 from e_fr.trans (show e_fr (kRx cd) w w25 from e_fr.trans (show e_fr (kRx cd) w w18 from e_fr.trans (show e_fr (kRx cd) w w10 from e_fr.trans (show e_fr (kRx cd) w w2 from e_fr.trans (e_fr.refl w) (e_fr.mono q4f (fun c k q => by first | exact su_dn_24 q | (unfold kRc at q; unfold kRx; omega)))) (e_fr.mono q12f (fun c k q => by first | exact su_dn_17 q | (unfold kRa at q; unfold kRx; omega)))) (e_fr.mono q20f (fun c k q => by first | exact su_dn_18 q | (unfold kRk at q; unfold kRx; omega)))) (e_fr.mono q27f (fun c k q => by exact q))) (e_fr.mono q34f (fun c k q => by first | exact su_dn_18 q | (unfold kRk at q; unfold kRx; omega)))) (e_fr.mono q42f (fun c k q => by first | exact su_dn_19 q | (unfold kEm at q; unfold kRx; omega)))) (fun c k q => by first | exact su_dn_20 q | (unfold kRx at q; unfold kRt; omega))), ⟨q42T, (show e_Has kRy w40 from H_fr q42f (fun c k g => by unfold kEm at g; omega) q34H), ((q42f 1 3 (by unfold kEm; omega)).trans ((q34f 1 3 no_dn_0).trans ((q27f 1 3 (by unfold kRx; omega)).trans ((q20f 1 3 no_dn_0).trans ((q12f 1 3 no_dn_1).trans ((q4f 1 3 no_dn_9).trans hc)))))), hcd, (show tkR w40 from (q34k.fr q42f (fun k g => by unfold kEm; omega)))⟩, ⟨(by have g1 : w40 1 11 = o := ((q42f 1 11 (by unfold kEm; omega)).trans ((q34f 1 11 no_dn_2).trans (q27o.trans ((q20f 1 11 no_dn_2).trans ((q12f 1 11 no_dn_3).trans ((q4f 1 11 no_dn_10).trans ho)))))); have g0 : w 1 11 = o := ho; omega), (by have g1 : w40 1 12 = w 1 12 := ((q42f 1 12 (by unfold kEm; omega)).trans ((q34f 1 12 no_dn_4).trans ((q27f 1 12 (by unfold kRx; omega)).trans ((q20f 1 12 no_dn_4).trans ((q12f 1 12 no_dn_5).trans ((q4f 1 12 no_dn_11).trans rfl)))))); have g0 : w 1 12 = w 1 12 := rfl; omega), (by have g1 : w40 1 13 = w 1 13 := ((q42f 1 13 (by unfold kEm; omega)).trans ((q34f 1 13 no_dn_6).trans ((q27f 1 13 (by unfold kRx; omega)).trans ((q20f 1 13 no_dn_6).trans ((q12f 1 13 no_dn_7).trans ((q4f 1 13 no_dn_12).trans rfl)))))); have g0 : w 1 13 = w 1 13 := rfl; omega)⟩, (show gS w w40 cd (-2) 1 0 0 0 from gS.trans (show gS w w32 cd (-3) 1 0 1 0 from gS.trans (show gS w w25 cd (-2) 1 0 1 0 from gS.trans (show gS w w18 cd (-2) 1 0 1 0 from gS.trans (show gS w w10 cd (-1) 1 0 1 0 from gS.trans (show gS w w2 cd 0 1 0 1 0 from gS.trans (show gS w w cd 0 1 0 1 0 from gS.refl pL.1) (show gS w w2 cd 0 1 0 1 0 from gS.cmp hcd ((e_Has.get hT (c := cd) (k := 0) (lo := 0) (hi := 4000) (kD_0 hcd) (by decide)).1) (by omega) q4f q4x) (by omega)) (show gS w2 w10 cd (-1) 1 0 1 0 from gS.adv hcd ((e_Has.get q4T (c := cd) (k := 0) (lo := 0) (hi := 4000) (kD_0 hcd) (by decide)).1) (by omega) q12f q12x (q4k.a1 (by omega))) (by omega)) (show gS w10 w18 cd (-1) 1 0 1 0 from gS.acc hcd ((e_Has.get q12T (c := cd) (k := 0) (lo := 0) (hi := 4000) (kD_0 hcd) (by decide)).1) (by omega) q20f q20x (fun g => q12k.a1 (by omega))) (by omega)) (show gS w18 w25 cd 0 1 0 1 0 from gS.ex q27x) (by omega)) (show gS w25 w32 cd (-1) 1 0 1 0 from gS.acc hcd ((e_Has.get q27T (c := cd) (k := 0) (lo := 0) (hi := 4000) (kD_0 hcd) (by decide)).1) (by omega) q34f q34x (fun g => q27k.a1 (by omega))) (by omega)) (show gS w32 w40 cd 1 1 0 0 0 from gS.act hcd ((e_Has.get q34T (c := cd) (k := 0) (lo := 0) (hi := 4000) (kD_0 hcd) (by decide)).1) q42f q42x (by omega) (by omega) (by omega) (by omega)) (by omega)).le (by omega)⟩
set_option maxHeartbeats 4000000 in
theorem c_150 {d : Nat} (hd : 281 ≤ d) {w : eW} {cd o : Int} (hS : rS w cd) (ho : w 1 11 = o) (hor : 0 ≤ o ∧ o ≤ 30) (h5 : w 1 5 = 24) : e_Ok 20 elay kcode eI d 150 (0, [(0, (1, 1))], [], w) (fun r w' => r = [] ∧ gQ w w' cd (-1) 1 0) := by
  obtain ⟨d, rfl⟩ : ∃ e, d = e + 1 := ⟨d - 1, by omega⟩
  obtain ⟨hT, hH, hc, hcd, hk⟩ := hS
  have hcd2 := hcd; unfold isCd at hcd2
  have hcd3 : 2 ≤ cd ∧ cd ≤ 145 := by omega
  have pL := e_Has.get hT (c := cd) (k := 0) (lo := 0) (hi := 4000) (kD_0 hcd) (by decide)
  have p1 := e_Has.get hH (c := 1) (k := 1) (lo := (-2147483648)) (hi := 2147483647) rfl (by decide)
  have p5 := e_Has.get hH (c := 1) (k := 5) (lo := 0) (hi := 53) rfl (by decide)
  have p6 := e_Has.get hH (c := 1) (k := 6) (lo := 0) (hi := 4000) rfl (by decide)
  have p9 := e_Has.get hH (c := 1) (k := 9) (lo := (-2147483648)) (hi := 2147483647) rfl (by decide)
  have p7 := e_Has.get hH (c := 1) (k := 7) (lo := 0) (hi := 4000) rfl (by decide)
  have p12 := e_Has.get hH (c := 1) (k := 12) (lo := 0) (hi := 30) rfl (by decide)
  have p13 := e_Has.get hH (c := 1) (k := 13) (lo := (-1)) (hi := 4000) rfl (by decide)
  refine e_Ok.ps1 (x := (1, 1)) (q := 1) 1 rfl ?_
  refine e_Ok.callV rfl (e_dq hd rfl) rfl rfl rfl rfl (c_123 (e_dq hd rfl) hT hH hk.1.2) (fun r1 w2 h3 => ?_)
  obtain ⟨rfl, q4f, q4T, q4H, q4k, q4x, q44⟩ := h3
  refine e_Ok.nrm (q := 4) (st' := []) rfl rfl ?_
  refine e_Ok.ps1 (x := (1, 1)) (q := 5) 1 rfl ?_
  refine e_Ok.callV rfl (e_dq hd rfl) rfl rfl rfl rfl (x_exp (o := o) (by omega) (by omega) w2 cd ⟨q4T, q4H, ((q4f 1 3 no_dn_1).trans hc), hcd, q4k⟩ ((q4f 1 11 no_dn_3).trans ho)) (fun r8 w9 h10 => ?_)
  obtain ⟨rfl, q11f, ⟨q11T, q11H, q11c, -, q11k⟩, q11o, q11x⟩ := h10
  refine e_Ok.nrm (q := 8) (st' := []) rfl rfl ?_
  refine e_Ok.ps1 (x := (1, 1)) (q := 9) 1 rfl ?_
  refine e_Ok.getr (z := cd) rfl (el_o rfl) rfl rfl ((q11f 1 3 (by unfold kRx; omega)).trans ((q4f 1 3 no_dn_1).trans hc)) (by omega) ?_
  refine e_Ok.ps2 (x := (0, 0)) (y := (0, 26)) (q := 15) 2 rfl ?_
  refine e_Ok.callV rfl (e_dq hd rfl) rfl (lD0 hcd) rfl rfl (c_21 q11T hcd (by omega) (by omega)) (fun r15 w16 h17 => ?_)
  obtain ⟨z19, rfl, q18f, q18T, q18x⟩ := h17
  have q18z : 0 ≤ z19 ∧ z19 ≤ 4000 := by have g := e_Has.get q11T (c := cd) (k := 0) (lo := 0) (hi := 4000) (kD_0 hcd) (by decide); unfold emQ at q18x; omega
  refine e_Ok.nrm (q := 18) (st' := [(0, z19)]) rfl rfl ?_
  refine e_Ok.run (t' := (21, [(1, (0, 1)), (0, (1, 1))], [], w16)) 3 rfl ?_
  have hL23 : ∀ (nn : Nat) (y1 : Int) (v1 : eW), e_fr (kRx cd) w v1 ∧ e_Has kTy v1 ∧ e_Has kRy v1 ∧ v1 1 11 = o ∧ tkR v1 ∧ gS w v1 cd (-1) 1 0 1 y1 ∧ ((1 ≤ y1 ∧ y1 ≤ 4000)) → 4001 - y1 < nn → e_Ok 20 elay kcode eI (d + 1) 150 (21, [(0, (1, 1)), (1, (0, y1))], [], v1) (fun r w' => r = [] ∧ gQ w w' cd (-1) 1 0) := by
    intro nn
    induction nn with
    | zero => intro y1 v1 hj hm; obtain ⟨j25, j26, j27, j28, j29, j30, j31⟩ := hj; exfalso; omega
    | succ nn ih24 =>
      intro y1 v1 hj hm
      obtain ⟨j25, j26, j27, j28, j29, j30, j31⟩ := hj
      refine e_Ok.run (t' := (25, [(0, (1, 1)), (1, (0, y1))], [(0, 4000), (0, y1)], v1)) 2 rfl ?_
      refine e_Ok.if2 rfl (fun h32 => ?_) (fun h32 => ?_)
      · replace h32 : (y1 : Int) ≥ 4000 := h32
        refine e_Ok.ps2 (x := (0, 19)) (y := (1, 1)) (q := 65) 2 rfl ?_
        refine e_Ok.callV rfl (e_dq hd rfl) rfl rfl rfl rfl (c_129 (e_dq hd rfl) j26 j27 j29 (by omega)) (fun r33 w34 h35 => ?_)
        obtain ⟨rfl, q36f, q36T, q36H, q36k, q36x⟩ := h35
        refine e_Ok.nrm (q := 68) (st' := []) rfl rfl ?_
        refine e_Ok.ps1 (x := (1, 1)) (q := 69) 1 rfl ?_
        refine e_Ok.getr (z := cd) rfl (el_o rfl) rfl rfl ((q36f 1 3 no_dn_0).trans ((j25 1 3 (by unfold kRx; omega)).trans hc)) (by omega) ?_
        refine e_Ok.ps2 (x := (0, y1)) (y := (0, 27)) (q := 75) 2 rfl ?_
        refine e_Ok.callV rfl (e_dq hd rfl) rfl (lD0 hcd) rfl rfl (c_21 q36T hcd (by omega) (by omega)) (fun r41 w42 h43 => ?_)
        obtain ⟨z45, rfl, q44f, q44T, q44x⟩ := h43
        have q44z : 0 ≤ z45 ∧ z45 ≤ 4000 := by have g := e_Has.get q36T (c := cd) (k := 0) (lo := 0) (hi := 4000) (kD_0 hcd) (by decide); unfold emQ at q44x; omega
        refine e_Ok.nrm (q := 78) (st' := [(0, z45)]) rfl rfl ?_
        refine e_Ok.run (t' := (79, [(0, (1, 1)), (1, (0, y1))], [], w42)) 1 rfl ?_
        refine e_Ok.rets rfl rfl ?_
        exact ⟨rfl, (e_fr.mono (show e_fr (kRx cd) w w42 from e_fr.trans (show e_fr (kRx cd) w w34 from e_fr.trans j25 (e_fr.mono q36f (fun c k q => by first | exact su_dn_18 q | (unfold kRk at q; unfold kRx; omega)))) (e_fr.mono q44f (fun c k q => by first | exact su_dn_19 q | (unfold kEm at q; unfold kRx; omega)))) (fun c k q => by first | exact su_dn_20 q | (unfold kRx at q; unfold kRt; omega))), ⟨q44T, (show e_Has kRy w42 from H_fr q44f (fun c k g => by unfold kEm at g; omega) q36H), ((q44f 1 3 (by unfold kEm; omega)).trans ((q36f 1 3 no_dn_0).trans ((j25 1 3 (by unfold kRx; omega)).trans hc))), hcd, (show tkR w42 from (q36k.fr q44f (fun k g => by unfold kEm; omega)))⟩, ⟨(by have g1 : w42 1 11 = o := ((q44f 1 11 (by unfold kEm; omega)).trans ((q36f 1 11 no_dn_2).trans j28)); have g0 : w 1 11 = o := ho; omega), (by have g1 : w42 1 12 = w 1 12 := ((q44f 1 12 (by unfold kEm; omega)).trans ((q36f 1 12 no_dn_4).trans ((j25 1 12 (by unfold kRx; omega)).trans rfl))); have g0 : w 1 12 = w 1 12 := rfl; omega), (by have g1 : w42 1 13 = w 1 13 := ((q44f 1 13 (by unfold kEm; omega)).trans ((q36f 1 13 no_dn_6).trans ((j25 1 13 (by unfold kRx; omega)).trans rfl))); have g0 : w 1 13 = w 1 13 := rfl; omega)⟩, (show gS w w42 cd (-1) 1 0 0 0 from gS.trans (show gS w w34 cd (-2) 1 0 1 y1 from gS.trans j30 (show gS v1 w34 cd (-1) 1 y1 1 y1 from gS.acc hcd ((e_Has.get j26 (c := cd) (k := 0) (lo := 0) (hi := 4000) (kD_0 hcd) (by decide)).1) (by omega) q36f q36x (fun g => j29.a1 (by omega))) (by omega)) (show gS w34 w42 cd 1 1 y1 0 0 from gS.act hcd ((e_Has.get q36T (c := cd) (k := 0) (lo := 0) (hi := 4000) (kD_0 hcd) (by decide)).1) q44f q44x (by omega) (by omega) (by omega) (by omega)) (by omega)).le (by omega)⟩
      · replace h32 : (y1 : Int) < 4000 := Int.not_le.mp (show ¬ ((y1 : Int) ≥ 4000) from h32)
        refine e_Ok.ps1 (x := (1, 1)) (q := 29) 1 rfl ?_
        have h49 := (e_Has.get j27 (c := 1) (k := 5) (lo := 0) (hi := 53) rfl (by decide))
        refine e_Ok.getf (z := v1 1 5) rfl (el_o rfl) rfl rfl rfl (e_bq h49 (by decide) (by decide)) ?_
        refine e_Ok.ps1 (x := (0, 18)) (q := 34) 1 rfl ?_
        refine e_Ok.if2 rfl (fun h50 => ?_) (fun h50 => ?_)
        · replace h50 : (v1 1 5 : Int) ≠ 18 := h50
          refine e_Ok.ps2 (x := (0, 19)) (y := (1, 1)) (q := 65) 2 rfl ?_
          refine e_Ok.callV rfl (e_dq hd rfl) rfl rfl rfl rfl (c_129 (e_dq hd rfl) j26 j27 j29 (by omega)) (fun r51 w52 h53 => ?_)
          obtain ⟨rfl, q54f, q54T, q54H, q54k, q54x⟩ := h53
          refine e_Ok.nrm (q := 68) (st' := []) rfl rfl ?_
          refine e_Ok.ps1 (x := (1, 1)) (q := 69) 1 rfl ?_
          refine e_Ok.getr (z := cd) rfl (el_o rfl) rfl rfl ((q54f 1 3 no_dn_0).trans ((j25 1 3 (by unfold kRx; omega)).trans hc)) (by omega) ?_
          refine e_Ok.ps2 (x := (0, y1)) (y := (0, 27)) (q := 75) 2 rfl ?_
          refine e_Ok.callV rfl (e_dq hd rfl) rfl (lD0 hcd) rfl rfl (c_21 q54T hcd (by omega) (by omega)) (fun r58 w59 h60 => ?_)
          obtain ⟨z62, rfl, q61f, q61T, q61x⟩ := h60
          have q61z : 0 ≤ z62 ∧ z62 ≤ 4000 := by have g := e_Has.get q54T (c := cd) (k := 0) (lo := 0) (hi := 4000) (kD_0 hcd) (by decide); unfold emQ at q61x; omega
          refine e_Ok.nrm (q := 78) (st' := [(0, z62)]) rfl rfl ?_
          refine e_Ok.run (t' := (79, [(0, (1, 1)), (1, (0, y1))], [], w59)) 1 rfl ?_
          refine e_Ok.rets rfl rfl ?_
          exact ⟨rfl, (e_fr.mono (show e_fr (kRx cd) w w59 from e_fr.trans (show e_fr (kRx cd) w w52 from e_fr.trans j25 (e_fr.mono q54f (fun c k q => by first | exact su_dn_18 q | (unfold kRk at q; unfold kRx; omega)))) (e_fr.mono q61f (fun c k q => by first | exact su_dn_19 q | (unfold kEm at q; unfold kRx; omega)))) (fun c k q => by first | exact su_dn_20 q | (unfold kRx at q; unfold kRt; omega))), ⟨q61T, (show e_Has kRy w59 from H_fr q61f (fun c k g => by unfold kEm at g; omega) q54H), ((q61f 1 3 (by unfold kEm; omega)).trans ((q54f 1 3 no_dn_0).trans ((j25 1 3 (by unfold kRx; omega)).trans hc))), hcd, (show tkR w59 from (q54k.fr q61f (fun k g => by unfold kEm; omega)))⟩, ⟨(by have g1 : w59 1 11 = o := ((q61f 1 11 (by unfold kEm; omega)).trans ((q54f 1 11 no_dn_2).trans j28)); have g0 : w 1 11 = o := ho; omega), (by have g1 : w59 1 12 = w 1 12 := ((q61f 1 12 (by unfold kEm; omega)).trans ((q54f 1 12 no_dn_4).trans ((j25 1 12 (by unfold kRx; omega)).trans rfl))); have g0 : w 1 12 = w 1 12 := rfl; omega), (by have g1 : w59 1 13 = w 1 13 := ((q61f 1 13 (by unfold kEm; omega)).trans ((q54f 1 13 no_dn_6).trans ((j25 1 13 (by unfold kRx; omega)).trans rfl))); have g0 : w 1 13 = w 1 13 := rfl; omega)⟩, (show gS w w59 cd (-1) 1 0 0 0 from gS.trans (show gS w w52 cd (-2) 1 0 1 y1 from gS.trans j30 (show gS v1 w52 cd (-1) 1 y1 1 y1 from gS.acc hcd ((e_Has.get j26 (c := cd) (k := 0) (lo := 0) (hi := 4000) (kD_0 hcd) (by decide)).1) (by omega) q54f q54x (fun g => j29.a1 (by omega))) (by omega)) (show gS w52 w59 cd 1 1 y1 0 0 from gS.act hcd ((e_Has.get q54T (c := cd) (k := 0) (lo := 0) (hi := 4000) (kD_0 hcd) (by decide)).1) q61f q61x (by omega) (by omega) (by omega) (by omega)) (by omega)).le (by omega)⟩
        · replace h50 : (v1 1 5 : Int) = 18 := Classical.not_not.mp (show ¬ ((v1 1 5 : Int) ≠ 18) from h50)
          refine e_Ok.ps1 (x := (1, 1)) (q := 38) 1 rfl ?_
          refine e_Ok.callV rfl (e_dq hd rfl) rfl rfl rfl rfl (c_123 (e_dq hd rfl) j26 j27 j29.1.2) (fun r66 w67 h68 => ?_)
          obtain ⟨rfl, q69f, q69T, q69H, q69k, q69x, q694⟩ := h68
          refine e_Ok.nrm (q := 41) (st' := []) rfl rfl ?_
          refine e_Ok.ps1 (x := (1, 1)) (q := 42) 1 rfl ?_
          refine e_Ok.callV rfl (e_dq hd rfl) rfl rfl rfl rfl (x_exp (o := o) (by omega) (by omega) w67 cd ⟨q69T, q69H, ((q69f 1 3 no_dn_1).trans ((j25 1 3 (by unfold kRx; omega)).trans hc)), hcd, q69k⟩ ((q69f 1 11 no_dn_3).trans j28)) (fun r73 w74 h75 => ?_)
          obtain ⟨rfl, q76f, ⟨q76T, q76H, q76c, -, q76k⟩, q76o, q76x⟩ := h75
          refine e_Ok.nrm (q := 45) (st' := []) rfl rfl ?_
          refine e_Ok.ps1 (x := (1, 1)) (q := 46) 1 rfl ?_
          refine e_Ok.getr (z := cd) rfl (el_o rfl) rfl rfl ((q76f 1 3 (by unfold kRx; omega)).trans ((q69f 1 3 no_dn_1).trans ((j25 1 3 (by unfold kRx; omega)).trans hc))) (by omega) ?_
          refine e_Ok.ps2 (x := (0, y1)) (y := (0, 26)) (q := 52) 2 rfl ?_
          refine e_Ok.callV rfl (e_dq hd rfl) rfl (lD0 hcd) rfl rfl (c_21 q76T hcd (by omega) (by omega)) (fun r80 w81 h82 => ?_)
          obtain ⟨z84, rfl, q83f, q83T, q83x⟩ := h82
          have q83z : 0 ≤ z84 ∧ z84 ≤ 4000 := by have g := e_Has.get q76T (c := cd) (k := 0) (lo := 0) (hi := 4000) (kD_0 hcd) (by decide); unfold emQ at q83x; omega
          refine e_Ok.nrm (q := 55) (st' := [(0, z84)]) rfl rfl ?_
          refine e_Ok.run (t' := (56, [(0, (1, 1)), (1, (0, y1))], [], w81)) 1 rfl ?_
          refine e_Ok.inc (z := y1 + 1) rfl rfl (by first | with_reducible rfl | omega) (by omega) ?_
          show e_Ok 20 elay kcode eI (d + 1) 150 (59, [(1, (0, y1 + 1)), (0, (1, 1))], [], w81) _
          refine e_Ok.ps0 (q := 21) 1 rfl ?_
          refine e_Ok.sub kAlk (e_sub_of rfl ?_) (ih24 (y1 + 1) w81 ⟨(show e_fr (kRx cd) w w81 from e_fr.trans (show e_fr (kRx cd) w w74 from e_fr.trans (show e_fr (kRx cd) w w67 from e_fr.trans j25 (e_fr.mono q69f (fun c k q => by first | exact su_dn_17 q | (unfold kRa at q; unfold kRx; omega)))) (e_fr.mono q76f (fun c k q => by exact q))) (e_fr.mono q83f (fun c k q => by first | exact su_dn_19 q | (unfold kEm at q; unfold kRx; omega)))), q83T, (show e_Has kRy w81 from H_fr q83f (fun c k g => by unfold kEm at g; omega) q76H), ((q83f 1 11 (by unfold kEm; omega)).trans (q76o.trans ((q69f 1 11 no_dn_3).trans j28))), (show tkR w81 from (q76k.fr q83f (fun k g => by unfold kEm; omega))), ((show gS w w81 cd (-1) 1 0 1 (y1 + 1) from gS.trans (show gS w w74 cd (-2) 1 0 1 y1 from gS.trans (show gS w w67 cd (-2) 1 0 1 y1 from gS.trans j30 (show gS v1 w67 cd (-1) 1 y1 1 y1 from gS.adv hcd ((e_Has.get j26 (c := cd) (k := 0) (lo := 0) (hi := 4000) (kD_0 hcd) (by decide)).1) (by omega) q69f q69x (j29.a1 (by omega))) (by omega)) (show gS w67 w74 cd 0 1 y1 1 y1 from gS.ex q76x) (by omega)) (show gS w74 w81 cd 1 1 y1 1 (y1 + 1) from gS.col hcd ((e_Has.get q76T (c := cd) (k := 0) (lo := 0) (hi := 4000) (kD_0 hcd) (by decide)).1) q83f q83x (by omega)) (by omega)).le (by omega)), (by omega)⟩ (by omega))
          exact ⟨rfl, rfl, trivial⟩
  refine e_Ok.sub kAlk (e_sub_of rfl ?_) (hL23 (4001 + 1 : Int).toNat 1 w16 ⟨(show e_fr (kRx cd) w w16 from e_fr.trans (show e_fr (kRx cd) w w9 from e_fr.trans (show e_fr (kRx cd) w w2 from e_fr.trans (e_fr.refl w) (e_fr.mono q4f (fun c k q => by first | exact su_dn_17 q | (unfold kRa at q; unfold kRx; omega)))) (e_fr.mono q11f (fun c k q => by exact q))) (e_fr.mono q18f (fun c k q => by first | exact su_dn_19 q | (unfold kEm at q; unfold kRx; omega)))), q18T, (show e_Has kRy w16 from H_fr q18f (fun c k g => by unfold kEm at g; omega) q11H), ((q18f 1 11 (by unfold kEm; omega)).trans (q11o.trans ((q4f 1 11 no_dn_3).trans ho))), (show tkR w16 from (q11k.fr q18f (fun k g => by unfold kEm; omega))), ((show gS w w16 cd (-1) 1 0 1 1 from gS.trans (show gS w w9 cd (-2) 1 0 1 0 from gS.trans (show gS w w2 cd (-2) 1 0 1 0 from gS.trans (show gS w w cd 0 1 0 1 0 from gS.refl pL.1) (show gS w w2 cd (-2) 1 0 1 0 from gS.adv hcd ((e_Has.get hT (c := cd) (k := 0) (lo := 0) (hi := 4000) (kD_0 hcd) (by decide)).1) (by omega) q4f q4x (hk.a2 (by omega))) (by omega)) (show gS w2 w9 cd 0 1 0 1 0 from gS.ex q11x) (by omega)) (show gS w9 w16 cd 1 1 0 1 1 from gS.col hcd ((e_Has.get q11T (c := cd) (k := 0) (lo := 0) (hi := 4000) (kD_0 hcd) (by decide)).1) q18f q18x (by omega)) (by omega)).le (by omega)), (by omega)⟩ (by omega))
  exact ⟨rfl, rfl, trivial⟩
set_option maxHeartbeats 4000000 in
theorem c_151 {d : Nat} (hd : 281 ≤ d) {w : eW} {cd o : Int} (hS : rS w cd) (ho : w 1 11 = o) (hor : 0 ≤ o ∧ o ≤ 30) (h5 : w 1 5 = 27) : e_Ok 20 elay kcode eI d 151 (0, [(0, (1, 1))], [], w) (fun r w' => r = [] ∧ gQ w w' cd (-1) 1 0) := by
  obtain ⟨d, rfl⟩ : ∃ e, d = e + 1 := ⟨d - 1, by omega⟩
  obtain ⟨hT, hH, hc, hcd, hk⟩ := hS
  have hcd2 := hcd; unfold isCd at hcd2
  have hcd3 : 2 ≤ cd ∧ cd ≤ 145 := by omega
  have pL := e_Has.get hT (c := cd) (k := 0) (lo := 0) (hi := 4000) (kD_0 hcd) (by decide)
  have p1 := e_Has.get hH (c := 1) (k := 1) (lo := (-2147483648)) (hi := 2147483647) rfl (by decide)
  have p5 := e_Has.get hH (c := 1) (k := 5) (lo := 0) (hi := 53) rfl (by decide)
  have p6 := e_Has.get hH (c := 1) (k := 6) (lo := 0) (hi := 4000) rfl (by decide)
  have p9 := e_Has.get hH (c := 1) (k := 9) (lo := (-2147483648)) (hi := 2147483647) rfl (by decide)
  have p7 := e_Has.get hH (c := 1) (k := 7) (lo := 0) (hi := 4000) rfl (by decide)
  have p12 := e_Has.get hH (c := 1) (k := 12) (lo := 0) (hi := 30) rfl (by decide)
  have p13 := e_Has.get hH (c := 1) (k := 13) (lo := (-1)) (hi := 4000) rfl (by decide)
  refine e_Ok.ps1 (x := (1, 1)) (q := 1) 1 rfl ?_
  refine e_Ok.callV rfl (e_dq hd rfl) rfl rfl rfl rfl (c_123 (e_dq hd rfl) hT hH hk.1.2) (fun r1 w2 h3 => ?_)
  obtain ⟨rfl, q4f, q4T, q4H, q4k, q4x, q44⟩ := h3
  refine e_Ok.nrm (q := 4) (st' := []) rfl rfl ?_
  refine e_Ok.ps1 (x := (1, 1)) (q := 5) 1 rfl ?_
  refine e_Ok.callV rfl (e_dq hd rfl) rfl rfl rfl rfl (x_exp (o := o) (by omega) (by omega) w2 cd ⟨q4T, q4H, ((q4f 1 3 no_dn_1).trans hc), hcd, q4k⟩ ((q4f 1 11 no_dn_3).trans ho)) (fun r8 w9 h10 => ?_)
  obtain ⟨rfl, q11f, ⟨q11T, q11H, q11c, -, q11k⟩, q11o, q11x⟩ := h10
  refine e_Ok.nrm (q := 8) (st' := []) rfl rfl ?_
  refine e_Ok.ps2 (x := (0, 18)) (y := (1, 1)) (q := 11) 2 rfl ?_
  refine e_Ok.callV rfl (e_dq hd rfl) rfl rfl rfl rfl (c_129 (e_dq hd rfl) q11T q11H q11k (by omega)) (fun r15 w16 h17 => ?_)
  obtain ⟨rfl, q18f, q18T, q18H, q18k, q18x⟩ := h17
  refine e_Ok.nrm (q := 14) (st' := []) rfl rfl ?_
  refine e_Ok.ps1 (x := (1, 1)) (q := 15) 1 rfl ?_
  refine e_Ok.callV rfl (e_dq hd rfl) rfl rfl rfl rfl (x_exp (o := o) (by omega) (by omega) w16 cd ⟨q18T, q18H, ((q18f 1 3 no_dn_0).trans ((q11f 1 3 (by unfold kRx; omega)).trans ((q4f 1 3 no_dn_1).trans hc))), hcd, q18k⟩ ((q18f 1 11 no_dn_2).trans (q11o.trans ((q4f 1 11 no_dn_3).trans ho)))) (fun r22 w23 h24 => ?_)
  obtain ⟨rfl, q25f, ⟨q25T, q25H, q25c, -, q25k⟩, q25o, q25x⟩ := h24
  refine e_Ok.nrm (q := 18) (st' := []) rfl rfl ?_
  refine e_Ok.ps2 (x := (0, 19)) (y := (1, 1)) (q := 21) 2 rfl ?_
  refine e_Ok.callV rfl (e_dq hd rfl) rfl rfl rfl rfl (c_129 (e_dq hd rfl) q25T q25H q25k (by omega)) (fun r29 w30 h31 => ?_)
  obtain ⟨rfl, q32f, q32T, q32H, q32k, q32x⟩ := h31
  refine e_Ok.nrm (q := 24) (st' := []) rfl rfl ?_
  refine e_Ok.ps1 (x := (1, 1)) (q := 25) 1 rfl ?_
  refine e_Ok.getr (z := cd) rfl (el_o rfl) rfl rfl ((q32f 1 3 no_dn_0).trans ((q25f 1 3 (by unfold kRx; omega)).trans ((q18f 1 3 no_dn_0).trans ((q11f 1 3 (by unfold kRx; omega)).trans ((q4f 1 3 no_dn_1).trans hc))))) (by omega) ?_
  refine e_Ok.ps2 (x := (0, 0)) (y := (0, 30)) (q := 31) 2 rfl ?_
  refine e_Ok.callV rfl (e_dq hd rfl) rfl (lD0 hcd) rfl rfl (c_21 q32T hcd (by omega) (by omega)) (fun r36 w37 h38 => ?_)
  obtain ⟨z41, rfl, q40f, q40T, q40x⟩ := h38
  have q40z : 0 ≤ z41 ∧ z41 ≤ 4000 := by have g := e_Has.get q32T (c := cd) (k := 0) (lo := 0) (hi := 4000) (kD_0 hcd) (by decide); unfold emQ at q40x; omega
  refine e_Ok.nrm (q := 34) (st' := [(0, z41)]) rfl rfl ?_
  refine e_Ok.run (t' := (35, [(0, (1, 1))], [], w37)) 1 rfl ?_
  refine e_Ok.rets rfl rfl ?_
  exact ⟨rfl, (e_fr.mono (show e_fr (kRx cd) w w37 from e_fr.trans (show e_fr (kRx cd) w w30 from e_fr.trans (show e_fr (kRx cd) w w23 from e_fr.trans (show e_fr (kRx cd) w w16 from e_fr.trans (show e_fr (kRx cd) w w9 from e_fr.trans (show e_fr (kRx cd) w w2 from e_fr.trans (e_fr.refl w) (e_fr.mono q4f (fun c k q => by first | exact su_dn_17 q | (unfold kRa at q; unfold kRx; omega)))) (e_fr.mono q11f (fun c k q => by exact q))) (e_fr.mono q18f (fun c k q => by first | exact su_dn_18 q | (unfold kRk at q; unfold kRx; omega)))) (e_fr.mono q25f (fun c k q => by exact q))) (e_fr.mono q32f (fun c k q => by first | exact su_dn_18 q | (unfold kRk at q; unfold kRx; omega)))) (e_fr.mono q40f (fun c k q => by first | exact su_dn_19 q | (unfold kEm at q; unfold kRx; omega)))) (fun c k q => by first | exact su_dn_20 q | (unfold kRx at q; unfold kRt; omega))), ⟨q40T, (show e_Has kRy w37 from H_fr q40f (fun c k g => by unfold kEm at g; omega) q32H), ((q40f 1 3 (by unfold kEm; omega)).trans ((q32f 1 3 no_dn_0).trans ((q25f 1 3 (by unfold kRx; omega)).trans ((q18f 1 3 no_dn_0).trans ((q11f 1 3 (by unfold kRx; omega)).trans ((q4f 1 3 no_dn_1).trans hc)))))), hcd, (show tkR w37 from (q32k.fr q40f (fun k g => by unfold kEm; omega)))⟩, ⟨(by have g1 : w37 1 11 = o := ((q40f 1 11 (by unfold kEm; omega)).trans ((q32f 1 11 no_dn_2).trans (q25o.trans ((q18f 1 11 no_dn_2).trans (q11o.trans ((q4f 1 11 no_dn_3).trans ho)))))); have g0 : w 1 11 = o := ho; omega), (by have g1 : w37 1 12 = w 1 12 := ((q40f 1 12 (by unfold kEm; omega)).trans ((q32f 1 12 no_dn_4).trans ((q25f 1 12 (by unfold kRx; omega)).trans ((q18f 1 12 no_dn_4).trans ((q11f 1 12 (by unfold kRx; omega)).trans ((q4f 1 12 no_dn_5).trans rfl)))))); have g0 : w 1 12 = w 1 12 := rfl; omega), (by have g1 : w37 1 13 = w 1 13 := ((q40f 1 13 (by unfold kEm; omega)).trans ((q32f 1 13 no_dn_6).trans ((q25f 1 13 (by unfold kRx; omega)).trans ((q18f 1 13 no_dn_6).trans ((q11f 1 13 (by unfold kRx; omega)).trans ((q4f 1 13 no_dn_7).trans rfl)))))); have g0 : w 1 13 = w 1 13 := rfl; omega)⟩, (show gS w w37 cd (-3) 1 0 0 0 from gS.trans (show gS w w30 cd (-4) 1 0 1 0 from gS.trans (show gS w w23 cd (-3) 1 0 1 0 from gS.trans (show gS w w16 cd (-3) 1 0 1 0 from gS.trans (show gS w w9 cd (-2) 1 0 1 0 from gS.trans (show gS w w2 cd (-2) 1 0 1 0 from gS.trans (show gS w w cd 0 1 0 1 0 from gS.refl pL.1) (show gS w w2 cd (-2) 1 0 1 0 from gS.adv hcd ((e_Has.get hT (c := cd) (k := 0) (lo := 0) (hi := 4000) (kD_0 hcd) (by decide)).1) (by omega) q4f q4x (hk.a2 (by omega))) (by omega)) (show gS w2 w9 cd 0 1 0 1 0 from gS.ex q11x) (by omega)) (show gS w9 w16 cd (-1) 1 0 1 0 from gS.acc hcd ((e_Has.get q11T (c := cd) (k := 0) (lo := 0) (hi := 4000) (kD_0 hcd) (by decide)).1) (by omega) q18f q18x (fun g => q11k.a1 (by omega))) (by omega)) (show gS w16 w23 cd 0 1 0 1 0 from gS.ex q25x) (by omega)) (show gS w23 w30 cd (-1) 1 0 1 0 from gS.acc hcd ((e_Has.get q25T (c := cd) (k := 0) (lo := 0) (hi := 4000) (kD_0 hcd) (by decide)).1) (by omega) q32f q32x (fun g => q25k.a1 (by omega))) (by omega)) (show gS w30 w37 cd 1 1 0 0 0 from gS.act hcd ((e_Has.get q32T (c := cd) (k := 0) (lo := 0) (hi := 4000) (kD_0 hcd) (by decide)).1) q40f q40x (by omega) (by omega) (by omega) (by omega)) (by omega)).le (by omega)⟩
set_option maxHeartbeats 4000000 in
theorem c_152 {d : Nat} (hd : 281 ≤ d) {w : eW} {cd o : Int} (hS : rS w cd) (ho : w 1 11 = o) (hor : 0 ≤ o ∧ o ≤ 30) (h5 : w 1 5 = 36) : e_Ok 20 elay kcode eI d 152 (0, [(0, (1, 1))], [], w) (fun r w' => r = [] ∧ gQ w w' cd (-1) 1 0) := by
  obtain ⟨d, rfl⟩ : ∃ e, d = e + 1 := ⟨d - 1, by omega⟩
  obtain ⟨hT, hH, hc, hcd, hk⟩ := hS
  have hcd2 := hcd; unfold isCd at hcd2
  have hcd3 : 2 ≤ cd ∧ cd ≤ 145 := by omega
  have pL := e_Has.get hT (c := cd) (k := 0) (lo := 0) (hi := 4000) (kD_0 hcd) (by decide)
  have p1 := e_Has.get hH (c := 1) (k := 1) (lo := (-2147483648)) (hi := 2147483647) rfl (by decide)
  have p5 := e_Has.get hH (c := 1) (k := 5) (lo := 0) (hi := 53) rfl (by decide)
  have p6 := e_Has.get hH (c := 1) (k := 6) (lo := 0) (hi := 4000) rfl (by decide)
  have p9 := e_Has.get hH (c := 1) (k := 9) (lo := (-2147483648)) (hi := 2147483647) rfl (by decide)
  have p7 := e_Has.get hH (c := 1) (k := 7) (lo := 0) (hi := 4000) rfl (by decide)
  have p12 := e_Has.get hH (c := 1) (k := 12) (lo := 0) (hi := 30) rfl (by decide)
  have p13 := e_Has.get hH (c := 1) (k := 13) (lo := (-1)) (hi := 4000) rfl (by decide)
  refine e_Ok.ps1 (x := (1, 1)) (q := 1) 1 rfl ?_
  refine e_Ok.callV rfl (e_dq hd rfl) rfl rfl rfl rfl (c_123 (e_dq hd rfl) hT hH hk.1.2) (fun r1 w2 h3 => ?_)
  obtain ⟨rfl, q4f, q4T, q4H, q4k, q4x, q44⟩ := h3
  refine e_Ok.nrm (q := 4) (st' := []) rfl rfl ?_
  refine e_Ok.ps1 (x := (1, 1)) (q := 5) 1 rfl ?_
  refine e_Ok.callV rfl (e_dq hd rfl) rfl rfl rfl rfl (x_exp (o := o) (by omega) (by omega) w2 cd ⟨q4T, q4H, ((q4f 1 3 no_dn_1).trans hc), hcd, q4k⟩ ((q4f 1 11 no_dn_3).trans ho)) (fun r8 w9 h10 => ?_)
  obtain ⟨rfl, q11f, ⟨q11T, q11H, q11c, -, q11k⟩, q11o, q11x⟩ := h10
  refine e_Ok.nrm (q := 8) (st' := []) rfl rfl ?_
  refine e_Ok.ps2 (x := (0, 18)) (y := (1, 1)) (q := 11) 2 rfl ?_
  refine e_Ok.callV rfl (e_dq hd rfl) rfl rfl rfl rfl (c_129 (e_dq hd rfl) q11T q11H q11k (by omega)) (fun r15 w16 h17 => ?_)
  obtain ⟨rfl, q18f, q18T, q18H, q18k, q18x⟩ := h17
  refine e_Ok.nrm (q := 14) (st' := []) rfl rfl ?_
  refine e_Ok.ps1 (x := (1, 1)) (q := 15) 1 rfl ?_
  have h22 := (e_Has.get q18H (c := 1) (k := 6) (lo := 0) (hi := 4000) rfl (by decide))
  refine e_Ok.getf (z := w16 1 6) rfl (el_o rfl) rfl rfl rfl (e_bq h22 (by decide) (by decide)) ?_
  refine e_Ok.run (t' := (21, [(1, (0, w16 1 6)), (0, (1, 1))], [(0, 1), (1, 1)], w16)) 3 rfl ?_
  refine e_Ok.callV rfl (e_dq hd rfl) rfl rfl rfl rfl (c_129 (e_dq hd rfl) q18T q18H q18k (by omega)) (fun r23 w24 h25 => ?_)
  obtain ⟨rfl, q26f, q26T, q26H, q26k, q26x⟩ := h25
  refine e_Ok.nrm (q := 24) (st' := []) rfl rfl ?_
  refine e_Ok.ps2 (x := (0, 19)) (y := (1, 1)) (q := 27) 2 rfl ?_
  refine e_Ok.callV rfl (e_dq hd rfl) rfl rfl rfl rfl (c_129 (e_dq hd rfl) q26T q26H q26k (by omega)) (fun r30 w31 h32 => ?_)
  obtain ⟨rfl, q33f, q33T, q33H, q33k, q33x⟩ := h32
  refine e_Ok.nrm (q := 30) (st' := []) rfl rfl ?_
  refine e_Ok.ps1 (x := (1, 1)) (q := 31) 1 rfl ?_
  refine e_Ok.getr (z := cd) rfl (el_o rfl) rfl rfl ((q33f 1 3 no_dn_0).trans ((q26f 1 3 no_dn_0).trans ((q18f 1 3 no_dn_0).trans ((q11f 1 3 (by unfold kRx; omega)).trans ((q4f 1 3 no_dn_1).trans hc))))) (by omega) ?_
  refine e_Ok.ps2 (x := (0, w16 1 6)) (y := (0, 39)) (q := 37) 2 rfl ?_
  refine e_Ok.callV rfl (e_dq hd rfl) rfl (lD0 hcd) rfl rfl (c_21 q33T hcd (by omega) (by omega)) (fun r37 w38 h40 => ?_)
  obtain ⟨z42, rfl, q41f, q41T, q41x⟩ := h40
  have q41z : 0 ≤ z42 ∧ z42 ≤ 4000 := by have g := e_Has.get q33T (c := cd) (k := 0) (lo := 0) (hi := 4000) (kD_0 hcd) (by decide); unfold emQ at q41x; omega
  refine e_Ok.nrm (q := 40) (st' := [(0, z42)]) rfl rfl ?_
  refine e_Ok.run (t' := (41, [(1, (0, w16 1 6)), (0, (1, 1))], [], w38)) 1 rfl ?_
  refine e_Ok.rets rfl rfl ?_
  exact ⟨rfl, (e_fr.mono (show e_fr (kRx cd) w w38 from e_fr.trans (show e_fr (kRx cd) w w31 from e_fr.trans (show e_fr (kRx cd) w w24 from e_fr.trans (show e_fr (kRx cd) w w16 from e_fr.trans (show e_fr (kRx cd) w w9 from e_fr.trans (show e_fr (kRx cd) w w2 from e_fr.trans (e_fr.refl w) (e_fr.mono q4f (fun c k q => by first | exact su_dn_17 q | (unfold kRa at q; unfold kRx; omega)))) (e_fr.mono q11f (fun c k q => by exact q))) (e_fr.mono q18f (fun c k q => by first | exact su_dn_18 q | (unfold kRk at q; unfold kRx; omega)))) (e_fr.mono q26f (fun c k q => by first | exact su_dn_18 q | (unfold kRk at q; unfold kRx; omega)))) (e_fr.mono q33f (fun c k q => by first | exact su_dn_18 q | (unfold kRk at q; unfold kRx; omega)))) (e_fr.mono q41f (fun c k q => by first | exact su_dn_19 q | (unfold kEm at q; unfold kRx; omega)))) (fun c k q => by first | exact su_dn_20 q | (unfold kRx at q; unfold kRt; omega))), ⟨q41T, (show e_Has kRy w38 from H_fr q41f (fun c k g => by unfold kEm at g; omega) q33H), ((q41f 1 3 (by unfold kEm; omega)).trans ((q33f 1 3 no_dn_0).trans ((q26f 1 3 no_dn_0).trans ((q18f 1 3 no_dn_0).trans ((q11f 1 3 (by unfold kRx; omega)).trans ((q4f 1 3 no_dn_1).trans hc)))))), hcd, (show tkR w38 from (q33k.fr q41f (fun k g => by unfold kEm; omega)))⟩, ⟨(by have g1 : w38 1 11 = o := ((q41f 1 11 (by unfold kEm; omega)).trans ((q33f 1 11 no_dn_2).trans ((q26f 1 11 no_dn_2).trans ((q18f 1 11 no_dn_2).trans (q11o.trans ((q4f 1 11 no_dn_3).trans ho)))))); have g0 : w 1 11 = o := ho; omega), (by have g1 : w38 1 12 = w 1 12 := ((q41f 1 12 (by unfold kEm; omega)).trans ((q33f 1 12 no_dn_4).trans ((q26f 1 12 no_dn_4).trans ((q18f 1 12 no_dn_4).trans ((q11f 1 12 (by unfold kRx; omega)).trans ((q4f 1 12 no_dn_5).trans rfl)))))); have g0 : w 1 12 = w 1 12 := rfl; omega), (by have g1 : w38 1 13 = w 1 13 := ((q41f 1 13 (by unfold kEm; omega)).trans ((q33f 1 13 no_dn_6).trans ((q26f 1 13 no_dn_6).trans ((q18f 1 13 no_dn_6).trans ((q11f 1 13 (by unfold kRx; omega)).trans ((q4f 1 13 no_dn_7).trans rfl)))))); have g0 : w 1 13 = w 1 13 := rfl; omega)⟩, (show gS w w38 cd (-4) 1 0 0 0 from gS.trans (show gS w w31 cd (-5) 1 0 1 0 from gS.trans (show gS w w24 cd (-4) 1 0 1 0 from gS.trans (show gS w w16 cd (-3) 1 0 1 0 from gS.trans (show gS w w9 cd (-2) 1 0 1 0 from gS.trans (show gS w w2 cd (-2) 1 0 1 0 from gS.trans (show gS w w cd 0 1 0 1 0 from gS.refl pL.1) (show gS w w2 cd (-2) 1 0 1 0 from gS.adv hcd ((e_Has.get hT (c := cd) (k := 0) (lo := 0) (hi := 4000) (kD_0 hcd) (by decide)).1) (by omega) q4f q4x (hk.a2 (by omega))) (by omega)) (show gS w2 w9 cd 0 1 0 1 0 from gS.ex q11x) (by omega)) (show gS w9 w16 cd (-1) 1 0 1 0 from gS.acc hcd ((e_Has.get q11T (c := cd) (k := 0) (lo := 0) (hi := 4000) (kD_0 hcd) (by decide)).1) (by omega) q18f q18x (fun g => q11k.a1 (by omega))) (by omega)) (show gS w16 w24 cd (-1) 1 0 1 0 from gS.acc hcd ((e_Has.get q18T (c := cd) (k := 0) (lo := 0) (hi := 4000) (kD_0 hcd) (by decide)).1) (by omega) q26f q26x (fun g => q18k.a1 (by omega))) (by omega)) (show gS w24 w31 cd (-1) 1 0 1 0 from gS.acc hcd ((e_Has.get q26T (c := cd) (k := 0) (lo := 0) (hi := 4000) (kD_0 hcd) (by decide)).1) (by omega) q33f q33x (fun g => q26k.a1 (by omega))) (by omega)) (show gS w31 w38 cd 1 1 0 0 0 from gS.act hcd ((e_Has.get q33T (c := cd) (k := 0) (lo := 0) (hi := 4000) (kD_0 hcd) (by decide)).1) q41f q41x (by omega) (by omega) (by omega) (by omega)) (by omega)).le (by omega)⟩
theorem su_dn_25 {cd : Int} {c k : Int} (q : kRc c k) : kRt cd c k := by
  unfold kRc at q
  rcases q with ⟨q, (q | q)⟩
  · exact Or.inl ⟨(by omega), Or.inr (Or.inr ⟨(by omega), (by omega)⟩)⟩
  · exact Or.inl ⟨(by omega), Or.inr (Or.inr ⟨(by omega), (by omega)⟩)⟩
set_option maxHeartbeats 4000000 in
theorem c_153 {d : Nat} (hd : 281 ≤ d) {w : eW} {cd o : Int} (hS : rS w cd) (ho : w 1 11 = o) (hor : 0 ≤ o ∧ o ≤ 30) {t lp : Int} (ht : w 1 12 = t) (htr : 0 ≤ t ∧ t ≤ o) (hlp : w 1 13 = lp) (hlk : lpK w cd lp) (h5 : w 1 5 = 38) : e_Ok 20 elay kcode eI d 153 (0, [(0, (1, 1))], [], w) (fun r w' => r = [] ∧ gQ w w' cd (-1) 1 0) := by
  obtain ⟨d, rfl⟩ : ∃ e, d = e + 1 := ⟨d - 1, by omega⟩
  obtain ⟨hT, hH, hc, hcd, hk⟩ := hS
  have hcd2 := hcd; unfold isCd at hcd2
  have hcd3 : 2 ≤ cd ∧ cd ≤ 145 := by omega
  have pL := e_Has.get hT (c := cd) (k := 0) (lo := 0) (hi := 4000) (kD_0 hcd) (by decide)
  have p1 := e_Has.get hH (c := 1) (k := 1) (lo := (-2147483648)) (hi := 2147483647) rfl (by decide)
  have p5 := e_Has.get hH (c := 1) (k := 5) (lo := 0) (hi := 53) rfl (by decide)
  have p6 := e_Has.get hH (c := 1) (k := 6) (lo := 0) (hi := 4000) rfl (by decide)
  have p9 := e_Has.get hH (c := 1) (k := 9) (lo := (-2147483648)) (hi := 2147483647) rfl (by decide)
  have p7 := e_Has.get hH (c := 1) (k := 7) (lo := 0) (hi := 4000) rfl (by decide)
  have p12 := e_Has.get hH (c := 1) (k := 12) (lo := 0) (hi := 30) rfl (by decide)
  have p13 := e_Has.get hH (c := 1) (k := 13) (lo := (-1)) (hi := 4000) rfl (by decide)
  have x0 : gS w w cd 0 1 0 1 0 := gS.refl pL.1
  refine e_Ok.ps1 (x := (1, 1)) (q := 1) 1 rfl ?_
  refine e_Ok.getf (z := lp) rfl (el_o rfl) rfl rfl hlp (by omega) ?_
  refine e_Ok.if1 rfl (fun h1 => ?_) (fun h1 => ?_)
  · replace h1 : (lp : Int) ≥ 0 := h1
    refine e_Ok.ps1 (x := (1, 1)) (q := 18) 1 rfl ?_
    refine e_Ok.callV rfl (e_dq hd rfl) rfl rfl rfl rfl (c_123 (e_dq hd rfl) hT hH hk.1.2) (fun r2 w3 h4 => ?_)
    obtain ⟨rfl, q5f, q5T, q5H, q5k, q5x, q54⟩ := h4
    have s7 : gS w w3 cd (-2) 1 0 1 0 := gS.adv hcd ((e_Has.get hT (c := cd) (k := 0) (lo := 0) (hi := 4000) (kD_0 hcd) (by decide)).1) (by omega) q5f q5x (hk.a2 (by omega))
    have p9 := lpK.step hlk s7
    refine e_Ok.nrm (q := 21) (st' := []) rfl rfl ?_
    refine e_Ok.ps2 (x := (0, 19)) (y := (1, 1)) (q := 24) 2 rfl ?_
    refine e_Ok.callV rfl (e_dq hd rfl) rfl rfl rfl rfl (c_129 (e_dq hd rfl) q5T q5H q5k (by omega)) (fun r10 w11 h12 => ?_)
    obtain ⟨rfl, q13f, q13T, q13H, q13k, q13x⟩ := h12
    have s15 : gS w3 w11 cd (-1) 1 0 1 0 := gS.acc hcd ((e_Has.get q5T (c := cd) (k := 0) (lo := 0) (hi := 4000) (kD_0 hcd) (by decide)).1) (by omega) q13f q13x (fun g => q5k.a1 (by omega))
    have p17 := lpK.step p9 s15
    refine e_Ok.nrm (q := 27) (st' := []) rfl rfl ?_
    refine e_Ok.ps1 (x := (1, 1)) (q := 28) 1 rfl ?_
    refine e_Ok.getr (z := cd) rfl (el_o rfl) rfl rfl ((q13f 1 3 no_dn_0).trans ((q5f 1 3 no_dn_1).trans hc)) (by omega) ?_
    refine e_Ok.ps2 (x := (1, 1)) (y := (0, 44)) (q := 34) 2 rfl ?_
    refine e_Ok.getf (z := lp) rfl (el_o rfl) rfl rfl ((q13f 1 13 no_dn_6).trans ((q5f 1 13 no_dn_7).trans hlp)) (by omega) ?_
    refine e_Ok.ps1 (x := (0, 0)) (q := 38) 1 rfl ?_
    refine e_Ok.mmax rfl rfl (fun z18 hz18 => ?_)
    replace hz18 : (lp < 0 ∧ z18 = 0) ∨ (0 ≤ lp ∧ z18 = lp) := hz18
    refine e_Ok.callV rfl (e_dq hd rfl) rfl (lD0 hcd) rfl rfl (c_21 q13T hcd (by omega) (by omega)) (fun r19 w20 h21 => ?_)
    obtain ⟨z23, rfl, q22f, q22T, q22x⟩ := h21
    have q22z : 0 ≤ z23 ∧ z23 ≤ 4000 := by have g := e_Has.get q13T (c := cd) (k := 0) (lo := 0) (hi := 4000) (kD_0 hcd) (by decide); unfold emQ at q22x; omega
    have s25 : gS w11 w20 cd 1 1 0 0 0 := gS.big hcd ((e_Has.get q13T (c := cd) (k := 0) (lo := 0) (hi := 4000) (kD_0 hcd) (by decide)).1) (by omega) q22f q22x (by omega) (by omega) (fun g => by omega) (fun _ n l => by rcases p17 with g | g; exact absurd g (by omega); obtain ⟨a1, a2, a3⟩ := g n l; rw [show z18 = lp by omega]; exact ⟨a2, a3⟩)
    refine e_Ok.nrm (q := 44) (st' := [(0, z23)]) rfl rfl ?_
    refine e_Ok.run (t' := (45, [(0, (1, 1))], [], w20)) 1 rfl ?_
    refine e_Ok.rets rfl rfl ?_
    exact ⟨rfl, (show e_fr (kRt cd) w w20 from e_fr.trans (show e_fr (kRt cd) w w11 from e_fr.trans (show e_fr (kRt cd) w w3 from e_fr.trans (e_fr.refl w) (e_fr.mono q5f (fun c k q => by first | exact su_dn_21 q | (unfold kRa at q; unfold kRt; omega)))) (e_fr.mono q13f (fun c k q => by first | exact su_dn_22 q | (unfold kRk at q; unfold kRt; omega)))) (e_fr.mono q22f (fun c k q => by first | exact su_dn_23 q | (unfold kEm at q; unfold kRt; omega)))), ⟨q22T, (show e_Has kRy w20 from H_fr q22f (fun c k g => by unfold kEm at g; omega) q13H), ((q22f 1 3 (by unfold kEm; omega)).trans ((q13f 1 3 no_dn_0).trans ((q5f 1 3 no_dn_1).trans hc))), hcd, (show tkR w20 from (q13k.fr q22f (fun k g => by unfold kEm; omega)))⟩, ⟨(by have g1 : w20 1 11 = o := ((q22f 1 11 (by unfold kEm; omega)).trans ((q13f 1 11 no_dn_2).trans ((q5f 1 11 no_dn_3).trans ho))); have g0 : w 1 11 = o := ho; omega), (by have g1 : w20 1 12 = t := ((q22f 1 12 (by unfold kEm; omega)).trans ((q13f 1 12 no_dn_4).trans ((q5f 1 12 no_dn_5).trans ht))); have g0 : w 1 12 = t := ht; omega), (by have g1 : w20 1 13 = lp := ((q22f 1 13 (by unfold kEm; omega)).trans ((q13f 1 13 no_dn_6).trans ((q5f 1 13 no_dn_7).trans hlp))); have g0 : w 1 13 = lp := hlp; omega)⟩, (show gS w w20 cd (-2) 1 0 0 0 from gS.trans (show gS w w11 cd (-3) 1 0 1 0 from gS.trans (show gS w w3 cd (-2) 1 0 1 0 from gS.trans x0 s7 (by omega)) s15 (by omega)) s25 (by omega)).le (by omega)⟩
  · replace h1 : (lp : Int) < 0 := Int.not_le.mp (show ¬ ((lp : Int) ≥ 0) from h1)
    refine e_Ok.ps3 (x := (1, 1)) (y := (0, 6)) (z := (1, 1)) (q := 11) 3 rfl ?_
    have h28 := (e_Has.get hH (c := 1) (k := 6) (lo := 0) (hi := 4000) rfl (by decide))
    refine e_Ok.getf (z := w 1 6) rfl (el_o rfl) rfl rfl rfl (e_bq h28 (by decide) (by decide)) ?_
    refine e_Ok.callV rfl (e_dq hd rfl) rfl rfl rfl rfl (c_133 hT hH hk (by omega) (by omega)) (fun r29 w30 h31 => ?_)
    obtain ⟨rfl, q32f, q32T, q32H, q32k, q32n⟩ := h31
    have s34 : gS w w30 cd 0 1 0 1 0 := gS.dead q32n
    refine e_Ok.nrm (q := 17) (st' := []) rfl rfl ?_
    refine e_Ok.ps1 (x := (1, 1)) (q := 18) 1 rfl ?_
    refine e_Ok.callV rfl (e_dq hd rfl) rfl rfl rfl rfl (c_123 (e_dq hd rfl) q32T q32H q32k.1.2) (fun r37 w38 h40 => ?_)
    obtain ⟨rfl, q41f, q41T, q41H, q41k, q41x, q414⟩ := h40
    have k43 : w30 1 5 = w 1 5 := ((q32f 1 5 no_dn_8).trans rfl)
    have s44 : gS w30 w38 cd (-2) 1 0 1 0 := gS.adv hcd ((e_Has.get q32T (c := cd) (k := 0) (lo := 0) (hi := 4000) (kD_0 hcd) (by decide)).1) (by omega) q41f q41x (q32k.a2 (by omega))
    have d47 : ¬ nF w38 := fun n => q32n (s44 n).1
    refine e_Ok.nrm (q := 21) (st' := []) rfl rfl ?_
    refine e_Ok.ps2 (x := (0, 19)) (y := (1, 1)) (q := 24) 2 rfl ?_
    refine e_Ok.callV rfl (e_dq hd rfl) rfl rfl rfl rfl (c_129 (e_dq hd rfl) q41T q41H q41k (by omega)) (fun r48 w49 h50 => ?_)
    obtain ⟨rfl, q51f, q51T, q51H, q51k, q51x⟩ := h50
    have s53 : gS w38 w49 cd (-1) 1 0 1 0 := gS.acc hcd ((e_Has.get q41T (c := cd) (k := 0) (lo := 0) (hi := 4000) (kD_0 hcd) (by decide)).1) (by omega) q51f q51x (fun g => q41k.a1 (by omega))
    have d56 : ¬ nF w49 := fun n => d47 (s53 n).1
    refine e_Ok.nrm (q := 27) (st' := []) rfl rfl ?_
    refine e_Ok.ps1 (x := (1, 1)) (q := 28) 1 rfl ?_
    refine e_Ok.getr (z := cd) rfl (el_o rfl) rfl rfl ((q51f 1 3 no_dn_0).trans ((q41f 1 3 no_dn_1).trans ((q32f 1 3 no_dn_9).trans hc))) (by omega) ?_
    refine e_Ok.ps2 (x := (1, 1)) (y := (0, 44)) (q := 34) 2 rfl ?_
    refine e_Ok.getf (z := lp) rfl (el_o rfl) rfl rfl ((q51f 1 13 no_dn_6).trans ((q41f 1 13 no_dn_7).trans ((q32f 1 13 no_dn_12).trans hlp))) (by omega) ?_
    refine e_Ok.ps1 (x := (0, 0)) (q := 38) 1 rfl ?_
    refine e_Ok.mmax rfl rfl (fun z57 hz57 => ?_)
    replace hz57 : (lp < 0 ∧ z57 = 0) ∨ (0 ≤ lp ∧ z57 = lp) := hz57
    refine e_Ok.callV rfl (e_dq hd rfl) rfl (lD0 hcd) rfl rfl (c_21 q51T hcd (by omega) (by omega)) (fun r58 w59 h60 => ?_)
    obtain ⟨z62, rfl, q61f, q61T, q61x⟩ := h60
    have q61z : 0 ≤ z62 ∧ z62 ≤ 4000 := by have g := e_Has.get q51T (c := cd) (k := 0) (lo := 0) (hi := 4000) (kD_0 hcd) (by decide); unfold emQ at q61x; omega
    have s64 : gS w49 w59 cd 1 1 0 0 0 := gS.dead (fun n => d56 ⟨by rw [← (fr_e q61f hcd).1]; exact n.1, by rw [← (fr_e q61f hcd).2.1]; exact n.2⟩)
    have d67 : ¬ nF w59 := fun n => d56 (s64 n).1
    refine e_Ok.nrm (q := 44) (st' := [(0, z62)]) rfl rfl ?_
    refine e_Ok.run (t' := (45, [(0, (1, 1))], [], w59)) 1 rfl ?_
    refine e_Ok.rets rfl rfl ?_
    exact ⟨rfl, (show e_fr (kRt cd) w w59 from e_fr.trans (show e_fr (kRt cd) w w49 from e_fr.trans (show e_fr (kRt cd) w w38 from e_fr.trans (show e_fr (kRt cd) w w30 from e_fr.trans (e_fr.refl w) (e_fr.mono q32f (fun c k q => by first | exact su_dn_25 q | (unfold kRc at q; unfold kRt; omega)))) (e_fr.mono q41f (fun c k q => by first | exact su_dn_21 q | (unfold kRa at q; unfold kRt; omega)))) (e_fr.mono q51f (fun c k q => by first | exact su_dn_22 q | (unfold kRk at q; unfold kRt; omega)))) (e_fr.mono q61f (fun c k q => by first | exact su_dn_23 q | (unfold kEm at q; unfold kRt; omega)))), ⟨q61T, (show e_Has kRy w59 from H_fr q61f (fun c k g => by unfold kEm at g; omega) q51H), ((q61f 1 3 (by unfold kEm; omega)).trans ((q51f 1 3 no_dn_0).trans ((q41f 1 3 no_dn_1).trans ((q32f 1 3 no_dn_9).trans hc)))), hcd, (show tkR w59 from (q51k.fr q61f (fun k g => by unfold kEm; omega)))⟩, ⟨(by have g1 : w59 1 11 = o := ((q61f 1 11 (by unfold kEm; omega)).trans ((q51f 1 11 no_dn_2).trans ((q41f 1 11 no_dn_3).trans ((q32f 1 11 no_dn_10).trans ho)))); have g0 : w 1 11 = o := ho; omega), (by have g1 : w59 1 12 = t := ((q61f 1 12 (by unfold kEm; omega)).trans ((q51f 1 12 no_dn_4).trans ((q41f 1 12 no_dn_5).trans ((q32f 1 12 no_dn_11).trans ht)))); have g0 : w 1 12 = t := ht; omega), (by have g1 : w59 1 13 = lp := ((q61f 1 13 (by unfold kEm; omega)).trans ((q51f 1 13 no_dn_6).trans ((q41f 1 13 no_dn_7).trans ((q32f 1 13 no_dn_12).trans hlp)))); have g0 : w 1 13 = lp := hlp; omega)⟩, gS.dead d67⟩
theorem c_143 {d : Nat} (hd : 22 ≤ d) {w : eW} (hT : e_Has kTy w) (hH : e_Has kRy w) : e_Ok 20 elay kcode eI d 143 (0, [(0, (1, 1))], [], w) (fun r w' => ∃ z : Int, r = [(0, z)] ∧ w = w' ∧ ((z = 1 ∧ isK (w 1 5)) ∨ (z = 0 ∧ True))) := by
  obtain ⟨d, rfl⟩ : ∃ e, d = e + 1 := ⟨d - 1, by omega⟩
  have p5 := e_Has.get hH (c := 1) (k := 5) (lo := 0) (hi := 53) rfl (by decide)
  refine e_Ok.ps1 (x := (1, 1)) (q := 1) 1 rfl ?_
  have h1 := (e_Has.get hH (c := 1) (k := 5) (lo := 0) (hi := 53) rfl (by decide))
  refine e_Ok.getf (z := w 1 5) rfl (el_o rfl) rfl rfl rfl (e_bq h1 (by decide) (by decide)) ?_
  refine e_Ok.ps1 (x := (0, 1)) (q := 5) 1 rfl ?_
  refine e_Ok.if2 rfl (fun h2 => ?_) (fun h2 => ?_)
  · replace h2 : (w 1 5 : Int) = 1 := h2
    refine e_Ok.ps1 (x := (0, 1)) (q := 45) 2 rfl ?_
    refine e_Ok.rets rfl rfl ?_
    exact ⟨_, rfl, rfl, Or.inl ⟨rfl, by unfold isK; omega⟩⟩
  · replace h2 : (w 1 5 : Int) ≠ 1 := (show ¬ ((w 1 5 : Int) = 1) from h2)
    refine e_Ok.ps1 (x := (1, 1)) (q := 9) 1 rfl ?_
    refine e_Ok.getf (z := w 1 5) rfl (el_o rfl) rfl rfl rfl (by omega) ?_
    refine e_Ok.ps2 (x := (0, 39)) (y := (0, 24)) (q := 16) 2 rfl ?_
    refine e_Ok.callS rfl (e_dq hd rfl) rfl rfl (c_242 (by omega) (by omega) (by omega)) (fun r3 w4 h5 => ?_)
    obtain ⟨z6, rfl, rfl, q7⟩ := h5
    obtain ⟨rfl, q7⟩ | ⟨rfl, q7⟩ := q7
    · refine e_Ok.nrm (q := 19) (st' := [(0, 1)]) rfl rfl ?_
      refine e_Ok.if1 rfl (fun h8 => ?_) (fun h8 => ?_)
      · replace h8 : (1 : Int) ≠ 0 := h8
        refine e_Ok.ps1 (x := (0, 1)) (q := 45) 2 rfl ?_
        refine e_Ok.rets rfl rfl ?_
        exact ⟨_, rfl, rfl, Or.inl ⟨rfl, by unfold isK; omega⟩⟩
      · replace h8 : (1 : Int) = 0 := Classical.not_not.mp (show ¬ ((1 : Int) ≠ 0) from h8)
        exfalso; omega
    · refine e_Ok.nrm (q := 19) (st' := [(0, 0)]) rfl rfl ?_
      refine e_Ok.if1 rfl (fun h9 => ?_) (fun h9 => ?_)
      · replace h9 : (0 : Int) ≠ 0 := h9
        exfalso; omega
      · replace h9 : (0 : Int) = 0 := Classical.not_not.mp (show ¬ ((0 : Int) ≠ 0) from h9)
        refine e_Ok.ps1 (x := (1, 1)) (q := 23) 1 rfl ?_
        refine e_Ok.getf (z := w 1 5) rfl (el_o rfl) rfl rfl rfl (by omega) ?_
        refine e_Ok.ps1 (x := (0, 41)) (q := 28) 1 rfl ?_
        refine e_Ok.if2 rfl (fun h10 => ?_) (fun h10 => ?_)
        · replace h10 : (w 1 5 : Int) = 41 := h10
          refine e_Ok.ps1 (x := (0, 1)) (q := 45) 2 rfl ?_
          refine e_Ok.rets rfl rfl ?_
          exact ⟨_, rfl, rfl, Or.inl ⟨rfl, by unfold isK; omega⟩⟩
        · replace h10 : (w 1 5 : Int) ≠ 41 := (show ¬ ((w 1 5 : Int) = 41) from h10)
          refine e_Ok.ps1 (x := (1, 1)) (q := 32) 1 rfl ?_
          refine e_Ok.getf (z := w 1 5) rfl (el_o rfl) rfl rfl rfl (by omega) ?_
          refine e_Ok.ps1 (x := (0, 42)) (q := 37) 1 rfl ?_
          refine e_Ok.if2 rfl (fun h11 => ?_) (fun h11 => ?_)
          · replace h11 : (w 1 5 : Int) ≠ 42 := h11
            refine e_Ok.ps1 (x := (0, 0)) (q := 45) 1 rfl ?_
            refine e_Ok.rets rfl rfl ?_
            exact ⟨_, rfl, rfl, Or.inr ⟨rfl, trivial⟩⟩
          · replace h11 : (w 1 5 : Int) = 42 := Classical.not_not.mp (show ¬ ((w 1 5 : Int) ≠ 42) from h11)
            refine e_Ok.ps1 (x := (0, 1)) (q := 45) 2 rfl ?_
            refine e_Ok.rets rfl rfl ?_
            exact ⟨_, rfl, rfl, Or.inl ⟨rfl, by unfold isK; omega⟩⟩
theorem no_dn_13 : ¬ kRO 1 5 := by unfold kRO; omega
theorem no_dn_14 : ¬ kRO 1 3 := by unfold kRO; omega
theorem no_dn_15 : ¬ kRO 1 12 := by unfold kRO; omega
theorem no_dn_16 : ¬ kRO 1 13 := by unfold kRO; omega
theorem su_dn_26 {cd : Int} {c k : Int} (q : kRO c k) : kRt cd c k := by
  unfold kRO at q
  rcases q with ⟨q, q⟩
  · exact Or.inl ⟨(by omega), Or.inr (Or.inr ⟨(by omega), (by omega)⟩)⟩
theorem su_dn_27 {cd : Int} {c k : Int} (q : kPa cd c k) : kRt cd c k := by
  unfold kPa at q
  rcases q with q
  · exact Or.inr (Or.inr (by omega))
set_option maxHeartbeats 4000000 in
theorem c_154 {d : Nat} (hd : 281 ≤ d) {w : eW} {cd o : Int} (hS : rS w cd) (ho : w 1 11 = o) (hor : 0 ≤ o ∧ o ≤ 30) {t lp : Int} (ht : w 1 12 = t) (htr : 0 ≤ t ∧ t ≤ o) (hlp : w 1 13 = lp) (hlk : lpK w cd lp) (h5 : w 1 5 = 39) (hB : o < 30 → ∀ k, d = k + 1 → zgC 144 (o + 1) 0 0 (fun _ => True) k) : e_Ok 20 elay kcode eI d 154 (0, [(0, (1, 1))], [], w) (fun r w' => r = [] ∧ gQ w w' cd (-1) 1 0) := by
  obtain ⟨d, rfl⟩ : ∃ e, d = e + 1 := ⟨d - 1, by omega⟩
  obtain ⟨hT, hH, hc, hcd, hk⟩ := hS
  have hcd2 := hcd; unfold isCd at hcd2
  have hcd3 : 2 ≤ cd ∧ cd ≤ 145 := by omega
  have pL := e_Has.get hT (c := cd) (k := 0) (lo := 0) (hi := 4000) (kD_0 hcd) (by decide)
  have p1 := e_Has.get hH (c := 1) (k := 1) (lo := (-2147483648)) (hi := 2147483647) rfl (by decide)
  have p5 := e_Has.get hH (c := 1) (k := 5) (lo := 0) (hi := 53) rfl (by decide)
  have p6 := e_Has.get hH (c := 1) (k := 6) (lo := 0) (hi := 4000) rfl (by decide)
  have p9 := e_Has.get hH (c := 1) (k := 9) (lo := (-2147483648)) (hi := 2147483647) rfl (by decide)
  have p7 := e_Has.get hH (c := 1) (k := 7) (lo := 0) (hi := 4000) rfl (by decide)
  have p12 := e_Has.get hH (c := 1) (k := 12) (lo := 0) (hi := 30) rfl (by decide)
  have p13 := e_Has.get hH (c := 1) (k := 13) (lo := (-1)) (hi := 4000) rfl (by decide)
  have x0 : gS w w cd 0 1 0 1 0 := gS.refl pL.1
  refine e_Ok.ps1 (x := (1, 1)) (q := 1) 1 rfl ?_
  refine e_Ok.callV rfl (e_dq hd rfl) rfl rfl rfl rfl (c_132 (e_dq hd rfl) hT hH hk (o := o) ho (by omega)) (fun r1 w2 h3 => ?_)
  obtain ⟨z5, rfl, q4f, q4T, q4H, q4k, ⟨rfl, q4a, q4b, q4c⟩ | ⟨rfl, q4a, q4b, q4c, q4d⟩⟩ := h3
  · refine e_Ok.nrm (q := 4) (st' := [(0, 1)]) rfl rfl ?_
    have q4g : e_fr kRO w w2 := fun c k g => by have g2 : ¬ (c = 1 ∧ k = 11) := g; by_cases h : c = 1 ∧ (k = 12 ∨ k = 13); (exact q4f c k (by unfold kRo; omega)); (exact q4c c k (show ¬ (c = 1 ∧ 11 ≤ k ∧ k ≤ 13) from by omega))
    have s7 : gS w w2 cd 0 1 0 1 0 := gS.wr hcd ((e_Has.get hT (c := cd) (k := 0) (lo := 0) (hi := 4000) (kD_0 hcd) (by decide)).1) (by omega) q4c
    have p9 := lpK.step hlk s7
    refine e_Ok.if1 rfl (fun h10 => ?_) (fun h10 => ?_)
    · replace h10 : (1 : Int) ≠ 0 := h10
      refine e_Ok.ps1 (x := (1, 1)) (q := 9) 1 rfl ?_
      refine e_Ok.callV rfl (e_dq hd rfl) rfl rfl rfl rfl (c_123 (e_dq hd rfl) q4T q4H q4k.1.2) (fun r11 w12 h13 => ?_)
      obtain ⟨rfl, q14f, q14T, q14H, q14k, q14x, q144⟩ := h13
      have k16 : w2 1 5 = w 1 5 := ((q4g 1 5 no_dn_13).trans rfl)
      have s17 : gS w2 w12 cd (-2) 1 0 1 0 := gS.adv hcd ((e_Has.get q4T (c := cd) (k := 0) (lo := 0) (hi := 4000) (kD_0 hcd) (by decide)).1) (by omega) q14f q14x (q4k.a2 (by omega))
      have p19 := lpK.step p9 s17
      refine e_Ok.nrm (q := 12) (st' := []) rfl rfl ?_
      refine e_Ok.ps1 (x := (1, 1)) (q := 13) 1 rfl ?_
      refine e_Ok.callV rfl (e_dq hd rfl) rfl rfl rfl rfl (x_exp (o := (o + 1)) (by omega) (by omega) w12 cd ⟨q14T, q14H, ((q14f 1 3 no_dn_1).trans ((q4g 1 3 no_dn_14).trans hc)), hcd, q14k⟩ ((q14f 1 11 no_dn_3).trans q4b)) (fun r20 w21 h22 => ?_)
      obtain ⟨rfl, q23f, ⟨q23T, q23H, q23c, -, q23k⟩, q23o, q23x⟩ := h22
      have s25 : gS w12 w21 cd 0 1 0 1 0 := gS.ex q23x
      refine e_Ok.nrm (q := 16) (st' := []) rfl rfl ?_
      refine e_Ok.ps2 (x := (0, 20)) (y := (1, 1)) (q := 19) 2 rfl ?_
      refine e_Ok.callV rfl (e_dq hd rfl) rfl rfl rfl rfl (c_129 (e_dq hd rfl) q23T q23H q23k (by omega)) (fun r28 w29 h30 => ?_)
      obtain ⟨rfl, q31f, q31T, q31H, q31k, q31x⟩ := h30
      have s33 : gS w21 w29 cd (-1) 1 0 1 0 := gS.acc hcd ((e_Has.get q23T (c := cd) (k := 0) (lo := 0) (hi := 4000) (kD_0 hcd) (by decide)).1) (by omega) q31f q31x (fun g => q23k.a1 (by omega))
      refine e_Ok.nrm (q := 22) (st' := []) rfl rfl ?_
      refine e_Ok.ps1 (x := (1, 1)) (q := 23) 1 rfl ?_
      refine e_Ok.getr (z := cd) rfl (el_o rfl) rfl rfl ((q31f 1 3 no_dn_0).trans ((q23f 1 3 (by unfold kRx; omega)).trans ((q14f 1 3 no_dn_1).trans ((q4g 1 3 no_dn_14).trans hc)))) (by omega) ?_
      refine e_Ok.ps2 (x := (0, 0)) (y := (0, 41)) (q := 29) 2 rfl ?_
      refine e_Ok.callV rfl (e_dq hd rfl) rfl (lD0 hcd) rfl rfl (c_21 q31T hcd (by omega) (by omega)) (fun r36 w37 h38 => ?_)
      obtain ⟨z41, rfl, q40f, q40T, q40x⟩ := h38
      have q40z : 0 ≤ z41 ∧ z41 ≤ 4000 := by have g := e_Has.get q31T (c := cd) (k := 0) (lo := 0) (hi := 4000) (kD_0 hcd) (by decide); unfold emQ at q40x; omega
      have s43 : gS w29 w37 cd 1 1 0 0 0 := gS.big hcd ((e_Has.get q31T (c := cd) (k := 0) (lo := 0) (hi := 4000) (kD_0 hcd) (by decide)).1) (by omega) q40f q40x (by omega) (by omega) (fun _ => Or.inl rfl) (fun g => by omega)
      have p45 := lpK.step (lpK.step (lpK.step p19 s25) s33) s43
      refine e_Ok.nrm (q := 32) (st' := [(0, z41)]) rfl rfl ?_
      refine e_Ok.run (t' := (34, [(1, (0, z41)), (0, (1, 1))], [(1, 1)], w37)) 2 rfl ?_
      refine e_Ok.callV rfl (e_dq hd rfl) rfl rfl rfl rfl (hB (by omega) d rfl w37 cd t lp ⟨q40T, (show e_Has kRy w37 from H_fr q40f (fun c k g => by unfold kEm at g; omega) q31H), ((q40f 1 3 (by unfold kEm; omega)).trans ((q31f 1 3 no_dn_0).trans ((q23f 1 3 (by unfold kRx; omega)).trans ((q14f 1 3 no_dn_1).trans ((q4g 1 3 no_dn_14).trans hc))))), hcd, (show tkR w37 from (q31k.fr q40f (fun k g => by unfold kEm; omega)))⟩ ((q40f 1 11 (by unfold kEm; omega)).trans ((q31f 1 11 no_dn_2).trans (q23o.trans ((q14f 1 11 no_dn_3).trans q4b)))) ((q40f 1 12 (by unfold kEm; omega)).trans ((q31f 1 12 no_dn_4).trans ((q23f 1 12 (by unfold kRx; omega)).trans ((q14f 1 12 no_dn_5).trans ((q4g 1 12 no_dn_15).trans ht))))) (by omega) ((q40f 1 13 (by unfold kEm; omega)).trans ((q31f 1 13 no_dn_6).trans ((q23f 1 13 (by unfold kRx; omega)).trans ((q14f 1 13 no_dn_7).trans ((q4g 1 13 no_dn_16).trans hlp))))) p45 trivial) (fun r47 w48 h49 => ?_)
      obtain ⟨rfl, q50f, ⟨q50T, q50H, q50c, -, q50k⟩, ⟨q50o, q50t, q50l⟩, q50x⟩ := h49
      have f51 : e_fr (kRt cd) w w48 := e_fr.trans (show e_fr (kRt cd) w w37 from e_fr.trans (show e_fr (kRt cd) w w29 from e_fr.trans (show e_fr (kRt cd) w w21 from e_fr.trans (show e_fr (kRt cd) w w12 from e_fr.trans (show e_fr (kRt cd) w w2 from e_fr.trans (e_fr.refl w) (e_fr.mono q4g (fun c k q => by first | exact su_dn_26 q | (unfold kRO at q; unfold kRt; omega)))) (e_fr.mono q14f (fun c k q => by first | exact su_dn_21 q | (unfold kRa at q; unfold kRt; omega)))) (e_fr.mono q23f (fun c k q => by first | exact su_dn_20 q | (unfold kRx at q; unfold kRt; omega)))) (e_fr.mono q31f (fun c k q => by first | exact su_dn_22 q | (unfold kRk at q; unfold kRt; omega)))) (e_fr.mono q40f (fun c k q => by first | exact su_dn_23 q | (unfold kEm at q; unfold kRt; omega)))) (e_fr.mono q50f (fun c k q => by exact q))
      have s52 : gS w37 w48 cd 0 0 0 0 0 := q50x
      have x53 : gS w w48 cd (-2) 1 0 0 0 := gS.trans (show gS w w37 cd (-2) 1 0 0 0 from gS.trans (show gS w w29 cd (-3) 1 0 1 0 from gS.trans (show gS w w21 cd (-2) 1 0 1 0 from gS.trans (show gS w w12 cd (-2) 1 0 1 0 from gS.trans (show gS w w2 cd 0 1 0 1 0 from gS.trans x0 s7 (by omega)) s17 (by omega)) s25 (by omega)) s33 (by omega)) s43 (by omega)) s52 (by omega)
      have p54 := zpl.step (show zpl w37 cd z41 41 from zpl.em hcd ((e_Has.get q31T (c := cd) (k := 0) (lo := 0) (hi := 4000) (kD_0 hcd) (by decide)).1) q40f q40x (by omega)) s52
      have p55 := lpK.step p45 s52
      refine e_Ok.nrm (q := 37) (st' := []) rfl rfl ?_
      refine e_Ok.ps1 (x := (1, 1)) (q := 38) 1 rfl ?_
      have h56 := (e_Has.get q50H (c := 1) (k := 5) (lo := 0) (hi := 53) rfl (by decide))
      refine e_Ok.getf (z := w48 1 5) rfl (el_o rfl) rfl rfl rfl (e_bq h56 (by decide) (by decide)) ?_
      refine e_Ok.ps1 (x := (0, 40)) (q := 43) 1 rfl ?_
      refine e_Ok.if2 rfl (fun h57 => ?_) (fun h57 => ?_)
      · replace h57 : (w48 1 5 : Int) ≠ 40 := h57
        refine e_Ok.ps1 (x := (1, 1)) (q := 89) 1 rfl ?_
        refine e_Ok.getr (z := cd) rfl (el_o rfl) rfl rfl ((q50f 1 3 (by unfold kRt; omega)).trans ((q40f 1 3 (by unfold kEm; omega)).trans ((q31f 1 3 no_dn_0).trans ((q23f 1 3 (by unfold kRx; omega)).trans ((q14f 1 3 no_dn_1).trans ((q4g 1 3 no_dn_14).trans hc)))))) (by omega) ?_
        refine e_Ok.ps2 (x := (1, 1)) (y := (0, z41)) (q := 94) 2 rfl ?_
        refine e_Ok.getr (z := cd) rfl (el_o rfl) rfl rfl ((q50f 1 3 (by unfold kRt; omega)).trans ((q40f 1 3 (by unfold kEm; omega)).trans ((q31f 1 3 no_dn_0).trans ((q23f 1 3 (by unfold kRx; omega)).trans ((q14f 1 3 no_dn_1).trans ((q4g 1 3 no_dn_14).trans hc)))))) (by omega) ?_
        have h58 := (e_Has.get q50T (c := cd) (k := 0) (lo := 0) (hi := 4000) (kD_0 hcd) (by decide))
        refine e_Ok.getf (z := w48 cd 0) rfl (lD0 hcd) rfl rfl rfl (e_bq h58 (by decide) (by decide)) ?_
        refine e_Ok.callV rfl (e_dq hd rfl) rfl (lD0 hcd) rfl rfl (c_22 q50T hcd (by omega) (by have g := e_Has.get q50T (c := cd) (k := 0) (lo := 0) (hi := 4000) (kD_0 hcd) (by decide); omega)) (fun r59 w60 h61 => ?_)
        obtain ⟨rfl, q62f, q62T, q62x⟩ := h61
        have q62k : tkR w60 := q50k.fr q62f (fun k g => by unfold kPa; omega)
        have s64 : gS w48 w60 cd 0 0 0 0 0 := gS.pat hcd ((e_Has.get q50T (c := cd) (k := 0) (lo := 0) (hi := 4000) (kD_0 hcd) (by decide)).1) q62f q62x (show w48 cd 0 = w48 cd 0 from Eq.symm rfl) p54 (by omega)
        refine e_Ok.nrm (q := 103) (st' := []) rfl rfl ?_
        refine e_Ok.ps2 (x := (0, 23)) (y := (1, 1)) (q := 106) 2 rfl ?_
        refine e_Ok.callV rfl (e_dq hd rfl) rfl rfl rfl rfl (c_129 (e_dq hd rfl) q62T (show e_Has kRy w60 from H_fr q62f (fun c k g => by unfold kPa at g; omega) q50H) q62k (by omega)) (fun r68 w69 h70 => ?_)
        obtain ⟨rfl, q71f, q71T, q71H, q71k, q71x⟩ := h70
        have s73 : gS w60 w69 cd (-3) 0 0 0 0 := gS.acc hcd ((e_Has.get q62T (c := cd) (k := 0) (lo := 0) (hi := 4000) (kD_0 hcd) (by decide)).1) (by omega) q71f q71x (fun g => q62k.a3 (by omega))
        refine e_Ok.nrm (q := 109) (st' := []) rfl rfl ?_
        refine e_Ok.ps2 (x := (1, 1)) (y := (1, 1)) (q := 111) 2 rfl ?_
        refine e_Ok.getf (z := o + 1) rfl (el_o rfl) rfl rfl ((q71f 1 11 no_dn_2).trans ((q62f 1 11 (by unfold kPa; omega)).trans (q50o.trans ((q40f 1 11 (by unfold kEm; omega)).trans ((q31f 1 11 no_dn_2).trans (q23o.trans ((q14f 1 11 no_dn_3).trans q4b))))))) (by omega) ?_
        refine e_Ok.ps1 (x := (0, 1)) (q := 115) 1 rfl ?_
        refine e_Ok.sub' (z := o) rfl (by omega) (by omega) ?_
        refine e_Ok.putf rfl (el_o rfl) rfl rfl ?_
        generalize hw77 : e_up w69 1 11 o = w77
        have hT79 : e_Has kTy w77 := e_Has.ups q71T hw77 (kt_o rfl)
        have hH80 : e_Has kRy w77 := e_Has.upr q71H hw77 rfl (by omega)
        have g82 : e_fr (fun c k => c = 1 ∧ 11 ≤ k ∧ k ≤ 13) w69 w77 := fun c k g => by have g2 : ¬ (c = 1 ∧ 11 ≤ k ∧ k ≤ 13) := g; rw [← hw77]; exact e_up_ne _ _ (by omega)
        have s83 : gS w69 w77 cd 0 0 0 0 0 := gS.wr hcd ((e_Has.get q71T (c := cd) (k := 0) (lo := 0) (hi := 4000) (kD_0 hcd) (by decide)).1) (by omega) g82
        refine e_Ok.rets rfl rfl ?_
        exact ⟨rfl, (show e_fr (kRt cd) w w77 from e_fr.up (show e_fr (kRt cd) w w69 from e_fr.trans (show e_fr (kRt cd) w w60 from e_fr.trans f51 (e_fr.mono q62f (fun c k q => by first | exact su_dn_27 q | (unfold kPa at q; unfold kRt; omega)))) (e_fr.mono q71f (fun c k q => by first | exact su_dn_22 q | (unfold kRk at q; unfold kRt; omega)))) hw77 (by first | exact Or.inl ⟨rfl, Or.inr (Or.inr ⟨(by decide), (by decide)⟩)⟩ | (unfold kRt; omega))), ⟨hT79, hH80, (e_uq hw77 (Or.inr (by first | decide | omega)) ((q71f 1 3 no_dn_0).trans ((q62f 1 3 (by unfold kPa; omega)).trans ((q50f 1 3 (by unfold kRt; omega)).trans ((q40f 1 3 (by unfold kEm; omega)).trans ((q31f 1 3 no_dn_0).trans ((q23f 1 3 (by unfold kRx; omega)).trans ((q14f 1 3 no_dn_1).trans ((q4g 1 3 no_dn_14).trans hc))))))))), hcd, (show tkR w77 from q71k.eq (fun k g => by rw [← hw77]; exact e_up_ne _ _ (by omega)))⟩, ⟨(by have g1 : w77 1 11 = o := (e_ue hw77); have g0 : w 1 11 = o := ho; omega), (by have g1 : w77 1 12 = t := (e_uq hw77 (Or.inr (by first | decide | omega)) ((q71f 1 12 no_dn_4).trans ((q62f 1 12 (by unfold kPa; omega)).trans (q50t.trans ((q40f 1 12 (by unfold kEm; omega)).trans ((q31f 1 12 no_dn_4).trans ((q23f 1 12 (by unfold kRx; omega)).trans ((q14f 1 12 no_dn_5).trans ((q4g 1 12 no_dn_15).trans ht))))))))); have g0 : w 1 12 = t := ht; omega), (by have g1 : w77 1 13 = lp := (e_uq hw77 (Or.inr (by first | decide | omega)) ((q71f 1 13 no_dn_6).trans ((q62f 1 13 (by unfold kPa; omega)).trans (q50l.trans ((q40f 1 13 (by unfold kEm; omega)).trans ((q31f 1 13 no_dn_6).trans ((q23f 1 13 (by unfold kRx; omega)).trans ((q14f 1 13 no_dn_7).trans ((q4g 1 13 no_dn_16).trans hlp))))))))); have g0 : w 1 13 = lp := hlp; omega)⟩, (show gS w w77 cd (-5) 1 0 0 0 from gS.trans (show gS w w69 cd (-5) 1 0 0 0 from gS.trans (show gS w w60 cd (-2) 1 0 0 0 from gS.trans x53 s64 (by omega)) s73 (by omega)) s83 (by omega)).le (by omega)⟩
      · replace h57 : (w48 1 5 : Int) = 40 := Classical.not_not.mp (show ¬ ((w48 1 5 : Int) ≠ 40) from h57)
        refine e_Ok.ps1 (x := (1, 1)) (q := 47) 1 rfl ?_
        refine e_Ok.callV rfl (e_dq hd rfl) rfl rfl rfl rfl (c_123 (e_dq hd rfl) q50T q50H q50k.1.2) (fun r87 w88 h89 => ?_)
        obtain ⟨rfl, q90f, q90T, q90H, q90k, q90x, q904⟩ := h89
        have s92 : gS w48 w88 cd (-2) 0 0 0 0 := gS.adv hcd ((e_Has.get q50T (c := cd) (k := 0) (lo := 0) (hi := 4000) (kD_0 hcd) (by decide)).1) (by omega) q90f q90x (q50k.a2 (by omega))
        refine e_Ok.nrm (q := 50) (st' := []) rfl rfl ?_
        refine e_Ok.ps2 (x := (0, 20)) (y := (1, 1)) (q := 53) 2 rfl ?_
        refine e_Ok.callV rfl (e_dq hd rfl) rfl rfl rfl rfl (c_129 (e_dq hd rfl) q90T q90H q90k (by omega)) (fun r101 w103 h104 => ?_)
        obtain ⟨rfl, q105f, q105T, q105H, q105k, q105x⟩ := h104
        have s107 : gS w88 w103 cd (-1) 0 0 0 0 := gS.acc hcd ((e_Has.get q90T (c := cd) (k := 0) (lo := 0) (hi := 4000) (kD_0 hcd) (by decide)).1) (by omega) q105f q105x (fun g => q90k.a1 (by omega))
        refine e_Ok.nrm (q := 56) (st' := []) rfl rfl ?_
        refine e_Ok.ps1 (x := (1, 1)) (q := 57) 1 rfl ?_
        refine e_Ok.getr (z := cd) rfl (el_o rfl) rfl rfl ((q105f 1 3 no_dn_0).trans ((q90f 1 3 no_dn_1).trans ((q50f 1 3 (by unfold kRt; omega)).trans ((q40f 1 3 (by unfold kEm; omega)).trans ((q31f 1 3 no_dn_0).trans ((q23f 1 3 (by unfold kRx; omega)).trans ((q14f 1 3 no_dn_1).trans ((q4g 1 3 no_dn_14).trans hc)))))))) (by omega) ?_
        refine e_Ok.ps2 (x := (0, 0)) (y := (0, 40)) (q := 63) 2 rfl ?_
        refine e_Ok.callV rfl (e_dq hd rfl) rfl (lD0 hcd) rfl rfl (c_21 q105T hcd (by omega) (by omega)) (fun r111 w112 h113 => ?_)
        obtain ⟨z115, rfl, q114f, q114T, q114x⟩ := h113
        have q114z : 0 ≤ z115 ∧ z115 ≤ 4000 := by have g := e_Has.get q105T (c := cd) (k := 0) (lo := 0) (hi := 4000) (kD_0 hcd) (by decide); unfold emQ at q114x; omega
        have s117 : gS w103 w112 cd 1 0 0 0 0 := gS.big hcd ((e_Has.get q105T (c := cd) (k := 0) (lo := 0) (hi := 4000) (kD_0 hcd) (by decide)).1) (by omega) q114f q114x (by omega) (by omega) (fun _ => Or.inl rfl) (fun g => by omega)
        have p119 := zpl.step (zpl.step (zpl.step p54 s92) s107) s117
        refine e_Ok.nrm (q := 66) (st' := [(0, z115)]) rfl rfl ?_
        refine e_Ok.run (t' := (68, [(2, (0, z115)), (1, (0, z41)), (0, (1, 1))], [(1, 1)], w112)) 2 rfl ?_
        refine e_Ok.getr (z := cd) rfl (el_o rfl) rfl rfl ((q114f 1 3 (by unfold kEm; omega)).trans ((q105f 1 3 no_dn_0).trans ((q90f 1 3 no_dn_1).trans ((q50f 1 3 (by unfold kRt; omega)).trans ((q40f 1 3 (by unfold kEm; omega)).trans ((q31f 1 3 no_dn_0).trans ((q23f 1 3 (by unfold kRx; omega)).trans ((q14f 1 3 no_dn_1).trans ((q4g 1 3 no_dn_14).trans hc))))))))) (by omega) ?_
        refine e_Ok.ps2 (x := (1, 1)) (y := (0, z41)) (q := 73) 2 rfl ?_
        refine e_Ok.getr (z := cd) rfl (el_o rfl) rfl rfl ((q114f 1 3 (by unfold kEm; omega)).trans ((q105f 1 3 no_dn_0).trans ((q90f 1 3 no_dn_1).trans ((q50f 1 3 (by unfold kRt; omega)).trans ((q40f 1 3 (by unfold kEm; omega)).trans ((q31f 1 3 no_dn_0).trans ((q23f 1 3 (by unfold kRx; omega)).trans ((q14f 1 3 no_dn_1).trans ((q4g 1 3 no_dn_14).trans hc))))))))) (by omega) ?_
        have h122 := (e_Has.get q114T (c := cd) (k := 0) (lo := 0) (hi := 4000) (kD_0 hcd) (by decide))
        refine e_Ok.getf (z := w112 cd 0) rfl (lD0 hcd) rfl rfl rfl (e_bq h122 (by decide) (by decide)) ?_
        refine e_Ok.callV rfl (e_dq hd rfl) rfl (lD0 hcd) rfl rfl (c_22 q114T hcd (by omega) (by have g := e_Has.get q114T (c := cd) (k := 0) (lo := 0) (hi := 4000) (kD_0 hcd) (by decide); omega)) (fun r123 w124 h125 => ?_)
        obtain ⟨rfl, q126f, q126T, q126x⟩ := h125
        have s128 : gS w112 w124 cd 0 0 0 0 0 := gS.pat hcd ((e_Has.get q114T (c := cd) (k := 0) (lo := 0) (hi := 4000) (kD_0 hcd) (by decide)).1) q126f q126x (show w112 cd 0 = w112 cd 0 from Eq.symm rfl) p119 (by omega)
        have p132 := lpK.step (lpK.step (lpK.step (lpK.step p55 s92) s107) s117) s128
        refine e_Ok.nrm (q := 82) (st' := []) rfl rfl ?_
        refine e_Ok.run (t' := (85, [(1, (0, z115)), (2, (0, z115)), (0, (1, 1))], [(1, 1)], w124)) 3 rfl ?_
        refine e_Ok.callV rfl (e_dq hd rfl) rfl rfl rfl rfl (hB (by omega) d rfl w124 cd t lp ⟨q126T, (show e_Has kRy w124 from H_fr q126f (fun c k g => by unfold kPa at g; omega) (show e_Has kRy w112 from H_fr q114f (fun c k g => by unfold kEm at g; omega) q105H)), ((q126f 1 3 (by unfold kPa; omega)).trans ((q114f 1 3 (by unfold kEm; omega)).trans ((q105f 1 3 no_dn_0).trans ((q90f 1 3 no_dn_1).trans ((q50f 1 3 (by unfold kRt; omega)).trans ((q40f 1 3 (by unfold kEm; omega)).trans ((q31f 1 3 no_dn_0).trans ((q23f 1 3 (by unfold kRx; omega)).trans ((q14f 1 3 no_dn_1).trans ((q4g 1 3 no_dn_14).trans hc)))))))))), hcd, (show tkR w124 from (show tkR w112 from (q105k.fr q114f (fun k g => by unfold kEm; omega))).fr q126f (fun k g => by unfold kPa; omega))⟩ ((q126f 1 11 (by unfold kPa; omega)).trans ((q114f 1 11 (by unfold kEm; omega)).trans ((q105f 1 11 no_dn_2).trans ((q90f 1 11 no_dn_3).trans (q50o.trans ((q40f 1 11 (by unfold kEm; omega)).trans ((q31f 1 11 no_dn_2).trans (q23o.trans ((q14f 1 11 no_dn_3).trans q4b))))))))) ((q126f 1 12 (by unfold kPa; omega)).trans ((q114f 1 12 (by unfold kEm; omega)).trans ((q105f 1 12 no_dn_4).trans ((q90f 1 12 no_dn_5).trans (q50t.trans ((q40f 1 12 (by unfold kEm; omega)).trans ((q31f 1 12 no_dn_4).trans ((q23f 1 12 (by unfold kRx; omega)).trans ((q14f 1 12 no_dn_5).trans ((q4g 1 12 no_dn_15).trans ht)))))))))) (by omega) ((q126f 1 13 (by unfold kPa; omega)).trans ((q114f 1 13 (by unfold kEm; omega)).trans ((q105f 1 13 no_dn_6).trans ((q90f 1 13 no_dn_7).trans (q50l.trans ((q40f 1 13 (by unfold kEm; omega)).trans ((q31f 1 13 no_dn_6).trans ((q23f 1 13 (by unfold kRx; omega)).trans ((q14f 1 13 no_dn_7).trans ((q4g 1 13 no_dn_16).trans hlp)))))))))) p132 trivial) (fun r133 w134 h135 => ?_)
        obtain ⟨rfl, q136f, ⟨q136T, q136H, q136c, -, q136k⟩, ⟨q136o, q136t, q136l⟩, q136x⟩ := h135
        have s138 : gS w124 w134 cd 0 0 0 0 0 := q136x
        have p141 := zpl.step (zpl.step (show zpl w112 cd z115 40 from zpl.em hcd ((e_Has.get q105T (c := cd) (k := 0) (lo := 0) (hi := 4000) (kD_0 hcd) (by decide)).1) q114f q114x (by omega)) s128) s138
        refine e_Ok.nrm (q := 88) (st' := []) rfl rfl ?_
        refine e_Ok.ps1 (x := (1, 1)) (q := 89) 1 rfl ?_
        refine e_Ok.getr (z := cd) rfl (el_o rfl) rfl rfl ((q136f 1 3 (by unfold kRt; omega)).trans ((q126f 1 3 (by unfold kPa; omega)).trans ((q114f 1 3 (by unfold kEm; omega)).trans ((q105f 1 3 no_dn_0).trans ((q90f 1 3 no_dn_1).trans ((q50f 1 3 (by unfold kRt; omega)).trans ((q40f 1 3 (by unfold kEm; omega)).trans ((q31f 1 3 no_dn_0).trans ((q23f 1 3 (by unfold kRx; omega)).trans ((q14f 1 3 no_dn_1).trans ((q4g 1 3 no_dn_14).trans hc))))))))))) (by omega) ?_
        refine e_Ok.ps2 (x := (1, 1)) (y := (0, z115)) (q := 94) 2 rfl ?_
        refine e_Ok.getr (z := cd) rfl (el_o rfl) rfl rfl ((q136f 1 3 (by unfold kRt; omega)).trans ((q126f 1 3 (by unfold kPa; omega)).trans ((q114f 1 3 (by unfold kEm; omega)).trans ((q105f 1 3 no_dn_0).trans ((q90f 1 3 no_dn_1).trans ((q50f 1 3 (by unfold kRt; omega)).trans ((q40f 1 3 (by unfold kEm; omega)).trans ((q31f 1 3 no_dn_0).trans ((q23f 1 3 (by unfold kRx; omega)).trans ((q14f 1 3 no_dn_1).trans ((q4g 1 3 no_dn_14).trans hc))))))))))) (by omega) ?_
        have h143 := (e_Has.get q136T (c := cd) (k := 0) (lo := 0) (hi := 4000) (kD_0 hcd) (by decide))
        refine e_Ok.getf (z := w134 cd 0) rfl (lD0 hcd) rfl rfl rfl (e_bq h143 (by decide) (by decide)) ?_
        refine e_Ok.callV rfl (e_dq hd rfl) rfl (lD0 hcd) rfl rfl (c_22 q136T hcd (by omega) (by have g := e_Has.get q136T (c := cd) (k := 0) (lo := 0) (hi := 4000) (kD_0 hcd) (by decide); omega)) (fun r144 w145 h146 => ?_)
        obtain ⟨rfl, q147f, q147T, q147x⟩ := h146
        have q147k : tkR w145 := q136k.fr q147f (fun k g => by unfold kPa; omega)
        have s149 : gS w134 w145 cd 0 0 0 0 0 := gS.pat hcd ((e_Has.get q136T (c := cd) (k := 0) (lo := 0) (hi := 4000) (kD_0 hcd) (by decide)).1) q147f q147x (show w134 cd 0 = w134 cd 0 from Eq.symm rfl) p141 (by omega)
        refine e_Ok.nrm (q := 103) (st' := []) rfl rfl ?_
        refine e_Ok.ps2 (x := (0, 23)) (y := (1, 1)) (q := 106) 2 rfl ?_
        refine e_Ok.callV rfl (e_dq hd rfl) rfl rfl rfl rfl (c_129 (e_dq hd rfl) q147T (show e_Has kRy w145 from H_fr q147f (fun c k g => by unfold kPa at g; omega) q136H) q147k (by omega)) (fun r154 w155 h156 => ?_)
        obtain ⟨rfl, q157f, q157T, q157H, q157k, q157x⟩ := h156
        have s159 : gS w145 w155 cd (-3) 0 0 0 0 := gS.acc hcd ((e_Has.get q147T (c := cd) (k := 0) (lo := 0) (hi := 4000) (kD_0 hcd) (by decide)).1) (by omega) q157f q157x (fun g => q147k.a3 (by omega))
        refine e_Ok.nrm (q := 109) (st' := []) rfl rfl ?_
        refine e_Ok.ps2 (x := (1, 1)) (y := (1, 1)) (q := 111) 2 rfl ?_
        refine e_Ok.getf (z := o + 1) rfl (el_o rfl) rfl rfl ((q157f 1 11 no_dn_2).trans ((q147f 1 11 (by unfold kPa; omega)).trans (q136o.trans ((q126f 1 11 (by unfold kPa; omega)).trans ((q114f 1 11 (by unfold kEm; omega)).trans ((q105f 1 11 no_dn_2).trans ((q90f 1 11 no_dn_3).trans (q50o.trans ((q40f 1 11 (by unfold kEm; omega)).trans ((q31f 1 11 no_dn_2).trans (q23o.trans ((q14f 1 11 no_dn_3).trans q4b)))))))))))) (by omega) ?_
        refine e_Ok.ps1 (x := (0, 1)) (q := 115) 1 rfl ?_
        refine e_Ok.sub' (z := o) rfl (by omega) (by omega) ?_
        refine e_Ok.putf rfl (el_o rfl) rfl rfl ?_
        generalize hw164 : e_up w155 1 11 o = w164
        have hT166 : e_Has kTy w164 := e_Has.ups q157T hw164 (kt_o rfl)
        have hH167 : e_Has kRy w164 := e_Has.upr q157H hw164 rfl (by omega)
        have g169 : e_fr (fun c k => c = 1 ∧ 11 ≤ k ∧ k ≤ 13) w155 w164 := fun c k g => by have g2 : ¬ (c = 1 ∧ 11 ≤ k ∧ k ≤ 13) := g; rw [← hw164]; exact e_up_ne _ _ (by omega)
        have s170 : gS w155 w164 cd 0 0 0 0 0 := gS.wr hcd ((e_Has.get q157T (c := cd) (k := 0) (lo := 0) (hi := 4000) (kD_0 hcd) (by decide)).1) (by omega) g169
        refine e_Ok.rets rfl rfl ?_
        exact ⟨rfl, (show e_fr (kRt cd) w w164 from e_fr.up (show e_fr (kRt cd) w w155 from e_fr.trans (show e_fr (kRt cd) w w145 from e_fr.trans (show e_fr (kRt cd) w w134 from e_fr.trans (show e_fr (kRt cd) w w124 from e_fr.trans (show e_fr (kRt cd) w w112 from e_fr.trans (show e_fr (kRt cd) w w103 from e_fr.trans (show e_fr (kRt cd) w w88 from e_fr.trans f51 (e_fr.mono q90f (fun c k q => by first | exact su_dn_21 q | (unfold kRa at q; unfold kRt; omega)))) (e_fr.mono q105f (fun c k q => by first | exact su_dn_22 q | (unfold kRk at q; unfold kRt; omega)))) (e_fr.mono q114f (fun c k q => by first | exact su_dn_23 q | (unfold kEm at q; unfold kRt; omega)))) (e_fr.mono q126f (fun c k q => by first | exact su_dn_27 q | (unfold kPa at q; unfold kRt; omega)))) (e_fr.mono q136f (fun c k q => by exact q))) (e_fr.mono q147f (fun c k q => by first | exact su_dn_27 q | (unfold kPa at q; unfold kRt; omega)))) (e_fr.mono q157f (fun c k q => by first | exact su_dn_22 q | (unfold kRk at q; unfold kRt; omega)))) hw164 (by first | exact Or.inl ⟨rfl, Or.inr (Or.inr ⟨(by decide), (by decide)⟩)⟩ | (unfold kRt; omega))), ⟨hT166, hH167, (e_uq hw164 (Or.inr (by first | decide | omega)) ((q157f 1 3 no_dn_0).trans ((q147f 1 3 (by unfold kPa; omega)).trans ((q136f 1 3 (by unfold kRt; omega)).trans ((q126f 1 3 (by unfold kPa; omega)).trans ((q114f 1 3 (by unfold kEm; omega)).trans ((q105f 1 3 no_dn_0).trans ((q90f 1 3 no_dn_1).trans ((q50f 1 3 (by unfold kRt; omega)).trans ((q40f 1 3 (by unfold kEm; omega)).trans ((q31f 1 3 no_dn_0).trans ((q23f 1 3 (by unfold kRx; omega)).trans ((q14f 1 3 no_dn_1).trans ((q4g 1 3 no_dn_14).trans hc)))))))))))))), hcd, (show tkR w164 from q157k.eq (fun k g => by rw [← hw164]; exact e_up_ne _ _ (by omega)))⟩, ⟨(by have g1 : w164 1 11 = o := (e_ue hw164); have g0 : w 1 11 = o := ho; omega), (by have g1 : w164 1 12 = t := (e_uq hw164 (Or.inr (by first | decide | omega)) ((q157f 1 12 no_dn_4).trans ((q147f 1 12 (by unfold kPa; omega)).trans (q136t.trans ((q126f 1 12 (by unfold kPa; omega)).trans ((q114f 1 12 (by unfold kEm; omega)).trans ((q105f 1 12 no_dn_4).trans ((q90f 1 12 no_dn_5).trans (q50t.trans ((q40f 1 12 (by unfold kEm; omega)).trans ((q31f 1 12 no_dn_4).trans ((q23f 1 12 (by unfold kRx; omega)).trans ((q14f 1 12 no_dn_5).trans ((q4g 1 12 no_dn_15).trans ht)))))))))))))); have g0 : w 1 12 = t := ht; omega), (by have g1 : w164 1 13 = lp := (e_uq hw164 (Or.inr (by first | decide | omega)) ((q157f 1 13 no_dn_6).trans ((q147f 1 13 (by unfold kPa; omega)).trans (q136l.trans ((q126f 1 13 (by unfold kPa; omega)).trans ((q114f 1 13 (by unfold kEm; omega)).trans ((q105f 1 13 no_dn_6).trans ((q90f 1 13 no_dn_7).trans (q50l.trans ((q40f 1 13 (by unfold kEm; omega)).trans ((q31f 1 13 no_dn_6).trans ((q23f 1 13 (by unfold kRx; omega)).trans ((q14f 1 13 no_dn_7).trans ((q4g 1 13 no_dn_16).trans hlp)))))))))))))); have g0 : w 1 13 = lp := hlp; omega)⟩, (show gS w w164 cd (-7) 1 0 0 0 from gS.trans (show gS w w155 cd (-7) 1 0 0 0 from gS.trans (show gS w w145 cd (-4) 1 0 0 0 from gS.trans (show gS w w134 cd (-4) 1 0 0 0 from gS.trans (show gS w w124 cd (-4) 1 0 0 0 from gS.trans (show gS w w112 cd (-4) 1 0 0 0 from gS.trans (show gS w w103 cd (-5) 1 0 0 0 from gS.trans (show gS w w88 cd (-4) 1 0 0 0 from gS.trans x53 s92 (by omega)) s107 (by omega)) s117 (by omega)) s128 (by omega)) s138 (by omega)) s149 (by omega)) s159 (by omega)) s170 (by omega)).le (by omega)⟩
    · replace h10 : (1 : Int) = 0 := Classical.not_not.mp (show ¬ ((1 : Int) ≠ 0) from h10)
      exfalso; omega
  · refine e_Ok.nrm (q := 4) (st' := [(0, 0)]) rfl rfl ?_
    have q4n := q4a
    have s176 : gS w w2 cd 0 1 0 1 0 := gS.dead q4n
    refine e_Ok.if1 rfl (fun h179 => ?_) (fun h179 => ?_)
    · replace h179 : (0 : Int) ≠ 0 := h179
      exfalso; omega
    · replace h179 : (0 : Int) = 0 := Classical.not_not.mp (show ¬ ((0 : Int) ≠ 0) from h179)
      refine e_Ok.rets rfl rfl ?_
      exact ⟨rfl, (show e_fr (kRt cd) w w2 from e_fr.trans (e_fr.refl w) (e_fr.mono q4d (fun c k q => by first | exact su_dn_22 q | (unfold kRk at q; unfold kRt; omega)))), ⟨q4T, q4H, ((q4d 1 3 no_dn_0).trans hc), hcd, q4k⟩, ⟨(by have g1 : w2 1 11 = o := ((q4d 1 11 no_dn_2).trans ho); have g0 : w 1 11 = o := ho; omega), (by have g1 : w2 1 12 = t := ((q4d 1 12 no_dn_4).trans ht); have g0 : w 1 12 = t := ht; omega), (by have g1 : w2 1 13 = lp := ((q4d 1 13 no_dn_6).trans hlp); have g0 : w 1 13 = lp := hlp; omega)⟩, gS.dead q4n⟩
set_option maxHeartbeats 4000000 in
theorem c_155 {d : Nat} (hd : 281 ≤ d) {w : eW} {cd o : Int} (hS : rS w cd) (ho : w 1 11 = o) (hor : 0 ≤ o ∧ o ≤ 30) {t lp : Int} (ht : w 1 12 = t) (htr : 0 ≤ t ∧ t ≤ o) (hlp : w 1 13 = lp) (hlk : lpK w cd lp) (h5 : w 1 5 = 41) (hB : o < 30 → ∀ k, d = k + 1 → zgC 144 (o + 1) 0 0 (fun _ => True) k) : e_Ok 20 elay kcode eI d 155 (0, [(0, (1, 1))], [], w) (fun r w' => r = [] ∧ gQ w w' cd 0 0 0) := by
  obtain ⟨d, rfl⟩ : ∃ e, d = e + 1 := ⟨d - 1, by omega⟩
  obtain ⟨hT, hH, hc, hcd, hk⟩ := hS
  have hcd2 := hcd; unfold isCd at hcd2
  have hcd3 : 2 ≤ cd ∧ cd ≤ 145 := by omega
  have pL := e_Has.get hT (c := cd) (k := 0) (lo := 0) (hi := 4000) (kD_0 hcd) (by decide)
  have p1 := e_Has.get hH (c := 1) (k := 1) (lo := (-2147483648)) (hi := 2147483647) rfl (by decide)
  have p5 := e_Has.get hH (c := 1) (k := 5) (lo := 0) (hi := 53) rfl (by decide)
  have p6 := e_Has.get hH (c := 1) (k := 6) (lo := 0) (hi := 4000) rfl (by decide)
  have p9 := e_Has.get hH (c := 1) (k := 9) (lo := (-2147483648)) (hi := 2147483647) rfl (by decide)
  have p7 := e_Has.get hH (c := 1) (k := 7) (lo := 0) (hi := 4000) rfl (by decide)
  have p12 := e_Has.get hH (c := 1) (k := 12) (lo := 0) (hi := 30) rfl (by decide)
  have p13 := e_Has.get hH (c := 1) (k := 13) (lo := (-1)) (hi := 4000) rfl (by decide)
  have x0 : gS w w cd 0 0 0 0 0 := gS.refl pL.1
  refine e_Ok.ps1 (x := (1, 1)) (q := 1) 1 rfl ?_
  refine e_Ok.callV rfl (e_dq hd rfl) rfl rfl rfl rfl (c_132 (e_dq hd rfl) hT hH hk (o := o) ho (by omega)) (fun r1 w2 h3 => ?_)
  obtain ⟨z5, rfl, q4f, q4T, q4H, q4k, ⟨rfl, q4a, q4b, q4c⟩ | ⟨rfl, q4a, q4b, q4c, q4d⟩⟩ := h3
  · refine e_Ok.nrm (q := 4) (st' := [(0, 1)]) rfl rfl ?_
    have q4g : e_fr kRO w w2 := fun c k g => by have g2 : ¬ (c = 1 ∧ k = 11) := g; by_cases h : c = 1 ∧ (k = 12 ∨ k = 13); (exact q4f c k (by unfold kRo; omega)); (exact q4c c k (show ¬ (c = 1 ∧ 11 ≤ k ∧ k ≤ 13) from by omega))
    have s7 : gS w w2 cd 0 0 0 0 0 := gS.wr hcd ((e_Has.get hT (c := cd) (k := 0) (lo := 0) (hi := 4000) (kD_0 hcd) (by decide)).1) (by omega) q4c
    have p9 := lpK.step hlk s7
    refine e_Ok.if1 rfl (fun h10 => ?_) (fun h10 => ?_)
    · replace h10 : (1 : Int) ≠ 0 := h10
      refine e_Ok.ps1 (x := (1, 1)) (q := 9) 1 rfl ?_
      refine e_Ok.getf (z := lp) rfl (el_o rfl) rfl rfl ((q4g 1 13 no_dn_16).trans hlp) (by omega) ?_
      refine e_Ok.run (t' := (15, [(1, (0, lp)), (0, (1, 1))], [(1, 1), (1, 1)], w2)) 3 rfl ?_
      refine e_Ok.getr (z := cd) rfl (el_o rfl) rfl rfl ((q4g 1 3 no_dn_14).trans hc) (by omega) ?_
      refine e_Ok.ps2 (x := (1, 1)) (y := (0, 45)) (q := 21) 2 rfl ?_
      refine e_Ok.getf (z := t) rfl (el_o rfl) rfl rfl ((q4g 1 12 no_dn_15).trans ht) (by omega) ?_
      refine e_Ok.callV rfl (e_dq hd rfl) rfl (lD0 hcd) rfl rfl (c_21 q4T hcd (by omega) (by omega)) (fun r11 w12 h13 => ?_)
      obtain ⟨z15, rfl, q14f, q14T, q14x⟩ := h13
      have q14z : 0 ≤ z15 ∧ z15 ≤ 4000 := by have g := e_Has.get q4T (c := cd) (k := 0) (lo := 0) (hi := 4000) (kD_0 hcd) (by decide); unfold emQ at q14x; omega
      have s17 : gS w2 w12 cd 1 0 0 0 0 := gS.big hcd ((e_Has.get q4T (c := cd) (k := 0) (lo := 0) (hi := 4000) (kD_0 hcd) (by decide)).1) (by omega) q14f q14x (by omega) (by omega) (fun g => by omega) (fun g => by omega)
      have p19 := lpK.step p9 s17
      refine e_Ok.nrm (q := 27) (st' := [(0, z15), (1, 1)]) rfl rfl ?_
      refine e_Ok.putf rfl (el_o rfl) rfl rfl ?_
      generalize hw20 : e_up w12 1 13 z15 = w20
      have hT22 : e_Has kTy w20 := e_Has.ups q14T hw20 (kt_o rfl)
      have hH23 : e_Has kRy w20 := e_Has.upr (show e_Has kRy w12 from H_fr q14f (fun c k g => by unfold kEm at g; omega) q4H) hw20 rfl (by omega)
      have g25 : e_fr (fun c k => c = 1 ∧ 11 ≤ k ∧ k ≤ 13) w12 w20 := fun c k g => by have g2 : ¬ (c = 1 ∧ 11 ≤ k ∧ k ≤ 13) := g; rw [← hw20]; exact e_up_ne _ _ (by omega)
      have s26 : gS w12 w20 cd 0 0 0 0 0 := gS.wr hcd ((e_Has.get q14T (c := cd) (k := 0) (lo := 0) (hi := 4000) (kD_0 hcd) (by decide)).1) (by omega) g25
      refine e_Ok.ps1 (x := (1, 1)) (q := 31) 1 rfl ?_
      refine e_Ok.getf (z := z15) rfl (el_o rfl) rfl rfl (e_ue hw20) (by omega) ?_
      refine e_Ok.run (t' := (36, [(2, (0, z15)), (1, (0, lp)), (0, (1, 1))], [(1, 1)], w20)) 2 rfl ?_
      refine e_Ok.getr (z := cd) rfl (el_o rfl) rfl rfl (e_uq hw20 (Or.inr (by decide)) ((q14f 1 3 (by unfold kEm; omega)).trans ((q4g 1 3 no_dn_14).trans hc))) (by omega) ?_
      refine e_Ok.ps2 (x := (0, 0)) (y := (0, 49)) (q := 42) 2 rfl ?_
      refine e_Ok.callV rfl (e_dq hd rfl) rfl (lD0 hcd) rfl rfl (c_21 hT22 hcd (by omega) (by omega)) (fun r29 w30 h31 => ?_)
      obtain ⟨z33, rfl, q32f, q32T, q32x⟩ := h31
      have q32z : 0 ≤ z33 ∧ z33 ≤ 4000 := by have g := e_Has.get hT22 (c := cd) (k := 0) (lo := 0) (hi := 4000) (kD_0 hcd) (by decide); unfold emQ at q32x; omega
      have s35 : gS w20 w30 cd 1 0 0 0 0 := gS.big hcd ((e_Has.get hT22 (c := cd) (k := 0) (lo := 0) (hi := 4000) (kD_0 hcd) (by decide)).1) (by omega) q32f q32x (by omega) (by omega) (fun _ => Or.inl rfl) (fun g => by omega)
      refine e_Ok.nrm (q := 45) (st' := [(0, z33)]) rfl rfl ?_
      refine e_Ok.run (t' := (47, [(2, (0, z15)), (1, (0, lp)), (0, (1, 1))], [(1, 1)], w30)) 2 rfl ?_
      refine e_Ok.getr (z := cd) rfl (el_o rfl) rfl rfl ((q32f 1 3 (by unfold kEm; omega)).trans (e_uq hw20 (Or.inr (by decide)) ((q14f 1 3 (by unfold kEm; omega)).trans ((q4g 1 3 no_dn_14).trans hc)))) (by omega) ?_
      refine e_Ok.ps2 (x := (0, 0)) (y := (0, 50)) (q := 53) 2 rfl ?_
      refine e_Ok.callV rfl (e_dq hd rfl) rfl (lD0 hcd) rfl rfl (c_21 q32T hcd (by omega) (by omega)) (fun r40 w41 h42 => ?_)
      obtain ⟨z44, rfl, q43f, q43T, q43x⟩ := h42
      have q43k : tkR w41 := ((show tkR w30 from ((show tkR w20 from (show tkR w12 from (q4k.fr q14f (fun k g => by unfold kEm; omega))).eq (fun k g => by rw [← hw20]; exact e_up_ne _ _ (by omega))).fr q32f (fun k g => by unfold kEm; omega))).fr q43f (fun k g => by unfold kEm; omega))
      have q43z : 0 ≤ z44 ∧ z44 ≤ 4000 := by have g := e_Has.get q32T (c := cd) (k := 0) (lo := 0) (hi := 4000) (kD_0 hcd) (by decide); unfold emQ at q43x; omega
      have s46 : gS w30 w41 cd 1 0 0 1 0 := gS.beg hcd ((e_Has.get q32T (c := cd) (k := 0) (lo := 0) (hi := 4000) (kD_0 hcd) (by decide)).1) q43f q43x
      refine e_Ok.nrm (q := 56) (st' := [(0, z44)]) rfl rfl ?_
      refine e_Ok.run (t' := (58, [(3, (0, z44)), (2, (0, z15)), (1, (0, lp)), (0, (1, 1))], [(1, 1)], w41)) 2 rfl ?_
      refine e_Ok.callV rfl (e_dq hd rfl) rfl rfl rfl rfl (c_123 (e_dq hd rfl) q43T (show e_Has kRy w41 from H_fr q43f (fun c k g => by unfold kEm at g; omega) (show e_Has kRy w30 from H_fr q32f (fun c k g => by unfold kEm at g; omega) hH23)) q43k.1.2) (fun r51 w52 h53 => ?_)
      obtain ⟨rfl, q54f, q54T, q54H, q54k, q54x, q544⟩ := h53
      have k56 : w41 1 5 = w 1 5 := ((q43f 1 5 (by unfold kEm; omega)).trans ((q32f 1 5 (by unfold kEm; omega)).trans (e_uq hw20 (Or.inr (by decide)) ((q14f 1 5 (by unfold kEm; omega)).trans ((q4g 1 5 no_dn_13).trans rfl)))))
      have s57 : gS w41 w52 cd (-3) 1 0 1 0 := gS.adv hcd ((e_Has.get q43T (c := cd) (k := 0) (lo := 0) (hi := 4000) (kD_0 hcd) (by decide)).1) (by omega) q54f q54x (q43k.a3 (by omega))
      refine e_Ok.nrm (q := 61) (st' := []) rfl rfl ?_
      refine e_Ok.ps1 (x := (1, 1)) (q := 62) 1 rfl ?_
      refine e_Ok.callV rfl (e_dq hd rfl) rfl rfl rfl rfl (x_exp (o := (o + 1)) (by omega) (by omega) w52 cd ⟨q54T, q54H, ((q54f 1 3 no_dn_1).trans ((q43f 1 3 (by unfold kEm; omega)).trans ((q32f 1 3 (by unfold kEm; omega)).trans (e_uq hw20 (Or.inr (by first | decide | omega)) ((q14f 1 3 (by unfold kEm; omega)).trans ((q4g 1 3 no_dn_14).trans hc)))))), hcd, q54k⟩ ((q54f 1 11 no_dn_3).trans ((q43f 1 11 (by unfold kEm; omega)).trans ((q32f 1 11 (by unfold kEm; omega)).trans (e_uq hw20 (Or.inr (by first | decide | omega)) ((q14f 1 11 (by unfold kEm; omega)).trans q4b)))))) (fun r62 w63 h64 => ?_)
      obtain ⟨rfl, q65f, ⟨q65T, q65H, q65c, -, q65k⟩, q65o, q65x⟩ := h64
      have s67 : gS w52 w63 cd 0 1 0 1 0 := gS.ex q65x
      refine e_Ok.nrm (q := 65) (st' := []) rfl rfl ?_
      refine e_Ok.ps2 (x := (0, 20)) (y := (1, 1)) (q := 68) 2 rfl ?_
      refine e_Ok.callV rfl (e_dq hd rfl) rfl rfl rfl rfl (c_129 (e_dq hd rfl) q65T q65H q65k (by omega)) (fun r72 w73 h74 => ?_)
      obtain ⟨rfl, q75f, q75T, q75H, q75k, q75x⟩ := h74
      have s77 : gS w63 w73 cd (-1) 1 0 1 0 := gS.acc hcd ((e_Has.get q65T (c := cd) (k := 0) (lo := 0) (hi := 4000) (kD_0 hcd) (by decide)).1) (by omega) q75f q75x (fun g => q65k.a1 (by omega))
      refine e_Ok.nrm (q := 71) (st' := []) rfl rfl ?_
      refine e_Ok.ps1 (x := (1, 1)) (q := 72) 1 rfl ?_
      refine e_Ok.getr (z := cd) rfl (el_o rfl) rfl rfl ((q75f 1 3 no_dn_0).trans ((q65f 1 3 (by unfold kRx; omega)).trans ((q54f 1 3 no_dn_1).trans ((q43f 1 3 (by unfold kEm; omega)).trans ((q32f 1 3 (by unfold kEm; omega)).trans (e_uq hw20 (Or.inr (by decide)) ((q14f 1 3 (by unfold kEm; omega)).trans ((q4g 1 3 no_dn_14).trans hc)))))))) (by omega) ?_
      refine e_Ok.ps2 (x := (0, 0)) (y := (0, 41)) (q := 78) 2 rfl ?_
      refine e_Ok.callV rfl (e_dq hd rfl) rfl (lD0 hcd) rfl rfl (c_21 q75T hcd (by omega) (by omega)) (fun r82 w83 h84 => ?_)
      obtain ⟨z86, rfl, q85f, q85T, q85x⟩ := h84
      have q85z : 0 ≤ z86 ∧ z86 ≤ 4000 := by have g := e_Has.get q75T (c := cd) (k := 0) (lo := 0) (hi := 4000) (kD_0 hcd) (by decide); unfold emQ at q85x; omega
      have s88 : gS w73 w83 cd 1 1 0 0 0 := gS.big hcd ((e_Has.get q75T (c := cd) (k := 0) (lo := 0) (hi := 4000) (kD_0 hcd) (by decide)).1) (by omega) q85f q85x (by omega) (by omega) (fun _ => Or.inl rfl) (fun g => by omega)
      have p90 := zpl.step (zpl.step (zpl.step (zpl.step (zpl.step (show zpl w30 cd (z15 + 1) 49 from zpl.nx ((e_Has.get q4T (c := cd) (k := 0) (lo := 0) (hi := 4000) (kD_0 hcd) (by decide)).1) q14x (show w20 cd 0 = w12 cd 0 from (e_uq hw20 (Or.inr (by first | decide | omega)) rfl)) q32x (by omega)) s46) s57) s67) s77) s88
      refine e_Ok.nrm (q := 81) (st' := [(0, z86)]) rfl rfl ?_
      refine e_Ok.run (t' := (84, [(4, (0, z86)), (3, (0, z44)), (2, (0, z15)), (1, (0, lp)), (0, (1, 1))], [(1, 1)], w83)) 2 rfl ?_
      refine e_Ok.callV rfl (e_dq hd rfl) rfl rfl rfl rfl (hB (by omega) d rfl w83 cd t z15 ⟨q85T, (show e_Has kRy w83 from H_fr q85f (fun c k g => by unfold kEm at g; omega) q75H), ((q85f 1 3 (by unfold kEm; omega)).trans ((q75f 1 3 no_dn_0).trans ((q65f 1 3 (by unfold kRx; omega)).trans ((q54f 1 3 no_dn_1).trans ((q43f 1 3 (by unfold kEm; omega)).trans ((q32f 1 3 (by unfold kEm; omega)).trans (e_uq hw20 (Or.inr (by first | decide | omega)) ((q14f 1 3 (by unfold kEm; omega)).trans ((q4g 1 3 no_dn_14).trans hc))))))))), hcd, (show tkR w83 from (q75k.fr q85f (fun k g => by unfold kEm; omega)))⟩ ((q85f 1 11 (by unfold kEm; omega)).trans ((q75f 1 11 no_dn_2).trans (q65o.trans ((q54f 1 11 no_dn_3).trans ((q43f 1 11 (by unfold kEm; omega)).trans ((q32f 1 11 (by unfold kEm; omega)).trans (e_uq hw20 (Or.inr (by first | decide | omega)) ((q14f 1 11 (by unfold kEm; omega)).trans q4b)))))))) ((q85f 1 12 (by unfold kEm; omega)).trans ((q75f 1 12 no_dn_4).trans ((q65f 1 12 (by unfold kRx; omega)).trans ((q54f 1 12 no_dn_5).trans ((q43f 1 12 (by unfold kEm; omega)).trans ((q32f 1 12 (by unfold kEm; omega)).trans (e_uq hw20 (Or.inr (by first | decide | omega)) ((q14f 1 12 (by unfold kEm; omega)).trans ((q4g 1 12 no_dn_15).trans ht))))))))) (by omega) ((q85f 1 13 (by unfold kEm; omega)).trans ((q75f 1 13 no_dn_6).trans ((q65f 1 13 (by unfold kRx; omega)).trans ((q54f 1 13 no_dn_7).trans ((q43f 1 13 (by unfold kEm; omega)).trans ((q32f 1 13 (by unfold kEm; omega)).trans (e_ue hw20))))))) (Or.inr p90) trivial) (fun r94 w95 h101 => ?_)
      obtain ⟨rfl, q103f, ⟨q103T, q103H, q103c, -, q103k⟩, ⟨q103o, q103t, q103l⟩, q103x⟩ := h101
      have s105 : gS w83 w95 cd 0 0 0 0 0 := q103x
      refine e_Ok.nrm (q := 87) (st' := []) rfl rfl ?_
      refine e_Ok.ps2 (x := (0, 23)) (y := (1, 1)) (q := 90) 2 rfl ?_
      refine e_Ok.callV rfl (e_dq hd rfl) rfl rfl rfl rfl (c_129 (e_dq hd rfl) q103T q103H q103k (by omega)) (fun r111 w112 h113 => ?_)
      obtain ⟨rfl, q114f, q114T, q114H, q114k, q114x⟩ := h113
      have s116 : gS w95 w112 cd (-3) 0 0 0 0 := gS.acc hcd ((e_Has.get q103T (c := cd) (k := 0) (lo := 0) (hi := 4000) (kD_0 hcd) (by decide)).1) (by omega) q114f q114x (fun g => q103k.a3 (by omega))
      have p119 := zpl.step (zpl.step (zpl.step (zpl.step (zpl.step (zpl.step (show zpl w41 cd z44 50 from zpl.em hcd ((e_Has.get q32T (c := cd) (k := 0) (lo := 0) (hi := 4000) (kD_0 hcd) (by decide)).1) q43f q43x (by omega)) s57) s67) s77) s88) s105) s116
      refine e_Ok.nrm (q := 93) (st' := []) rfl rfl ?_
      refine e_Ok.ps1 (x := (1, 1)) (q := 94) 1 rfl ?_
      refine e_Ok.getr (z := cd) rfl (el_o rfl) rfl rfl ((q114f 1 3 no_dn_0).trans ((q103f 1 3 (by unfold kRt; omega)).trans ((q85f 1 3 (by unfold kEm; omega)).trans ((q75f 1 3 no_dn_0).trans ((q65f 1 3 (by unfold kRx; omega)).trans ((q54f 1 3 no_dn_1).trans ((q43f 1 3 (by unfold kEm; omega)).trans ((q32f 1 3 (by unfold kEm; omega)).trans (e_uq hw20 (Or.inr (by decide)) ((q14f 1 3 (by unfold kEm; omega)).trans ((q4g 1 3 no_dn_14).trans hc))))))))))) (by omega) ?_
      refine e_Ok.ps2 (x := (0, z44)) (y := (0, 40)) (q := 100) 2 rfl ?_
      refine e_Ok.callV rfl (e_dq hd rfl) rfl (lD0 hcd) rfl rfl (c_21 q114T hcd (by omega) (by omega)) (fun r122 w123 h124 => ?_)
      obtain ⟨z126, rfl, q125f, q125T, q125x⟩ := h124
      have q125z : 0 ≤ z126 ∧ z126 ≤ 4000 := by have g := e_Has.get q114T (c := cd) (k := 0) (lo := 0) (hi := 4000) (kD_0 hcd) (by decide); unfold emQ at q125x; omega
      have f127 : e_fr (kRt cd) w w123 := e_fr.trans (show e_fr (kRt cd) w w112 from e_fr.trans (show e_fr (kRt cd) w w95 from e_fr.trans (show e_fr (kRt cd) w w83 from e_fr.trans (show e_fr (kRt cd) w w73 from e_fr.trans (show e_fr (kRt cd) w w63 from e_fr.trans (show e_fr (kRt cd) w w52 from e_fr.trans (show e_fr (kRt cd) w w41 from e_fr.trans (show e_fr (kRt cd) w w30 from e_fr.trans (show e_fr (kRt cd) w w20 from e_fr.up (show e_fr (kRt cd) w w12 from e_fr.trans (show e_fr (kRt cd) w w2 from e_fr.trans (e_fr.refl w) (e_fr.mono q4g (fun c k q => by first | exact su_dn_26 q | (unfold kRO at q; unfold kRt; omega)))) (e_fr.mono q14f (fun c k q => by first | exact su_dn_23 q | (unfold kEm at q; unfold kRt; omega)))) hw20 (by first | exact Or.inl ⟨rfl, Or.inr (Or.inr ⟨(by decide), (by decide)⟩)⟩ | (unfold kRt; omega))) (e_fr.mono q32f (fun c k q => by first | exact su_dn_23 q | (unfold kEm at q; unfold kRt; omega)))) (e_fr.mono q43f (fun c k q => by first | exact su_dn_23 q | (unfold kEm at q; unfold kRt; omega)))) (e_fr.mono q54f (fun c k q => by first | exact su_dn_21 q | (unfold kRa at q; unfold kRt; omega)))) (e_fr.mono q65f (fun c k q => by first | exact su_dn_20 q | (unfold kRx at q; unfold kRt; omega)))) (e_fr.mono q75f (fun c k q => by first | exact su_dn_22 q | (unfold kRk at q; unfold kRt; omega)))) (e_fr.mono q85f (fun c k q => by first | exact su_dn_23 q | (unfold kEm at q; unfold kRt; omega)))) (e_fr.mono q103f (fun c k q => by exact q))) (e_fr.mono q114f (fun c k q => by first | exact su_dn_22 q | (unfold kRk at q; unfold kRt; omega)))) (e_fr.mono q125f (fun c k q => by first | exact su_dn_23 q | (unfold kEm at q; unfold kRt; omega)))
      have s128 : gS w112 w123 cd 1 0 0 0 0 := gS.big hcd ((e_Has.get q114T (c := cd) (k := 0) (lo := 0) (hi := 4000) (kD_0 hcd) (by decide)).1) (by omega) q125f q125x (by omega) (by omega) (fun _ => Or.inr (fun n l => by obtain ⟨a1, a2, a3⟩ := p119 n l; exact ⟨a2, by omega⟩)) (fun g => by omega)
      have p132 := zpl.step (zpl.step (zpl.step (show zpl w83 cd z86 41 from zpl.em hcd ((e_Has.get q75T (c := cd) (k := 0) (lo := 0) (hi := 4000) (kD_0 hcd) (by decide)).1) q85f q85x (by omega)) s105) s116) s128
      refine e_Ok.nrm (q := 103) (st' := [(0, z126)]) rfl rfl ?_
      refine e_Ok.run (t' := (105, [(4, (0, z86)), (3, (0, z44)), (2, (0, z15)), (1, (0, lp)), (0, (1, 1))], [(1, 1)], w123)) 2 rfl ?_
      refine e_Ok.getr (z := cd) rfl (el_o rfl) rfl rfl ((q125f 1 3 (by unfold kEm; omega)).trans ((q114f 1 3 no_dn_0).trans ((q103f 1 3 (by unfold kRt; omega)).trans ((q85f 1 3 (by unfold kEm; omega)).trans ((q75f 1 3 no_dn_0).trans ((q65f 1 3 (by unfold kRx; omega)).trans ((q54f 1 3 no_dn_1).trans ((q43f 1 3 (by unfold kEm; omega)).trans ((q32f 1 3 (by unfold kEm; omega)).trans (e_uq hw20 (Or.inr (by decide)) ((q14f 1 3 (by unfold kEm; omega)).trans ((q4g 1 3 no_dn_14).trans hc)))))))))))) (by omega) ?_
      refine e_Ok.ps2 (x := (1, 1)) (y := (0, z86)) (q := 111) 2 rfl ?_
      refine e_Ok.getr (z := cd) rfl (el_o rfl) rfl rfl ((q125f 1 3 (by unfold kEm; omega)).trans ((q114f 1 3 no_dn_0).trans ((q103f 1 3 (by unfold kRt; omega)).trans ((q85f 1 3 (by unfold kEm; omega)).trans ((q75f 1 3 no_dn_0).trans ((q65f 1 3 (by unfold kRx; omega)).trans ((q54f 1 3 no_dn_1).trans ((q43f 1 3 (by unfold kEm; omega)).trans ((q32f 1 3 (by unfold kEm; omega)).trans (e_uq hw20 (Or.inr (by decide)) ((q14f 1 3 (by unfold kEm; omega)).trans ((q4g 1 3 no_dn_14).trans hc)))))))))))) (by omega) ?_
      have h135 := (e_Has.get q125T (c := cd) (k := 0) (lo := 0) (hi := 4000) (kD_0 hcd) (by decide))
      refine e_Ok.getf (z := w123 cd 0) rfl (lD0 hcd) rfl rfl rfl (e_bq h135 (by decide) (by decide)) ?_
      refine e_Ok.callV rfl (e_dq hd rfl) rfl (lD0 hcd) rfl rfl (c_22 q125T hcd (by omega) (by have g := e_Has.get q125T (c := cd) (k := 0) (lo := 0) (hi := 4000) (kD_0 hcd) (by decide); omega)) (fun r136 w137 h138 => ?_)
      obtain ⟨rfl, q139f, q139T, q139x⟩ := h138
      have s141 : gS w123 w137 cd 0 0 0 0 0 := gS.pat hcd ((e_Has.get q125T (c := cd) (k := 0) (lo := 0) (hi := 4000) (kD_0 hcd) (by decide)).1) q139f q139x (show w123 cd 0 = w123 cd 0 from Eq.symm rfl) p132 (by omega)
      have p143 := zpl.step (zpl.step (zpl.step (zpl.step p90 s105) s116) s128) s141
      refine e_Ok.nrm (q := 120) (st' := []) rfl rfl ?_
      refine e_Ok.ps1 (x := (1, 1)) (q := 121) 1 rfl ?_
      refine e_Ok.getr (z := cd) rfl (el_o rfl) rfl rfl ((q139f 1 3 (by unfold kPa; omega)).trans ((q125f 1 3 (by unfold kEm; omega)).trans ((q114f 1 3 no_dn_0).trans ((q103f 1 3 (by unfold kRt; omega)).trans ((q85f 1 3 (by unfold kEm; omega)).trans ((q75f 1 3 no_dn_0).trans ((q65f 1 3 (by unfold kRx; omega)).trans ((q54f 1 3 no_dn_1).trans ((q43f 1 3 (by unfold kEm; omega)).trans ((q32f 1 3 (by unfold kEm; omega)).trans (e_uq hw20 (Or.inr (by decide)) ((q14f 1 3 (by unfold kEm; omega)).trans ((q4g 1 3 no_dn_14).trans hc))))))))))))) (by omega) ?_
      refine e_Ok.ps2 (x := (0, 1)) (y := (0, z15)) (q := 126) 2 rfl ?_
      refine e_Ok.add (z := z15 + 1) rfl rfl (by omega) ?_
      refine e_Ok.ps1 (x := (1, 1)) (q := 128) 1 rfl ?_
      refine e_Ok.getr (z := cd) rfl (el_o rfl) rfl rfl ((q139f 1 3 (by unfold kPa; omega)).trans ((q125f 1 3 (by unfold kEm; omega)).trans ((q114f 1 3 no_dn_0).trans ((q103f 1 3 (by unfold kRt; omega)).trans ((q85f 1 3 (by unfold kEm; omega)).trans ((q75f 1 3 no_dn_0).trans ((q65f 1 3 (by unfold kRx; omega)).trans ((q54f 1 3 no_dn_1).trans ((q43f 1 3 (by unfold kEm; omega)).trans ((q32f 1 3 (by unfold kEm; omega)).trans (e_uq hw20 (Or.inr (by decide)) ((q14f 1 3 (by unfold kEm; omega)).trans ((q4g 1 3 no_dn_14).trans hc))))))))))))) (by omega) ?_
      refine e_Ok.getf (z := w123 cd 0) rfl (lD0 hcd) rfl rfl ((q139f cd 0 (by unfold kPa; omega)).trans rfl) (by omega) ?_
      refine e_Ok.callV rfl (e_dq hd rfl) rfl (lD0 hcd) rfl rfl (c_22 q139T hcd (by omega) (by have g := e_Has.get q139T (c := cd) (k := 0) (lo := 0) (hi := 4000) (kD_0 hcd) (by decide); omega)) (fun r148 w149 h150 => ?_)
      obtain ⟨rfl, q151f, q151T, q151x⟩ := h150
      have s153 : gS w137 w149 cd 0 0 0 0 0 := gS.pat hcd ((e_Has.get q139T (c := cd) (k := 0) (lo := 0) (hi := 4000) (kD_0 hcd) (by decide)).1) q151f q151x (show w123 cd 0 = w137 cd 0 from Eq.symm ((q139f cd 0 (by unfold kPa; omega)).trans rfl)) p143 (by omega)
      refine e_Ok.nrm (q := 137) (st' := []) rfl rfl ?_
      refine e_Ok.ps2 (x := (0, lp)) (y := (1, 1)) (q := 139) 2 rfl ?_
      refine e_Ok.putf rfl (el_o rfl) rfl rfl ?_
      generalize hw160 : e_up w149 1 13 lp = w160
      have hT162 : e_Has kTy w160 := e_Has.ups q151T hw160 (kt_o rfl)
      have hH163 : e_Has kRy w160 := e_Has.upr (show e_Has kRy w149 from H_fr q151f (fun c k g => by unfold kPa at g; omega) (show e_Has kRy w137 from H_fr q139f (fun c k g => by unfold kPa at g; omega) (show e_Has kRy w123 from H_fr q125f (fun c k g => by unfold kEm at g; omega) q114H))) hw160 rfl (by omega)
      have g165 : e_fr (fun c k => c = 1 ∧ 11 ≤ k ∧ k ≤ 13) w149 w160 := fun c k g => by have g2 : ¬ (c = 1 ∧ 11 ≤ k ∧ k ≤ 13) := g; rw [← hw160]; exact e_up_ne _ _ (by omega)
      have s166 : gS w149 w160 cd 0 0 0 0 0 := gS.wr hcd ((e_Has.get q151T (c := cd) (k := 0) (lo := 0) (hi := 4000) (kD_0 hcd) (by decide)).1) (by omega) g165
      refine e_Ok.ps2 (x := (1, 1)) (y := (1, 1)) (q := 144) 2 rfl ?_
      refine e_Ok.getf (z := o + 1) rfl (el_o rfl) rfl rfl (e_uq hw160 (Or.inr (by decide)) ((q151f 1 11 (by unfold kPa; omega)).trans ((q139f 1 11 (by unfold kPa; omega)).trans ((q125f 1 11 (by unfold kEm; omega)).trans ((q114f 1 11 no_dn_2).trans (q103o.trans ((q85f 1 11 (by unfold kEm; omega)).trans ((q75f 1 11 no_dn_2).trans (q65o.trans ((q54f 1 11 no_dn_3).trans ((q43f 1 11 (by unfold kEm; omega)).trans ((q32f 1 11 (by unfold kEm; omega)).trans (e_uq hw20 (Or.inr (by decide)) ((q14f 1 11 (by unfold kEm; omega)).trans q4b)))))))))))))) (by omega) ?_
      refine e_Ok.ps1 (x := (0, 1)) (q := 148) 1 rfl ?_
      refine e_Ok.sub' (z := o) rfl (by omega) (by omega) ?_
      refine e_Ok.putf rfl (el_o rfl) rfl rfl ?_
      generalize hw173 : e_up w160 1 11 o = w173
      have hT175 : e_Has kTy w173 := e_Has.ups hT162 hw173 (kt_o rfl)
      have hH176 : e_Has kRy w173 := e_Has.upr hH163 hw173 rfl (by omega)
      have g178 : e_fr (fun c k => c = 1 ∧ 11 ≤ k ∧ k ≤ 13) w160 w173 := fun c k g => by have g2 : ¬ (c = 1 ∧ 11 ≤ k ∧ k ≤ 13) := g; rw [← hw173]; exact e_up_ne _ _ (by omega)
      have s179 : gS w160 w173 cd 0 0 0 0 0 := gS.wr hcd ((e_Has.get hT162 (c := cd) (k := 0) (lo := 0) (hi := 4000) (kD_0 hcd) (by decide)).1) (by omega) g178
      refine e_Ok.rets rfl rfl ?_
      exact ⟨rfl, (show e_fr (kRt cd) w w173 from e_fr.up (show e_fr (kRt cd) w w160 from e_fr.up (show e_fr (kRt cd) w w149 from e_fr.trans (show e_fr (kRt cd) w w137 from e_fr.trans f127 (e_fr.mono q139f (fun c k q => by first | exact su_dn_27 q | (unfold kPa at q; unfold kRt; omega)))) (e_fr.mono q151f (fun c k q => by first | exact su_dn_27 q | (unfold kPa at q; unfold kRt; omega)))) hw160 (by first | exact Or.inl ⟨rfl, Or.inr (Or.inr ⟨(by decide), (by decide)⟩)⟩ | (unfold kRt; omega))) hw173 (by first | exact Or.inl ⟨rfl, Or.inr (Or.inr ⟨(by decide), (by decide)⟩)⟩ | (unfold kRt; omega))), ⟨hT175, hH176, (e_uq hw173 (Or.inr (by first | decide | omega)) (e_uq hw160 (Or.inr (by first | decide | omega)) ((q151f 1 3 (by unfold kPa; omega)).trans ((q139f 1 3 (by unfold kPa; omega)).trans ((q125f 1 3 (by unfold kEm; omega)).trans ((q114f 1 3 no_dn_0).trans ((q103f 1 3 (by unfold kRt; omega)).trans ((q85f 1 3 (by unfold kEm; omega)).trans ((q75f 1 3 no_dn_0).trans ((q65f 1 3 (by unfold kRx; omega)).trans ((q54f 1 3 no_dn_1).trans ((q43f 1 3 (by unfold kEm; omega)).trans ((q32f 1 3 (by unfold kEm; omega)).trans (e_uq hw20 (Or.inr (by first | decide | omega)) ((q14f 1 3 (by unfold kEm; omega)).trans ((q4g 1 3 no_dn_14).trans hc)))))))))))))))), hcd, (show tkR w173 from (show tkR w160 from (show tkR w149 from (show tkR w137 from (show tkR w123 from (q114k.fr q125f (fun k g => by unfold kEm; omega))).fr q139f (fun k g => by unfold kPa; omega)).fr q151f (fun k g => by unfold kPa; omega)).eq (fun k g => by rw [← hw160]; exact e_up_ne _ _ (by omega))).eq (fun k g => by rw [← hw173]; exact e_up_ne _ _ (by omega)))⟩, ⟨(by have g1 : w173 1 11 = o := (e_ue hw173); have g0 : w 1 11 = o := ho; omega), (by have g1 : w173 1 12 = t := (e_uq hw173 (Or.inr (by first | decide | omega)) (e_uq hw160 (Or.inr (by first | decide | omega)) ((q151f 1 12 (by unfold kPa; omega)).trans ((q139f 1 12 (by unfold kPa; omega)).trans ((q125f 1 12 (by unfold kEm; omega)).trans ((q114f 1 12 no_dn_4).trans (q103t.trans ((q85f 1 12 (by unfold kEm; omega)).trans ((q75f 1 12 no_dn_4).trans ((q65f 1 12 (by unfold kRx; omega)).trans ((q54f 1 12 no_dn_5).trans ((q43f 1 12 (by unfold kEm; omega)).trans ((q32f 1 12 (by unfold kEm; omega)).trans (e_uq hw20 (Or.inr (by first | decide | omega)) ((q14f 1 12 (by unfold kEm; omega)).trans ((q4g 1 12 no_dn_15).trans ht)))))))))))))))); have g0 : w 1 12 = t := ht; omega), (by have g1 : w173 1 13 = lp := (e_uq hw173 (Or.inr (by first | decide | omega)) (e_ue hw160)); have g0 : w 1 13 = lp := hlp; omega)⟩, (show gS w w173 cd (-2) 0 0 0 0 from gS.trans (show gS w w160 cd (-2) 0 0 0 0 from gS.trans (show gS w w149 cd (-2) 0 0 0 0 from gS.trans (show gS w w137 cd (-2) 0 0 0 0 from gS.trans (show gS w w123 cd (-2) 0 0 0 0 from gS.trans (show gS w w112 cd (-3) 0 0 0 0 from gS.trans (show gS w w95 cd 0 0 0 0 0 from gS.trans (show gS w w83 cd 0 0 0 0 0 from gS.trans (show gS w w73 cd (-1) 0 0 1 0 from gS.trans (show gS w w63 cd 0 0 0 1 0 from gS.trans (show gS w w52 cd 0 0 0 1 0 from gS.trans (show gS w w41 cd 3 0 0 1 0 from gS.trans (show gS w w30 cd 2 0 0 0 0 from gS.trans (show gS w w20 cd 1 0 0 0 0 from gS.trans (show gS w w12 cd 1 0 0 0 0 from gS.trans (show gS w w2 cd 0 0 0 0 0 from gS.trans x0 s7 (by omega)) s17 (by omega)) s26 (by omega)) s35 (by omega)) s46 (by omega)) s57 (by omega)) s67 (by omega)) s77 (by omega)) s88 (by omega)) s105 (by omega)) s116 (by omega)) s128 (by omega)) s141 (by omega)) s153 (by omega)) s166 (by omega)) s179 (by omega)).le (by omega)⟩
    · replace h10 : (1 : Int) = 0 := Classical.not_not.mp (show ¬ ((1 : Int) ≠ 0) from h10)
      exfalso; omega
  · refine e_Ok.nrm (q := 4) (st' := [(0, 0)]) rfl rfl ?_
    have q4n := q4a
    have s187 : gS w w2 cd 0 0 0 0 0 := gS.dead q4n
    refine e_Ok.if1 rfl (fun h190 => ?_) (fun h190 => ?_)
    · replace h190 : (0 : Int) ≠ 0 := h190
      exfalso; omega
    · replace h190 : (0 : Int) = 0 := Classical.not_not.mp (show ¬ ((0 : Int) ≠ 0) from h190)
      refine e_Ok.rets rfl rfl ?_
      exact ⟨rfl, (show e_fr (kRt cd) w w2 from e_fr.trans (e_fr.refl w) (e_fr.mono q4d (fun c k q => by first | exact su_dn_22 q | (unfold kRk at q; unfold kRt; omega)))), ⟨q4T, q4H, ((q4d 1 3 no_dn_0).trans hc), hcd, q4k⟩, ⟨(by have g1 : w2 1 11 = o := ((q4d 1 11 no_dn_2).trans ho); have g0 : w 1 11 = o := ho; omega), (by have g1 : w2 1 12 = t := ((q4d 1 12 no_dn_4).trans ht); have g0 : w 1 12 = t := ht; omega), (by have g1 : w2 1 13 = lp := ((q4d 1 13 no_dn_6).trans hlp); have g0 : w 1 13 = lp := hlp; omega)⟩, gS.dead q4n⟩
set_option maxHeartbeats 4000000 in
theorem c_157 {d : Nat} (hd : 281 ≤ d) {w : eW} {cd o : Int} (hS : rS w cd) (ho : w 1 11 = o) (hor : 0 ≤ o ∧ o ≤ 30) {t lp : Int} (ht : w 1 12 = t) (htr : 0 ≤ t ∧ t ≤ o) (hlp : w 1 13 = lp) (hlk : lpK w cd lp) {op : Int} (g_op : 47 ≤ op ∧ op ≤ 48) (h5 : 43 ≤ w 1 5 ∧ w 1 5 ≤ 44) (hB : ∀ k, d = k + 1 → zgC 144 o 0 0 (fun _ => True) k) : e_Ok 20 elay kcode eI d 157 (0, [(0, (1, 1)), (1, (0, op))], [], w) (fun r w' => r = [] ∧ gQ w w' cd 0 0 0) := by
  obtain ⟨d, rfl⟩ : ∃ e, d = e + 1 := ⟨d - 1, by omega⟩
  obtain ⟨hT, hH, hc, hcd, hk⟩ := hS
  have hcd2 := hcd; unfold isCd at hcd2
  have hcd3 : 2 ≤ cd ∧ cd ≤ 145 := by omega
  have pL := e_Has.get hT (c := cd) (k := 0) (lo := 0) (hi := 4000) (kD_0 hcd) (by decide)
  have p1 := e_Has.get hH (c := 1) (k := 1) (lo := (-2147483648)) (hi := 2147483647) rfl (by decide)
  have p5 := e_Has.get hH (c := 1) (k := 5) (lo := 0) (hi := 53) rfl (by decide)
  have p6 := e_Has.get hH (c := 1) (k := 6) (lo := 0) (hi := 4000) rfl (by decide)
  have p9 := e_Has.get hH (c := 1) (k := 9) (lo := (-2147483648)) (hi := 2147483647) rfl (by decide)
  have p7 := e_Has.get hH (c := 1) (k := 7) (lo := 0) (hi := 4000) rfl (by decide)
  have p12 := e_Has.get hH (c := 1) (k := 12) (lo := 0) (hi := 30) rfl (by decide)
  have p13 := e_Has.get hH (c := 1) (k := 13) (lo := (-1)) (hi := 4000) rfl (by decide)
  refine e_Ok.ps1 (x := (1, 1)) (q := 1) 1 rfl ?_
  refine e_Ok.callV rfl (e_dq hd rfl) rfl rfl rfl rfl (c_123 (e_dq hd rfl) hT hH hk.1.2) (fun r1 w2 h3 => ?_)
  obtain ⟨rfl, q4f, q4T, q4H, q4k, q4x, q44⟩ := h3
  have s6 : gS w w2 cd (-2) 0 0 0 0 := gS.adv hcd ((e_Has.get hT (c := cd) (k := 0) (lo := 0) (hi := 4000) (kD_0 hcd) (by decide)).1) (by omega) q4f q4x (hk.a2 (by omega))
  refine e_Ok.nrm (q := 4) (st' := []) rfl rfl ?_
  refine e_Ok.ps2 (x := (0, 20)) (y := (1, 1)) (q := 7) 2 rfl ?_
  refine e_Ok.callV rfl (e_dq hd rfl) rfl rfl rfl rfl (c_129 (e_dq hd rfl) q4T q4H q4k (by omega)) (fun r9 w10 h11 => ?_)
  obtain ⟨rfl, q12f, q12T, q12H, q12k, q12x⟩ := h11
  have s14 : gS w2 w10 cd (-1) 0 0 0 0 := gS.acc hcd ((e_Has.get q4T (c := cd) (k := 0) (lo := 0) (hi := 4000) (kD_0 hcd) (by decide)).1) (by omega) q12f q12x (fun g => q4k.a1 (by omega))
  have p16 := lpK.step (lpK.step hlk s6) s14
  refine e_Ok.nrm (q := 10) (st' := []) rfl rfl ?_
  refine e_Ok.ps1 (x := (1, 1)) (q := 11) 1 rfl ?_
  refine e_Ok.callV rfl (e_dq hd rfl) rfl rfl rfl rfl (hB d rfl w10 cd t lp ⟨q12T, q12H, ((q12f 1 3 no_dn_0).trans ((q4f 1 3 no_dn_1).trans hc)), hcd, q12k⟩ ((q12f 1 11 no_dn_2).trans ((q4f 1 11 no_dn_3).trans ho)) ((q12f 1 12 no_dn_4).trans ((q4f 1 12 no_dn_5).trans ht)) (by omega) ((q12f 1 13 no_dn_6).trans ((q4f 1 13 no_dn_7).trans hlp)) p16 trivial) (fun r17 w18 h19 => ?_)
  obtain ⟨rfl, q20f, ⟨q20T, q20H, q20c, -, q20k⟩, ⟨q20o, q20t, q20l⟩, q20x⟩ := h19
  have s22 : gS w10 w18 cd 0 0 0 0 0 := q20x
  refine e_Ok.nrm (q := 14) (st' := []) rfl rfl ?_
  refine e_Ok.ps1 (x := (1, 1)) (q := 15) 1 rfl ?_
  refine e_Ok.getr (z := cd) rfl (el_o rfl) rfl rfl ((q20f 1 3 (by unfold kRt; omega)).trans ((q12f 1 3 no_dn_0).trans ((q4f 1 3 no_dn_1).trans hc))) (by omega) ?_
  refine e_Ok.ps2 (x := (0, 0)) (y := (0, op)) (q := 20) 2 rfl ?_
  refine e_Ok.callV rfl (e_dq hd rfl) rfl (lD0 hcd) rfl rfl (c_21 q20T hcd (by omega) (by omega)) (fun r25 w26 h27 => ?_)
  obtain ⟨z29, rfl, q28f, q28T, q28x⟩ := h27
  have q28z : 0 ≤ z29 ∧ z29 ≤ 4000 := by have g := e_Has.get q20T (c := cd) (k := 0) (lo := 0) (hi := 4000) (kD_0 hcd) (by decide); unfold emQ at q28x; omega
  have s31 : gS w18 w26 cd 1 0 0 0 0 := gS.big hcd ((e_Has.get q20T (c := cd) (k := 0) (lo := 0) (hi := 4000) (kD_0 hcd) (by decide)).1) (by omega) q28f q28x (by omega) (by omega) (fun g => by omega) (fun g => by omega)
  refine e_Ok.nrm (q := 23) (st' := [(0, z29)]) rfl rfl ?_
  refine e_Ok.run (t' := (24, [(0, (1, 1)), (1, (0, op))], [], w26)) 1 rfl ?_
  refine e_Ok.rets rfl rfl ?_
  exact ⟨rfl, (show e_fr (kRt cd) w w26 from e_fr.trans (show e_fr (kRt cd) w w18 from e_fr.trans (show e_fr (kRt cd) w w10 from e_fr.trans (show e_fr (kRt cd) w w2 from e_fr.trans (e_fr.refl w) (e_fr.mono q4f (fun c k q => by first | exact su_dn_21 q | (unfold kRa at q; unfold kRt; omega)))) (e_fr.mono q12f (fun c k q => by first | exact su_dn_22 q | (unfold kRk at q; unfold kRt; omega)))) (e_fr.mono q20f (fun c k q => by exact q))) (e_fr.mono q28f (fun c k q => by first | exact su_dn_23 q | (unfold kEm at q; unfold kRt; omega)))), ⟨q28T, (show e_Has kRy w26 from H_fr q28f (fun c k g => by unfold kEm at g; omega) q20H), ((q28f 1 3 (by unfold kEm; omega)).trans ((q20f 1 3 (by unfold kRt; omega)).trans ((q12f 1 3 no_dn_0).trans ((q4f 1 3 no_dn_1).trans hc)))), hcd, (show tkR w26 from (q20k.fr q28f (fun k g => by unfold kEm; omega)))⟩, ⟨(by have g1 : w26 1 11 = o := ((q28f 1 11 (by unfold kEm; omega)).trans (q20o.trans ((q12f 1 11 no_dn_2).trans ((q4f 1 11 no_dn_3).trans ho)))); have g0 : w 1 11 = o := ho; omega), (by have g1 : w26 1 12 = t := ((q28f 1 12 (by unfold kEm; omega)).trans (q20t.trans ((q12f 1 12 no_dn_4).trans ((q4f 1 12 no_dn_5).trans ht)))); have g0 : w 1 12 = t := ht; omega), (by have g1 : w26 1 13 = lp := ((q28f 1 13 (by unfold kEm; omega)).trans (q20l.trans ((q12f 1 13 no_dn_6).trans ((q4f 1 13 no_dn_7).trans hlp)))); have g0 : w 1 13 = lp := hlp; omega)⟩, (show gS w w26 cd (-2) 0 0 0 0 from gS.trans (show gS w w18 cd (-3) 0 0 0 0 from gS.trans (show gS w w10 cd (-3) 0 0 0 0 from gS.trans (show gS w w2 cd (-2) 0 0 0 0 from gS.trans (show gS w w cd 0 0 0 0 0 from gS.refl pL.1) s6 (by omega)) s14 (by omega)) s22 (by omega)) s31 (by omega)).le (by omega)⟩
set_option maxHeartbeats 4000000 in
theorem c_156 {d : Nat} (hd : 283 ≤ d) {w : eW} {cd o : Int} (hS : rS w cd) (ho : w 1 11 = o) (hor : 0 ≤ o ∧ o ≤ 30) {t lp : Int} (ht : w 1 12 = t) (htr : 0 ≤ t ∧ t ≤ o) (hlp : w 1 13 = lp) (hlk : lpK w cd lp) (h5 : w 1 5 = 42) (hB : o < 30 → ∀ k, d ≤ k + 2 → zgC 144 (o + 1) 0 0 (fun _ => True) k) : e_Ok 20 elay kcode eI d 156 (0, [(0, (1, 1))], [], w) (fun r w' => r = [] ∧ gQ w w' cd (-1) 1 0) := by
  obtain ⟨d, rfl⟩ : ∃ e, d = e + 1 := ⟨d - 1, by omega⟩
  obtain ⟨hT, hH, hc, hcd, hk⟩ := hS
  have hcd2 := hcd; unfold isCd at hcd2
  have hcd3 : 2 ≤ cd ∧ cd ≤ 145 := by omega
  have pL := e_Has.get hT (c := cd) (k := 0) (lo := 0) (hi := 4000) (kD_0 hcd) (by decide)
  have p1 := e_Has.get hH (c := 1) (k := 1) (lo := (-2147483648)) (hi := 2147483647) rfl (by decide)
  have p5 := e_Has.get hH (c := 1) (k := 5) (lo := 0) (hi := 53) rfl (by decide)
  have p6 := e_Has.get hH (c := 1) (k := 6) (lo := 0) (hi := 4000) rfl (by decide)
  have p9 := e_Has.get hH (c := 1) (k := 9) (lo := (-2147483648)) (hi := 2147483647) rfl (by decide)
  have p7 := e_Has.get hH (c := 1) (k := 7) (lo := 0) (hi := 4000) rfl (by decide)
  have p12 := e_Has.get hH (c := 1) (k := 12) (lo := 0) (hi := 30) rfl (by decide)
  have p13 := e_Has.get hH (c := 1) (k := 13) (lo := (-1)) (hi := 4000) rfl (by decide)
  have x0 : gS w w cd 0 1 0 1 0 := gS.refl pL.1
  refine e_Ok.ps1 (x := (1, 1)) (q := 1) 1 rfl ?_
  refine e_Ok.callV rfl (e_dq hd rfl) rfl rfl rfl rfl (c_132 (e_dq hd rfl) hT hH hk (o := o) ho (by omega)) (fun r1 w2 h3 => ?_)
  obtain ⟨z5, rfl, q4f, q4T, q4H, q4k, ⟨rfl, q4a, q4b, q4c⟩ | ⟨rfl, q4a, q4b, q4c, q4d⟩⟩ := h3
  · refine e_Ok.nrm (q := 4) (st' := [(0, 1)]) rfl rfl ?_
    have q4g : e_fr kRO w w2 := fun c k g => by have g2 : ¬ (c = 1 ∧ k = 11) := g; by_cases h : c = 1 ∧ (k = 12 ∨ k = 13); (exact q4f c k (by unfold kRo; omega)); (exact q4c c k (show ¬ (c = 1 ∧ 11 ≤ k ∧ k ≤ 13) from by omega))
    have s7 : gS w w2 cd 0 1 0 1 0 := gS.wr hcd ((e_Has.get hT (c := cd) (k := 0) (lo := 0) (hi := 4000) (kD_0 hcd) (by decide)).1) (by omega) q4c
    have p9 := lpK.step hlk s7
    refine e_Ok.if1 rfl (fun h10 => ?_) (fun h10 => ?_)
    · replace h10 : (1 : Int) ≠ 0 := h10
      refine e_Ok.ps1 (x := (1, 1)) (q := 9) 1 rfl ?_
      refine e_Ok.callV rfl (e_dq hd rfl) rfl rfl rfl rfl (c_123 (e_dq hd rfl) q4T q4H q4k.1.2) (fun r11 w12 h13 => ?_)
      obtain ⟨rfl, q14f, q14T, q14H, q14k, q14x, q144⟩ := h13
      have k16 : w2 1 5 = w 1 5 := ((q4g 1 5 no_dn_13).trans rfl)
      have s17 : gS w2 w12 cd (-3) 1 0 1 0 := gS.adv hcd ((e_Has.get q4T (c := cd) (k := 0) (lo := 0) (hi := 4000) (kD_0 hcd) (by decide)).1) (by omega) q14f q14x (q4k.a3 (by omega))
      have p19 := lpK.step p9 s17
      refine e_Ok.nrm (q := 12) (st' := []) rfl rfl ?_
      refine e_Ok.ps2 (x := (0, 20)) (y := (1, 1)) (q := 15) 2 rfl ?_
      refine e_Ok.callV rfl (e_dq hd rfl) rfl rfl rfl rfl (c_129 (e_dq hd rfl) q14T q14H q14k (by omega)) (fun r20 w21 h22 => ?_)
      obtain ⟨rfl, q23f, q23T, q23H, q23k, q23x⟩ := h22
      have s25 : gS w12 w21 cd (-1) 1 0 1 0 := gS.acc hcd ((e_Has.get q14T (c := cd) (k := 0) (lo := 0) (hi := 4000) (kD_0 hcd) (by decide)).1) (by omega) q23f q23x (fun g => q14k.a1 (by omega))
      refine e_Ok.nrm (q := 18) (st' := []) rfl rfl ?_
      refine e_Ok.ps1 (x := (1, 1)) (q := 19) 1 rfl ?_
      refine e_Ok.getr (z := cd) rfl (el_o rfl) rfl rfl ((q23f 1 3 no_dn_0).trans ((q14f 1 3 no_dn_1).trans ((q4g 1 3 no_dn_14).trans hc))) (by omega) ?_
      refine e_Ok.ps2 (x := (0, 0)) (y := (0, 46)) (q := 25) 2 rfl ?_
      refine e_Ok.callV rfl (e_dq hd rfl) rfl (lD0 hcd) rfl rfl (c_21 q23T hcd (by omega) (by omega)) (fun r28 w29 h30 => ?_)
      obtain ⟨z32, rfl, q31f, q31T, q31x⟩ := h30
      have q31z : 0 ≤ z32 ∧ z32 ≤ 4000 := by have g := e_Has.get q23T (c := cd) (k := 0) (lo := 0) (hi := 4000) (kD_0 hcd) (by decide); unfold emQ at q31x; omega
      refine e_Ok.nrm (q := 28) (st' := [(0, z32)]) rfl rfl ?_
      refine e_Ok.run (t' := (30, [(1, (0, z32)), (0, (1, 1))], [(1, 1)], w29)) 2 rfl ?_
      refine e_Ok.getr (z := cd) rfl (el_o rfl) rfl rfl ((q31f 1 3 (by unfold kEm; omega)).trans ((q23f 1 3 no_dn_0).trans ((q14f 1 3 no_dn_1).trans ((q4g 1 3 no_dn_14).trans hc)))) (by omega) ?_
      refine e_Ok.ps2 (x := (0, 0)) (y := (0, 49)) (q := 36) 2 rfl ?_
      refine e_Ok.callV rfl (e_dq hd rfl) rfl (lD0 hcd) rfl rfl (c_21 q31T hcd (by omega) (by omega)) (fun r34 w35 h36 => ?_)
      obtain ⟨z38, rfl, q37f, q37T, q37x⟩ := h36
      have q37z : 0 ≤ z38 ∧ z38 ≤ 4000 := by have g := e_Has.get q31T (c := cd) (k := 0) (lo := 0) (hi := 4000) (kD_0 hcd) (by decide); unfold emQ at q37x; omega
      refine e_Ok.nrm (q := 39) (st' := [(0, z38)]) rfl rfl ?_
      refine e_Ok.run (t' := (41, [(1, (0, z32)), (0, (1, 1))], [(1, 1)], w35)) 2 rfl ?_
      refine e_Ok.getr (z := cd) rfl (el_o rfl) rfl rfl ((q37f 1 3 (by unfold kEm; omega)).trans ((q31f 1 3 (by unfold kEm; omega)).trans ((q23f 1 3 no_dn_0).trans ((q14f 1 3 no_dn_1).trans ((q4g 1 3 no_dn_14).trans hc))))) (by omega) ?_
      refine e_Ok.ps2 (x := (0, 0)) (y := (0, 49)) (q := 47) 2 rfl ?_
      refine e_Ok.callV rfl (e_dq hd rfl) rfl (lD0 hcd) rfl rfl (c_21 q37T hcd (by omega) (by omega)) (fun r41 w42 h43 => ?_)
      obtain ⟨z45, rfl, q44f, q44T, q44x⟩ := h43
      have q44z : 0 ≤ z45 ∧ z45 ≤ 4000 := by have g := e_Has.get q37T (c := cd) (k := 0) (lo := 0) (hi := 4000) (kD_0 hcd) (by decide); unfold emQ at q44x; omega
      refine e_Ok.nrm (q := 50) (st' := [(0, z45)]) rfl rfl ?_
      refine e_Ok.run (t' := (52, [(1, (0, z32)), (0, (1, 1))], [(1, 1)], w42)) 2 rfl ?_
      refine e_Ok.getr (z := cd) rfl (el_o rfl) rfl rfl ((q44f 1 3 (by unfold kEm; omega)).trans ((q37f 1 3 (by unfold kEm; omega)).trans ((q31f 1 3 (by unfold kEm; omega)).trans ((q23f 1 3 no_dn_0).trans ((q14f 1 3 no_dn_1).trans ((q4g 1 3 no_dn_14).trans hc)))))) (by omega) ?_
      refine e_Ok.ps2 (x := (0, 0)) (y := (0, 49)) (q := 58) 2 rfl ?_
      refine e_Ok.callV rfl (e_dq hd rfl) rfl (lD0 hcd) rfl rfl (c_21 q44T hcd (by omega) (by omega)) (fun r47 w48 h49 => ?_)
      obtain ⟨z51, rfl, q50f, q50T, q50x⟩ := h49
      have q50z : 0 ≤ z51 ∧ z51 ≤ 4000 := by have g := e_Has.get q44T (c := cd) (k := 0) (lo := 0) (hi := 4000) (kD_0 hcd) (by decide); unfold emQ at q50x; omega
      have s53 : gS w21 w48 cd 4 1 0 0 0 := gS.try hcd ((e_Has.get q23T (c := cd) (k := 0) (lo := 0) (hi := 4000) (kD_0 hcd) (by decide)).1) (by omega) q31f q37f q44f q50f q31x q37x q44x q50x
      obtain ⟨t56a, t56b, t56c⟩ := zpl.try ((e_Has.get q23T (c := cd) (k := 0) (lo := 0) (hi := 4000) (kD_0 hcd) (by decide)).1) q31x q37x q44x q50x
      refine e_Ok.nrm (q := 61) (st' := [(0, z51)]) rfl rfl ?_
      refine e_Ok.run (t' := (64, [(1, (0, z32)), (0, (1, 1))], [(1, 1), (1, 1)], w48)) 3 rfl ?_
      refine e_Ok.getf (z := t) rfl (el_o rfl) rfl rfl ((q50f 1 12 (by unfold kEm; omega)).trans ((q44f 1 12 (by unfold kEm; omega)).trans ((q37f 1 12 (by unfold kEm; omega)).trans ((q31f 1 12 (by unfold kEm; omega)).trans ((q23f 1 12 no_dn_4).trans ((q14f 1 12 no_dn_5).trans ((q4g 1 12 no_dn_15).trans ht))))))) (by omega) ?_
      refine e_Ok.ps1 (x := (0, 1)) (q := 68) 1 rfl ?_
      refine e_Ok.add (z := t + 1) rfl rfl (by omega) ?_
      refine e_Ok.putf rfl (el_o rfl) rfl rfl ?_
      generalize hw57 : e_up w48 1 12 (t + 1) = w57
      have hT59 : e_Has kTy w57 := e_Has.ups q50T hw57 (kt_o rfl)
      have hH60 : e_Has kRy w57 := e_Has.upr (show e_Has kRy w48 from H_fr q50f (fun c k g => by unfold kEm at g; omega) (show e_Has kRy w42 from H_fr q44f (fun c k g => by unfold kEm at g; omega) (show e_Has kRy w35 from H_fr q37f (fun c k g => by unfold kEm at g; omega) (show e_Has kRy w29 from H_fr q31f (fun c k g => by unfold kEm at g; omega) q23H)))) hw57 rfl (by omega)
      have g62 : e_fr (fun c k => c = 1 ∧ 11 ≤ k ∧ k ≤ 13) w48 w57 := fun c k g => by have g2 : ¬ (c = 1 ∧ 11 ≤ k ∧ k ≤ 13) := g; rw [← hw57]; exact e_up_ne _ _ (by omega)
      have s63 : gS w48 w57 cd 0 0 0 0 0 := gS.wr hcd ((e_Has.get q50T (c := cd) (k := 0) (lo := 0) (hi := 4000) (kD_0 hcd) (by decide)).1) (by omega) g62
      have p68 := lpK.step (lpK.step (lpK.step p19 s25) s53) s63
      refine e_Ok.ps1 (x := (1, 1)) (q := 73) 1 rfl ?_
      refine e_Ok.callV rfl (e_dq hd rfl) rfl rfl rfl rfl (hB (by omega) d (by omega) w57 cd (t + 1) lp ⟨hT59, hH60, (e_uq hw57 (Or.inr (by first | decide | omega)) ((q50f 1 3 (by unfold kEm; omega)).trans ((q44f 1 3 (by unfold kEm; omega)).trans ((q37f 1 3 (by unfold kEm; omega)).trans ((q31f 1 3 (by unfold kEm; omega)).trans ((q23f 1 3 no_dn_0).trans ((q14f 1 3 no_dn_1).trans ((q4g 1 3 no_dn_14).trans hc)))))))), hcd, (show tkR w57 from (show tkR w48 from ((show tkR w42 from ((show tkR w35 from ((show tkR w29 from (q23k.fr q31f (fun k g => by unfold kEm; omega))).fr q37f (fun k g => by unfold kEm; omega))).fr q44f (fun k g => by unfold kEm; omega))).fr q50f (fun k g => by unfold kEm; omega))).eq (fun k g => by rw [← hw57]; exact e_up_ne _ _ (by omega)))⟩ (e_uq hw57 (Or.inr (by first | decide | omega)) ((q50f 1 11 (by unfold kEm; omega)).trans ((q44f 1 11 (by unfold kEm; omega)).trans ((q37f 1 11 (by unfold kEm; omega)).trans ((q31f 1 11 (by unfold kEm; omega)).trans ((q23f 1 11 no_dn_2).trans ((q14f 1 11 no_dn_3).trans q4b))))))) (e_ue hw57) (by omega) (e_uq hw57 (Or.inr (by first | decide | omega)) ((q50f 1 13 (by unfold kEm; omega)).trans ((q44f 1 13 (by unfold kEm; omega)).trans ((q37f 1 13 (by unfold kEm; omega)).trans ((q31f 1 13 (by unfold kEm; omega)).trans ((q23f 1 13 no_dn_6).trans ((q14f 1 13 no_dn_7).trans ((q4g 1 13 no_dn_16).trans hlp)))))))) p68 trivial) (fun r69 w70 h71 => ?_)
      obtain ⟨rfl, q72f, ⟨q72T, q72H, q72c, -, q72k⟩, ⟨q72o, q72t, q72l⟩, q72x⟩ := h71
      have s74 : gS w57 w70 cd 0 0 0 0 0 := q72x
      refine e_Ok.nrm (q := 76) (st' := []) rfl rfl ?_
      refine e_Ok.ps1 (x := (1, 1)) (q := 77) 1 rfl ?_
      refine e_Ok.getr (z := cd) rfl (el_o rfl) rfl rfl ((q72f 1 3 (by unfold kRt; omega)).trans (e_uq hw57 (Or.inr (by decide)) ((q50f 1 3 (by unfold kEm; omega)).trans ((q44f 1 3 (by unfold kEm; omega)).trans ((q37f 1 3 (by unfold kEm; omega)).trans ((q31f 1 3 (by unfold kEm; omega)).trans ((q23f 1 3 no_dn_0).trans ((q14f 1 3 no_dn_1).trans ((q4g 1 3 no_dn_14).trans hc))))))))) (by omega) ?_
      refine e_Ok.ps2 (x := (0, 0)) (y := (0, 47)) (q := 83) 2 rfl ?_
      refine e_Ok.callV rfl (e_dq hd rfl) rfl (lD0 hcd) rfl rfl (c_21 q72T hcd (by omega) (by omega)) (fun r80 w81 h82 => ?_)
      obtain ⟨z84, rfl, q83f, q83T, q83x⟩ := h82
      have q83H : e_Has kRy w81 := H_fr q83f (fun c k g => by unfold kEm at g; omega) q72H
      have q83k : tkR w81 := (q72k.fr q83f (fun k g => by unfold kEm; omega))
      have q83z : 0 ≤ z84 ∧ z84 ≤ 4000 := by have g := e_Has.get q72T (c := cd) (k := 0) (lo := 0) (hi := 4000) (kD_0 hcd) (by decide); unfold emQ at q83x; omega
      have f85 : e_fr (kRt cd) w w81 := e_fr.trans (show e_fr (kRt cd) w w70 from e_fr.trans (show e_fr (kRt cd) w w57 from e_fr.up (show e_fr (kRt cd) w w48 from e_fr.trans (show e_fr (kRt cd) w w42 from e_fr.trans (show e_fr (kRt cd) w w35 from e_fr.trans (show e_fr (kRt cd) w w29 from e_fr.trans (show e_fr (kRt cd) w w21 from e_fr.trans (show e_fr (kRt cd) w w12 from e_fr.trans (show e_fr (kRt cd) w w2 from e_fr.trans (e_fr.refl w) (e_fr.mono q4g (fun c k q => by first | exact su_dn_26 q | (unfold kRO at q; unfold kRt; omega)))) (e_fr.mono q14f (fun c k q => by first | exact su_dn_21 q | (unfold kRa at q; unfold kRt; omega)))) (e_fr.mono q23f (fun c k q => by first | exact su_dn_22 q | (unfold kRk at q; unfold kRt; omega)))) (e_fr.mono q31f (fun c k q => by first | exact su_dn_23 q | (unfold kEm at q; unfold kRt; omega)))) (e_fr.mono q37f (fun c k q => by first | exact su_dn_23 q | (unfold kEm at q; unfold kRt; omega)))) (e_fr.mono q44f (fun c k q => by first | exact su_dn_23 q | (unfold kEm at q; unfold kRt; omega)))) (e_fr.mono q50f (fun c k q => by first | exact su_dn_23 q | (unfold kEm at q; unfold kRt; omega)))) hw57 (by first | exact Or.inl ⟨rfl, Or.inr (Or.inr ⟨(by decide), (by decide)⟩)⟩ | (unfold kRt; omega))) (e_fr.mono q72f (fun c k q => by exact q))) (e_fr.mono q83f (fun c k q => by first | exact su_dn_23 q | (unfold kEm at q; unfold kRt; omega)))
      have s86 : gS w70 w81 cd 1 0 0 0 0 := gS.big hcd ((e_Has.get q72T (c := cd) (k := 0) (lo := 0) (hi := 4000) (kD_0 hcd) (by decide)).1) (by omega) q83f q83x (by omega) (by omega) (fun g => by omega) (fun g => by omega)
      have x87 : gS w w81 cd 1 1 0 0 0 := gS.trans (show gS w w70 cd 0 1 0 0 0 from gS.trans (show gS w w57 cd 0 1 0 0 0 from gS.trans (show gS w w48 cd 0 1 0 0 0 from gS.trans (show gS w w21 cd (-4) 1 0 1 0 from gS.trans (show gS w w12 cd (-3) 1 0 1 0 from gS.trans (show gS w w2 cd 0 1 0 1 0 from gS.trans x0 s7 (by omega)) s17 (by omega)) s25 (by omega)) s53 (by omega)) s63 (by omega)) s74 (by omega)) s86 (by omega)
      have p88 := zpl.step (zpl.step (zpl.step t56a s63) s74) s86
      have p89 := zpl.step (zpl.step (zpl.step t56b s63) s74) s86
      have p90 := zpl.step (zpl.step (zpl.step t56c s63) s74) s86
      have p91 := lpK.step (lpK.step p68 s74) s86
      refine e_Ok.nrm (q := 86) (st' := [(0, z84)]) rfl rfl ?_
      refine e_Ok.run (t' := (88, [(1, (0, z32)), (0, (1, 1))], [(1, 1)], w81)) 2 rfl ?_
      have h92 := (e_Has.get q72H (c := 1) (k := 5) (lo := 0) (hi := 53) rfl (by decide))
      refine e_Ok.getf (z := w70 1 5) rfl (el_o rfl) rfl rfl ((q83f 1 5 (by unfold kEm; omega)).trans rfl) (e_bq h92 (by decide) (by decide)) ?_
      refine e_Ok.ps1 (x := (0, 43)) (q := 93) 1 rfl ?_
      refine e_Ok.if2 rfl (fun h93 => ?_) (fun h93 => ?_)
      · replace h93 : (w70 1 5 : Int) ≠ 43 := h93
        refine e_Ok.ps1 (x := (1, 1)) (q := 120) 1 rfl ?_
        refine e_Ok.getf (z := w70 1 5) rfl (el_o rfl) rfl rfl ((q83f 1 5 (by unfold kEm; omega)).trans rfl) (by omega) ?_
        refine e_Ok.ps1 (x := (0, 44)) (q := 125) 1 rfl ?_
        refine e_Ok.if2 rfl (fun h94 => ?_) (fun h94 => ?_)
        · replace h94 : (w70 1 5 : Int) ≠ 44 := h94
          refine e_Ok.ps2 (x := (1, 1)) (y := (1, 1)) (q := 153) 2 rfl ?_
          refine e_Ok.getf (z := t + 1) rfl (el_o rfl) rfl rfl ((q83f 1 12 (by unfold kEm; omega)).trans (q72t.trans (e_ue hw57))) (by omega) ?_
          refine e_Ok.ps1 (x := (0, 1)) (q := 157) 1 rfl ?_
          refine e_Ok.sub' (z := t) rfl (by omega) (by omega) ?_
          refine e_Ok.putf rfl (el_o rfl) rfl rfl ?_
          generalize hw95 : e_up w81 1 12 t = w95
          have hT103 : e_Has kTy w95 := e_Has.ups q83T hw95 (kt_o rfl)
          have hH104 : e_Has kRy w95 := e_Has.upr q83H hw95 rfl (by omega)
          have g106 : e_fr (fun c k => c = 1 ∧ 11 ≤ k ∧ k ≤ 13) w81 w95 := fun c k g => by have g2 : ¬ (c = 1 ∧ 11 ≤ k ∧ k ≤ 13) := g; rw [← hw95]; exact e_up_ne _ _ (by omega)
          have s107 : gS w81 w95 cd 0 0 0 0 0 := gS.wr hcd ((e_Has.get q83T (c := cd) (k := 0) (lo := 0) (hi := 4000) (kD_0 hcd) (by decide)).1) (by omega) g106
          have p111 := zpl.step p90 s107
          refine e_Ok.ps1 (x := (1, 1)) (q := 162) 1 rfl ?_
          refine e_Ok.getr (z := cd) rfl (el_o rfl) rfl rfl (e_uq hw95 (Or.inr (by decide)) ((q83f 1 3 (by unfold kEm; omega)).trans ((q72f 1 3 (by unfold kRt; omega)).trans (e_uq hw57 (Or.inr (by decide)) ((q50f 1 3 (by unfold kEm; omega)).trans ((q44f 1 3 (by unfold kEm; omega)).trans ((q37f 1 3 (by unfold kEm; omega)).trans ((q31f 1 3 (by unfold kEm; omega)).trans ((q23f 1 3 no_dn_0).trans ((q14f 1 3 no_dn_1).trans ((q4g 1 3 no_dn_14).trans hc))))))))))) (by omega) ?_
          refine e_Ok.ps2 (x := (0, 3)) (y := (0, z32)) (q := 167) 2 rfl ?_
          refine e_Ok.add (z := z32 + 3) rfl rfl (by omega) ?_
          refine e_Ok.ps1 (x := (1, 1)) (q := 169) 1 rfl ?_
          refine e_Ok.getr (z := cd) rfl (el_o rfl) rfl rfl (e_uq hw95 (Or.inr (by decide)) ((q83f 1 3 (by unfold kEm; omega)).trans ((q72f 1 3 (by unfold kRt; omega)).trans (e_uq hw57 (Or.inr (by decide)) ((q50f 1 3 (by unfold kEm; omega)).trans ((q44f 1 3 (by unfold kEm; omega)).trans ((q37f 1 3 (by unfold kEm; omega)).trans ((q31f 1 3 (by unfold kEm; omega)).trans ((q23f 1 3 no_dn_0).trans ((q14f 1 3 no_dn_1).trans ((q4g 1 3 no_dn_14).trans hc))))))))))) (by omega) ?_
          have h113 := (e_Has.get q83T (c := cd) (k := 0) (lo := 0) (hi := 4000) (kD_0 hcd) (by decide))
          refine e_Ok.getf (z := w81 cd 0) rfl (lD0 hcd) rfl rfl (e_uq hw95 (Or.inr (by decide)) rfl) (e_bq h113 (by decide) (by decide)) ?_
          refine e_Ok.callV rfl (e_dq hd rfl) rfl (lD0 hcd) rfl rfl (c_22 hT103 hcd (by omega) (by have g := e_Has.get hT103 (c := cd) (k := 0) (lo := 0) (hi := 4000) (kD_0 hcd) (by decide); omega)) (fun r114 w115 h116 => ?_)
          obtain ⟨rfl, q117f, q117T, q117x⟩ := h116
          have q117k : tkR w115 := (show tkR w95 from q83k.eq (fun k g => by rw [← hw95]; exact e_up_ne _ _ (by omega))).fr q117f (fun k g => by unfold kPa; omega)
          have s119 : gS w95 w115 cd 0 0 0 0 0 := gS.pat hcd ((e_Has.get hT103 (c := cd) (k := 0) (lo := 0) (hi := 4000) (kD_0 hcd) (by decide)).1) q117f q117x (show w81 cd 0 = w95 cd 0 from Eq.symm (e_uq hw95 (Or.inr (by first | decide | omega)) rfl)) p111 (by omega)
          refine e_Ok.nrm (q := 178) (st' := []) rfl rfl ?_
          refine e_Ok.ps2 (x := (0, 23)) (y := (1, 1)) (q := 181) 2 rfl ?_
          refine e_Ok.callV rfl (e_dq hd rfl) rfl rfl rfl rfl (c_129 (e_dq hd rfl) q117T (show e_Has kRy w115 from H_fr q117f (fun c k g => by unfold kPa at g; omega) hH104) q117k (by omega)) (fun r125 w126 h127 => ?_)
          obtain ⟨rfl, q128f, q128T, q128H, q128k, q128x⟩ := h127
          have s130 : gS w115 w126 cd (-3) 0 0 0 0 := gS.acc hcd ((e_Has.get q117T (c := cd) (k := 0) (lo := 0) (hi := 4000) (kD_0 hcd) (by decide)).1) (by omega) q128f q128x (fun g => q117k.a3 (by omega))
          refine e_Ok.nrm (q := 184) (st' := []) rfl rfl ?_
          refine e_Ok.ps2 (x := (1, 1)) (y := (1, 1)) (q := 186) 2 rfl ?_
          refine e_Ok.getf (z := o + 1) rfl (el_o rfl) rfl rfl ((q128f 1 11 no_dn_2).trans ((q117f 1 11 (by unfold kPa; omega)).trans (e_uq hw95 (Or.inr (by decide)) ((q83f 1 11 (by unfold kEm; omega)).trans (q72o.trans (e_uq hw57 (Or.inr (by decide)) ((q50f 1 11 (by unfold kEm; omega)).trans ((q44f 1 11 (by unfold kEm; omega)).trans ((q37f 1 11 (by unfold kEm; omega)).trans ((q31f 1 11 (by unfold kEm; omega)).trans ((q23f 1 11 no_dn_2).trans ((q14f 1 11 no_dn_3).trans q4b)))))))))))) (by omega) ?_
          refine e_Ok.ps1 (x := (0, 1)) (q := 190) 1 rfl ?_
          refine e_Ok.sub' (z := o) rfl (by omega) (by omega) ?_
          refine e_Ok.putf rfl (el_o rfl) rfl rfl ?_
          generalize hw136 : e_up w126 1 11 o = w136
          have hT138 : e_Has kTy w136 := e_Has.ups q128T hw136 (kt_o rfl)
          have hH139 : e_Has kRy w136 := e_Has.upr q128H hw136 rfl (by omega)
          have g141 : e_fr (fun c k => c = 1 ∧ 11 ≤ k ∧ k ≤ 13) w126 w136 := fun c k g => by have g2 : ¬ (c = 1 ∧ 11 ≤ k ∧ k ≤ 13) := g; rw [← hw136]; exact e_up_ne _ _ (by omega)
          have s142 : gS w126 w136 cd 0 0 0 0 0 := gS.wr hcd ((e_Has.get q128T (c := cd) (k := 0) (lo := 0) (hi := 4000) (kD_0 hcd) (by decide)).1) (by omega) g141
          refine e_Ok.rets rfl rfl ?_
          exact ⟨rfl, (show e_fr (kRt cd) w w136 from e_fr.up (show e_fr (kRt cd) w w126 from e_fr.trans (show e_fr (kRt cd) w w115 from e_fr.trans (show e_fr (kRt cd) w w95 from e_fr.up f85 hw95 (by first | exact Or.inl ⟨rfl, Or.inr (Or.inr ⟨(by decide), (by decide)⟩)⟩ | (unfold kRt; omega))) (e_fr.mono q117f (fun c k q => by first | exact su_dn_27 q | (unfold kPa at q; unfold kRt; omega)))) (e_fr.mono q128f (fun c k q => by first | exact su_dn_22 q | (unfold kRk at q; unfold kRt; omega)))) hw136 (by first | exact Or.inl ⟨rfl, Or.inr (Or.inr ⟨(by decide), (by decide)⟩)⟩ | (unfold kRt; omega))), ⟨hT138, hH139, (e_uq hw136 (Or.inr (by first | decide | omega)) ((q128f 1 3 no_dn_0).trans ((q117f 1 3 (by unfold kPa; omega)).trans (e_uq hw95 (Or.inr (by first | decide | omega)) ((q83f 1 3 (by unfold kEm; omega)).trans ((q72f 1 3 (by unfold kRt; omega)).trans (e_uq hw57 (Or.inr (by first | decide | omega)) ((q50f 1 3 (by unfold kEm; omega)).trans ((q44f 1 3 (by unfold kEm; omega)).trans ((q37f 1 3 (by unfold kEm; omega)).trans ((q31f 1 3 (by unfold kEm; omega)).trans ((q23f 1 3 no_dn_0).trans ((q14f 1 3 no_dn_1).trans ((q4g 1 3 no_dn_14).trans hc)))))))))))))), hcd, (show tkR w136 from q128k.eq (fun k g => by rw [← hw136]; exact e_up_ne _ _ (by omega)))⟩, ⟨(by have g1 : w136 1 11 = o := (e_ue hw136); have g0 : w 1 11 = o := ho; omega), (by have g1 : w136 1 12 = t := (e_uq hw136 (Or.inr (by first | decide | omega)) ((q128f 1 12 no_dn_4).trans ((q117f 1 12 (by unfold kPa; omega)).trans (e_ue hw95)))); have g0 : w 1 12 = t := ht; omega), (by have g1 : w136 1 13 = lp := (e_uq hw136 (Or.inr (by first | decide | omega)) ((q128f 1 13 no_dn_6).trans ((q117f 1 13 (by unfold kPa; omega)).trans (e_uq hw95 (Or.inr (by first | decide | omega)) ((q83f 1 13 (by unfold kEm; omega)).trans (q72l.trans (e_uq hw57 (Or.inr (by first | decide | omega)) ((q50f 1 13 (by unfold kEm; omega)).trans ((q44f 1 13 (by unfold kEm; omega)).trans ((q37f 1 13 (by unfold kEm; omega)).trans ((q31f 1 13 (by unfold kEm; omega)).trans ((q23f 1 13 no_dn_6).trans ((q14f 1 13 no_dn_7).trans ((q4g 1 13 no_dn_16).trans hlp)))))))))))))); have g0 : w 1 13 = lp := hlp; omega)⟩, (show gS w w136 cd (-2) 1 0 0 0 from gS.trans (show gS w w126 cd (-2) 1 0 0 0 from gS.trans (show gS w w115 cd 1 1 0 0 0 from gS.trans (show gS w w95 cd 1 1 0 0 0 from gS.trans x87 s107 (by omega)) s119 (by omega)) s130 (by omega)) s142 (by omega)).le (by omega)⟩
        · replace h94 : (w70 1 5 : Int) = 44 := Classical.not_not.mp (show ¬ ((w70 1 5 : Int) ≠ 44) from h94)
          refine e_Ok.ps1 (x := (1, 1)) (q := 129) 1 rfl ?_
          refine e_Ok.getr (z := cd) rfl (el_o rfl) rfl rfl ((q83f 1 3 (by unfold kEm; omega)).trans ((q72f 1 3 (by unfold kRt; omega)).trans (e_uq hw57 (Or.inr (by decide)) ((q50f 1 3 (by unfold kEm; omega)).trans ((q44f 1 3 (by unfold kEm; omega)).trans ((q37f 1 3 (by unfold kEm; omega)).trans ((q31f 1 3 (by unfold kEm; omega)).trans ((q23f 1 3 no_dn_0).trans ((q14f 1 3 no_dn_1).trans ((q4g 1 3 no_dn_14).trans hc)))))))))) (by omega) ?_
          refine e_Ok.ps2 (x := (0, 2)) (y := (0, z32)) (q := 134) 2 rfl ?_
          refine e_Ok.add (z := z32 + 2) rfl rfl (by omega) ?_
          refine e_Ok.ps1 (x := (1, 1)) (q := 136) 1 rfl ?_
          refine e_Ok.getr (z := cd) rfl (el_o rfl) rfl rfl ((q83f 1 3 (by unfold kEm; omega)).trans ((q72f 1 3 (by unfold kRt; omega)).trans (e_uq hw57 (Or.inr (by decide)) ((q50f 1 3 (by unfold kEm; omega)).trans ((q44f 1 3 (by unfold kEm; omega)).trans ((q37f 1 3 (by unfold kEm; omega)).trans ((q31f 1 3 (by unfold kEm; omega)).trans ((q23f 1 3 no_dn_0).trans ((q14f 1 3 no_dn_1).trans ((q4g 1 3 no_dn_14).trans hc)))))))))) (by omega) ?_
          have h148 := (e_Has.get q83T (c := cd) (k := 0) (lo := 0) (hi := 4000) (kD_0 hcd) (by decide))
          refine e_Ok.getf (z := w81 cd 0) rfl (lD0 hcd) rfl rfl rfl (e_bq h148 (by decide) (by decide)) ?_
          refine e_Ok.callV rfl (e_dq hd rfl) rfl (lD0 hcd) rfl rfl (c_22 q83T hcd (by omega) (by have g := e_Has.get q83T (c := cd) (k := 0) (lo := 0) (hi := 4000) (kD_0 hcd) (by decide); omega)) (fun r149 w150 h151 => ?_)
          obtain ⟨rfl, q152f, q152T, q152x⟩ := h151
          have s154 : gS w81 w150 cd 0 0 0 0 0 := gS.pat hcd ((e_Has.get q83T (c := cd) (k := 0) (lo := 0) (hi := 4000) (kD_0 hcd) (by decide)).1) q152f q152x (show w81 cd 0 = w81 cd 0 from Eq.symm rfl) p89 (by omega)
          have p159 := lpK.step p91 s154
          refine e_Ok.nrm (q := 145) (st' := []) rfl rfl ?_
          refine e_Ok.ps2 (x := (0, 48)) (y := (1, 1)) (q := 148) 2 rfl ?_
          have k163 : w150 1 5 = w70 1 5 := ((q152f 1 5 (by unfold kPa; omega)).trans ((q83f 1 5 (by unfold kEm; omega)).trans rfl))
          refine e_Ok.callV rfl (e_dq hd rfl) rfl rfl rfl rfl (c_157 (e_dq hd rfl) (o := o + 1) (t := t + 1) (lp := lp) ⟨q152T, (show e_Has kRy w150 from H_fr q152f (fun c k g => by unfold kPa at g; omega) q83H), ((q152f 1 3 (by unfold kPa; omega)).trans ((q83f 1 3 (by unfold kEm; omega)).trans ((q72f 1 3 (by unfold kRt; omega)).trans (e_uq hw57 (Or.inr (by first | decide | omega)) ((q50f 1 3 (by unfold kEm; omega)).trans ((q44f 1 3 (by unfold kEm; omega)).trans ((q37f 1 3 (by unfold kEm; omega)).trans ((q31f 1 3 (by unfold kEm; omega)).trans ((q23f 1 3 no_dn_0).trans ((q14f 1 3 no_dn_1).trans ((q4g 1 3 no_dn_14).trans hc))))))))))), hcd, (show tkR w150 from q83k.fr q152f (fun k g => by unfold kPa; omega))⟩ ((q152f 1 11 (by unfold kPa; omega)).trans ((q83f 1 11 (by unfold kEm; omega)).trans (q72o.trans (e_uq hw57 (Or.inr (by first | decide | omega)) ((q50f 1 11 (by unfold kEm; omega)).trans ((q44f 1 11 (by unfold kEm; omega)).trans ((q37f 1 11 (by unfold kEm; omega)).trans ((q31f 1 11 (by unfold kEm; omega)).trans ((q23f 1 11 no_dn_2).trans ((q14f 1 11 no_dn_3).trans q4b)))))))))) (by omega) ((q152f 1 12 (by unfold kPa; omega)).trans ((q83f 1 12 (by unfold kEm; omega)).trans (q72t.trans (e_ue hw57)))) (by omega) ((q152f 1 13 (by unfold kPa; omega)).trans ((q83f 1 13 (by unfold kEm; omega)).trans (q72l.trans (e_uq hw57 (Or.inr (by first | decide | omega)) ((q50f 1 13 (by unfold kEm; omega)).trans ((q44f 1 13 (by unfold kEm; omega)).trans ((q37f 1 13 (by unfold kEm; omega)).trans ((q31f 1 13 (by unfold kEm; omega)).trans ((q23f 1 13 no_dn_6).trans ((q14f 1 13 no_dn_7).trans ((q4g 1 13 no_dn_16).trans hlp))))))))))) p159 (by omega) (by omega) (fun k e => hB (by omega) k (by omega))) (fun r160 w161 h162 => ?_)
          obtain ⟨rfl, q164f, ⟨q164T, q164H, q164c, -, q164k⟩, ⟨q164o, q164t, q164l⟩, q164x⟩ := h162
          have s166 : gS w150 w161 cd 0 0 0 0 0 := q164x
          refine e_Ok.nrm (q := 151) (st' := []) rfl rfl ?_
          refine e_Ok.ps2 (x := (1, 1)) (y := (1, 1)) (q := 153) 2 rfl ?_
          refine e_Ok.getf (z := t + 1) rfl (el_o rfl) rfl rfl (q164t.trans ((q152f 1 12 (by unfold kPa; omega)).trans ((q83f 1 12 (by unfold kEm; omega)).trans (q72t.trans (e_ue hw57))))) (by omega) ?_
          refine e_Ok.ps1 (x := (0, 1)) (q := 157) 1 rfl ?_
          refine e_Ok.sub' (z := t) rfl (by omega) (by omega) ?_
          refine e_Ok.putf rfl (el_o rfl) rfl rfl ?_
          generalize hw172 : e_up w161 1 12 t = w172
          have hT174 : e_Has kTy w172 := e_Has.ups q164T hw172 (kt_o rfl)
          have hH175 : e_Has kRy w172 := e_Has.upr q164H hw172 rfl (by omega)
          have g177 : e_fr (fun c k => c = 1 ∧ 11 ≤ k ∧ k ≤ 13) w161 w172 := fun c k g => by have g2 : ¬ (c = 1 ∧ 11 ≤ k ∧ k ≤ 13) := g; rw [← hw172]; exact e_up_ne _ _ (by omega)
          have s178 : gS w161 w172 cd 0 0 0 0 0 := gS.wr hcd ((e_Has.get q164T (c := cd) (k := 0) (lo := 0) (hi := 4000) (kD_0 hcd) (by decide)).1) (by omega) g177
          have p182 := zpl.step (zpl.step (zpl.step p90 s154) s166) s178
          refine e_Ok.ps1 (x := (1, 1)) (q := 162) 1 rfl ?_
          refine e_Ok.getr (z := cd) rfl (el_o rfl) rfl rfl (e_uq hw172 (Or.inr (by decide)) ((q164f 1 3 (by unfold kRt; omega)).trans ((q152f 1 3 (by unfold kPa; omega)).trans ((q83f 1 3 (by unfold kEm; omega)).trans ((q72f 1 3 (by unfold kRt; omega)).trans (e_uq hw57 (Or.inr (by decide)) ((q50f 1 3 (by unfold kEm; omega)).trans ((q44f 1 3 (by unfold kEm; omega)).trans ((q37f 1 3 (by unfold kEm; omega)).trans ((q31f 1 3 (by unfold kEm; omega)).trans ((q23f 1 3 no_dn_0).trans ((q14f 1 3 no_dn_1).trans ((q4g 1 3 no_dn_14).trans hc))))))))))))) (by omega) ?_
          refine e_Ok.ps2 (x := (0, 3)) (y := (0, z32)) (q := 167) 2 rfl ?_
          refine e_Ok.add (z := z32 + 3) rfl rfl (by omega) ?_
          refine e_Ok.ps1 (x := (1, 1)) (q := 169) 1 rfl ?_
          refine e_Ok.getr (z := cd) rfl (el_o rfl) rfl rfl (e_uq hw172 (Or.inr (by decide)) ((q164f 1 3 (by unfold kRt; omega)).trans ((q152f 1 3 (by unfold kPa; omega)).trans ((q83f 1 3 (by unfold kEm; omega)).trans ((q72f 1 3 (by unfold kRt; omega)).trans (e_uq hw57 (Or.inr (by decide)) ((q50f 1 3 (by unfold kEm; omega)).trans ((q44f 1 3 (by unfold kEm; omega)).trans ((q37f 1 3 (by unfold kEm; omega)).trans ((q31f 1 3 (by unfold kEm; omega)).trans ((q23f 1 3 no_dn_0).trans ((q14f 1 3 no_dn_1).trans ((q4g 1 3 no_dn_14).trans hc))))))))))))) (by omega) ?_
          have h184 := (e_Has.get q164T (c := cd) (k := 0) (lo := 0) (hi := 4000) (kD_0 hcd) (by decide))
          refine e_Ok.getf (z := w161 cd 0) rfl (lD0 hcd) rfl rfl (e_uq hw172 (Or.inr (by decide)) rfl) (e_bq h184 (by decide) (by decide)) ?_
          refine e_Ok.callV rfl (e_dq hd rfl) rfl (lD0 hcd) rfl rfl (c_22 hT174 hcd (by omega) (by have g := e_Has.get hT174 (c := cd) (k := 0) (lo := 0) (hi := 4000) (kD_0 hcd) (by decide); omega)) (fun r185 w186 h187 => ?_)
          obtain ⟨rfl, q188f, q188T, q188x⟩ := h187
          have q188k : tkR w186 := (show tkR w172 from q164k.eq (fun k g => by rw [← hw172]; exact e_up_ne _ _ (by omega))).fr q188f (fun k g => by unfold kPa; omega)
          have s190 : gS w172 w186 cd 0 0 0 0 0 := gS.pat hcd ((e_Has.get hT174 (c := cd) (k := 0) (lo := 0) (hi := 4000) (kD_0 hcd) (by decide)).1) q188f q188x (show w161 cd 0 = w172 cd 0 from Eq.symm (e_uq hw172 (Or.inr (by first | decide | omega)) rfl)) p182 (by omega)
          refine e_Ok.nrm (q := 178) (st' := []) rfl rfl ?_
          refine e_Ok.ps2 (x := (0, 23)) (y := (1, 1)) (q := 181) 2 rfl ?_
          refine e_Ok.callV rfl (e_dq hd rfl) rfl rfl rfl rfl (c_129 (e_dq hd rfl) q188T (show e_Has kRy w186 from H_fr q188f (fun c k g => by unfold kPa at g; omega) hH175) q188k (by omega)) (fun r196 w197 h198 => ?_)
          obtain ⟨rfl, q199f, q199T, q199H, q199k, q199x⟩ := h198
          have s201 : gS w186 w197 cd (-3) 0 0 0 0 := gS.acc hcd ((e_Has.get q188T (c := cd) (k := 0) (lo := 0) (hi := 4000) (kD_0 hcd) (by decide)).1) (by omega) q199f q199x (fun g => q188k.a3 (by omega))
          refine e_Ok.nrm (q := 184) (st' := []) rfl rfl ?_
          refine e_Ok.ps2 (x := (1, 1)) (y := (1, 1)) (q := 186) 2 rfl ?_
          refine e_Ok.getf (z := o + 1) rfl (el_o rfl) rfl rfl ((q199f 1 11 no_dn_2).trans ((q188f 1 11 (by unfold kPa; omega)).trans (e_uq hw172 (Or.inr (by decide)) (q164o.trans ((q152f 1 11 (by unfold kPa; omega)).trans ((q83f 1 11 (by unfold kEm; omega)).trans (q72o.trans (e_uq hw57 (Or.inr (by decide)) ((q50f 1 11 (by unfold kEm; omega)).trans ((q44f 1 11 (by unfold kEm; omega)).trans ((q37f 1 11 (by unfold kEm; omega)).trans ((q31f 1 11 (by unfold kEm; omega)).trans ((q23f 1 11 no_dn_2).trans ((q14f 1 11 no_dn_3).trans q4b)))))))))))))) (by omega) ?_
          refine e_Ok.ps1 (x := (0, 1)) (q := 190) 1 rfl ?_
          refine e_Ok.sub' (z := o) rfl (by omega) (by omega) ?_
          refine e_Ok.putf rfl (el_o rfl) rfl rfl ?_
          generalize hw207 : e_up w197 1 11 o = w207
          have hT209 : e_Has kTy w207 := e_Has.ups q199T hw207 (kt_o rfl)
          have hH210 : e_Has kRy w207 := e_Has.upr q199H hw207 rfl (by omega)
          have g212 : e_fr (fun c k => c = 1 ∧ 11 ≤ k ∧ k ≤ 13) w197 w207 := fun c k g => by have g2 : ¬ (c = 1 ∧ 11 ≤ k ∧ k ≤ 13) := g; rw [← hw207]; exact e_up_ne _ _ (by omega)
          have s213 : gS w197 w207 cd 0 0 0 0 0 := gS.wr hcd ((e_Has.get q199T (c := cd) (k := 0) (lo := 0) (hi := 4000) (kD_0 hcd) (by decide)).1) (by omega) g212
          refine e_Ok.rets rfl rfl ?_
          exact ⟨rfl, (show e_fr (kRt cd) w w207 from e_fr.up (show e_fr (kRt cd) w w197 from e_fr.trans (show e_fr (kRt cd) w w186 from e_fr.trans (show e_fr (kRt cd) w w172 from e_fr.up (show e_fr (kRt cd) w w161 from e_fr.trans (show e_fr (kRt cd) w w150 from e_fr.trans f85 (e_fr.mono q152f (fun c k q => by first | exact su_dn_27 q | (unfold kPa at q; unfold kRt; omega)))) (e_fr.mono q164f (fun c k q => by exact q))) hw172 (by first | exact Or.inl ⟨rfl, Or.inr (Or.inr ⟨(by decide), (by decide)⟩)⟩ | (unfold kRt; omega))) (e_fr.mono q188f (fun c k q => by first | exact su_dn_27 q | (unfold kPa at q; unfold kRt; omega)))) (e_fr.mono q199f (fun c k q => by first | exact su_dn_22 q | (unfold kRk at q; unfold kRt; omega)))) hw207 (by first | exact Or.inl ⟨rfl, Or.inr (Or.inr ⟨(by decide), (by decide)⟩)⟩ | (unfold kRt; omega))), ⟨hT209, hH210, (e_uq hw207 (Or.inr (by first | decide | omega)) ((q199f 1 3 no_dn_0).trans ((q188f 1 3 (by unfold kPa; omega)).trans (e_uq hw172 (Or.inr (by first | decide | omega)) ((q164f 1 3 (by unfold kRt; omega)).trans ((q152f 1 3 (by unfold kPa; omega)).trans ((q83f 1 3 (by unfold kEm; omega)).trans ((q72f 1 3 (by unfold kRt; omega)).trans (e_uq hw57 (Or.inr (by first | decide | omega)) ((q50f 1 3 (by unfold kEm; omega)).trans ((q44f 1 3 (by unfold kEm; omega)).trans ((q37f 1 3 (by unfold kEm; omega)).trans ((q31f 1 3 (by unfold kEm; omega)).trans ((q23f 1 3 no_dn_0).trans ((q14f 1 3 no_dn_1).trans ((q4g 1 3 no_dn_14).trans hc)))))))))))))))), hcd, (show tkR w207 from q199k.eq (fun k g => by rw [← hw207]; exact e_up_ne _ _ (by omega)))⟩, ⟨(by have g1 : w207 1 11 = o := (e_ue hw207); have g0 : w 1 11 = o := ho; omega), (by have g1 : w207 1 12 = t := (e_uq hw207 (Or.inr (by first | decide | omega)) ((q199f 1 12 no_dn_4).trans ((q188f 1 12 (by unfold kPa; omega)).trans (e_ue hw172)))); have g0 : w 1 12 = t := ht; omega), (by have g1 : w207 1 13 = lp := (e_uq hw207 (Or.inr (by first | decide | omega)) ((q199f 1 13 no_dn_6).trans ((q188f 1 13 (by unfold kPa; omega)).trans (e_uq hw172 (Or.inr (by first | decide | omega)) (q164l.trans ((q152f 1 13 (by unfold kPa; omega)).trans ((q83f 1 13 (by unfold kEm; omega)).trans (q72l.trans (e_uq hw57 (Or.inr (by first | decide | omega)) ((q50f 1 13 (by unfold kEm; omega)).trans ((q44f 1 13 (by unfold kEm; omega)).trans ((q37f 1 13 (by unfold kEm; omega)).trans ((q31f 1 13 (by unfold kEm; omega)).trans ((q23f 1 13 no_dn_6).trans ((q14f 1 13 no_dn_7).trans ((q4g 1 13 no_dn_16).trans hlp)))))))))))))))); have g0 : w 1 13 = lp := hlp; omega)⟩, (show gS w w207 cd (-2) 1 0 0 0 from gS.trans (show gS w w197 cd (-2) 1 0 0 0 from gS.trans (show gS w w186 cd 1 1 0 0 0 from gS.trans (show gS w w172 cd 1 1 0 0 0 from gS.trans (show gS w w161 cd 1 1 0 0 0 from gS.trans (show gS w w150 cd 1 1 0 0 0 from gS.trans x87 s154 (by omega)) s166 (by omega)) s178 (by omega)) s190 (by omega)) s201 (by omega)) s213 (by omega)).le (by omega)⟩
      · replace h93 : (w70 1 5 : Int) = 43 := Classical.not_not.mp (show ¬ ((w70 1 5 : Int) ≠ 43) from h93)
        refine e_Ok.ps1 (x := (1, 1)) (q := 97) 1 rfl ?_
        refine e_Ok.getr (z := cd) rfl (el_o rfl) rfl rfl ((q83f 1 3 (by unfold kEm; omega)).trans ((q72f 1 3 (by unfold kRt; omega)).trans (e_uq hw57 (Or.inr (by decide)) ((q50f 1 3 (by unfold kEm; omega)).trans ((q44f 1 3 (by unfold kEm; omega)).trans ((q37f 1 3 (by unfold kEm; omega)).trans ((q31f 1 3 (by unfold kEm; omega)).trans ((q23f 1 3 no_dn_0).trans ((q14f 1 3 no_dn_1).trans ((q4g 1 3 no_dn_14).trans hc)))))))))) (by omega) ?_
        refine e_Ok.ps2 (x := (0, 1)) (y := (0, z32)) (q := 102) 2 rfl ?_
        refine e_Ok.add (z := z32 + 1) rfl rfl (by omega) ?_
        refine e_Ok.ps1 (x := (1, 1)) (q := 104) 1 rfl ?_
        refine e_Ok.getr (z := cd) rfl (el_o rfl) rfl rfl ((q83f 1 3 (by unfold kEm; omega)).trans ((q72f 1 3 (by unfold kRt; omega)).trans (e_uq hw57 (Or.inr (by decide)) ((q50f 1 3 (by unfold kEm; omega)).trans ((q44f 1 3 (by unfold kEm; omega)).trans ((q37f 1 3 (by unfold kEm; omega)).trans ((q31f 1 3 (by unfold kEm; omega)).trans ((q23f 1 3 no_dn_0).trans ((q14f 1 3 no_dn_1).trans ((q4g 1 3 no_dn_14).trans hc)))))))))) (by omega) ?_
        have h219 := (e_Has.get q83T (c := cd) (k := 0) (lo := 0) (hi := 4000) (kD_0 hcd) (by decide))
        refine e_Ok.getf (z := w81 cd 0) rfl (lD0 hcd) rfl rfl rfl (e_bq h219 (by decide) (by decide)) ?_
        refine e_Ok.callV rfl (e_dq hd rfl) rfl (lD0 hcd) rfl rfl (c_22 q83T hcd (by omega) (by have g := e_Has.get q83T (c := cd) (k := 0) (lo := 0) (hi := 4000) (kD_0 hcd) (by decide); omega)) (fun r220 w221 h222 => ?_)
        obtain ⟨rfl, q223f, q223T, q223x⟩ := h222
        have s225 : gS w81 w221 cd 0 0 0 0 0 := gS.pat hcd ((e_Has.get q83T (c := cd) (k := 0) (lo := 0) (hi := 4000) (kD_0 hcd) (by decide)).1) q223f q223x (show w81 cd 0 = w81 cd 0 from Eq.symm rfl) p88 (by omega)
        have p230 := lpK.step p91 s225
        refine e_Ok.nrm (q := 113) (st' := []) rfl rfl ?_
        refine e_Ok.ps2 (x := (0, 47)) (y := (1, 1)) (q := 116) 2 rfl ?_
        have k234 : w221 1 5 = w70 1 5 := ((q223f 1 5 (by unfold kPa; omega)).trans ((q83f 1 5 (by unfold kEm; omega)).trans rfl))
        refine e_Ok.callV rfl (e_dq hd rfl) rfl rfl rfl rfl (c_157 (e_dq hd rfl) (o := o + 1) (t := t + 1) (lp := lp) ⟨q223T, (show e_Has kRy w221 from H_fr q223f (fun c k g => by unfold kPa at g; omega) q83H), ((q223f 1 3 (by unfold kPa; omega)).trans ((q83f 1 3 (by unfold kEm; omega)).trans ((q72f 1 3 (by unfold kRt; omega)).trans (e_uq hw57 (Or.inr (by first | decide | omega)) ((q50f 1 3 (by unfold kEm; omega)).trans ((q44f 1 3 (by unfold kEm; omega)).trans ((q37f 1 3 (by unfold kEm; omega)).trans ((q31f 1 3 (by unfold kEm; omega)).trans ((q23f 1 3 no_dn_0).trans ((q14f 1 3 no_dn_1).trans ((q4g 1 3 no_dn_14).trans hc))))))))))), hcd, (show tkR w221 from q83k.fr q223f (fun k g => by unfold kPa; omega))⟩ ((q223f 1 11 (by unfold kPa; omega)).trans ((q83f 1 11 (by unfold kEm; omega)).trans (q72o.trans (e_uq hw57 (Or.inr (by first | decide | omega)) ((q50f 1 11 (by unfold kEm; omega)).trans ((q44f 1 11 (by unfold kEm; omega)).trans ((q37f 1 11 (by unfold kEm; omega)).trans ((q31f 1 11 (by unfold kEm; omega)).trans ((q23f 1 11 no_dn_2).trans ((q14f 1 11 no_dn_3).trans q4b)))))))))) (by omega) ((q223f 1 12 (by unfold kPa; omega)).trans ((q83f 1 12 (by unfold kEm; omega)).trans (q72t.trans (e_ue hw57)))) (by omega) ((q223f 1 13 (by unfold kPa; omega)).trans ((q83f 1 13 (by unfold kEm; omega)).trans (q72l.trans (e_uq hw57 (Or.inr (by first | decide | omega)) ((q50f 1 13 (by unfold kEm; omega)).trans ((q44f 1 13 (by unfold kEm; omega)).trans ((q37f 1 13 (by unfold kEm; omega)).trans ((q31f 1 13 (by unfold kEm; omega)).trans ((q23f 1 13 no_dn_6).trans ((q14f 1 13 no_dn_7).trans ((q4g 1 13 no_dn_16).trans hlp))))))))))) p230 (by omega) (by omega) (fun k e => hB (by omega) k (by omega))) (fun r231 w232 h233 => ?_)
        obtain ⟨rfl, q235f, ⟨q235T, q235H, q235c, -, q235k⟩, ⟨q235o, q235t, q235l⟩, q235x⟩ := h233
        have f236 : e_fr (kRt cd) w w232 := e_fr.trans (show e_fr (kRt cd) w w221 from e_fr.trans f85 (e_fr.mono q223f (fun c k q => by first | exact su_dn_27 q | (unfold kPa at q; unfold kRt; omega)))) (e_fr.mono q235f (fun c k q => by exact q))
        have s237 : gS w221 w232 cd 0 0 0 0 0 := q235x
        have x238 : gS w w232 cd 1 1 0 0 0 := gS.trans (show gS w w221 cd 1 1 0 0 0 from gS.trans x87 s225 (by omega)) s237 (by omega)
        have p239 := zpl.step (zpl.step p88 s225) s237
        have p240 := zpl.step (zpl.step p89 s225) s237
        have p241 := zpl.step (zpl.step p90 s225) s237
        have p242 := lpK.step p230 s237
        refine e_Ok.nrm (q := 119) (st' := []) rfl rfl ?_
        refine e_Ok.ps1 (x := (1, 1)) (q := 120) 1 rfl ?_
        have h243 := (e_Has.get q235H (c := 1) (k := 5) (lo := 0) (hi := 53) rfl (by decide))
        refine e_Ok.getf (z := w232 1 5) rfl (el_o rfl) rfl rfl rfl (e_bq h243 (by decide) (by decide)) ?_
        refine e_Ok.ps1 (x := (0, 44)) (q := 125) 1 rfl ?_
        refine e_Ok.if2 rfl (fun h244 => ?_) (fun h244 => ?_)
        · replace h244 : (w232 1 5 : Int) ≠ 44 := h244
          refine e_Ok.ps2 (x := (1, 1)) (y := (1, 1)) (q := 153) 2 rfl ?_
          refine e_Ok.getf (z := t + 1) rfl (el_o rfl) rfl rfl (q235t.trans ((q223f 1 12 (by unfold kPa; omega)).trans ((q83f 1 12 (by unfold kEm; omega)).trans (q72t.trans (e_ue hw57))))) (by omega) ?_
          refine e_Ok.ps1 (x := (0, 1)) (q := 157) 1 rfl ?_
          refine e_Ok.sub' (z := t) rfl (by omega) (by omega) ?_
          refine e_Ok.putf rfl (el_o rfl) rfl rfl ?_
          generalize hw245 : e_up w232 1 12 t = w245
          have hT247 : e_Has kTy w245 := e_Has.ups q235T hw245 (kt_o rfl)
          have hH248 : e_Has kRy w245 := e_Has.upr q235H hw245 rfl (by omega)
          have g250 : e_fr (fun c k => c = 1 ∧ 11 ≤ k ∧ k ≤ 13) w232 w245 := fun c k g => by have g2 : ¬ (c = 1 ∧ 11 ≤ k ∧ k ≤ 13) := g; rw [← hw245]; exact e_up_ne _ _ (by omega)
          have s251 : gS w232 w245 cd 0 0 0 0 0 := gS.wr hcd ((e_Has.get q235T (c := cd) (k := 0) (lo := 0) (hi := 4000) (kD_0 hcd) (by decide)).1) (by omega) g250
          have p255 := zpl.step p241 s251
          refine e_Ok.ps1 (x := (1, 1)) (q := 162) 1 rfl ?_
          refine e_Ok.getr (z := cd) rfl (el_o rfl) rfl rfl (e_uq hw245 (Or.inr (by decide)) ((q235f 1 3 (by unfold kRt; omega)).trans ((q223f 1 3 (by unfold kPa; omega)).trans ((q83f 1 3 (by unfold kEm; omega)).trans ((q72f 1 3 (by unfold kRt; omega)).trans (e_uq hw57 (Or.inr (by decide)) ((q50f 1 3 (by unfold kEm; omega)).trans ((q44f 1 3 (by unfold kEm; omega)).trans ((q37f 1 3 (by unfold kEm; omega)).trans ((q31f 1 3 (by unfold kEm; omega)).trans ((q23f 1 3 no_dn_0).trans ((q14f 1 3 no_dn_1).trans ((q4g 1 3 no_dn_14).trans hc))))))))))))) (by omega) ?_
          refine e_Ok.ps2 (x := (0, 3)) (y := (0, z32)) (q := 167) 2 rfl ?_
          refine e_Ok.add (z := z32 + 3) rfl rfl (by omega) ?_
          refine e_Ok.ps1 (x := (1, 1)) (q := 169) 1 rfl ?_
          refine e_Ok.getr (z := cd) rfl (el_o rfl) rfl rfl (e_uq hw245 (Or.inr (by decide)) ((q235f 1 3 (by unfold kRt; omega)).trans ((q223f 1 3 (by unfold kPa; omega)).trans ((q83f 1 3 (by unfold kEm; omega)).trans ((q72f 1 3 (by unfold kRt; omega)).trans (e_uq hw57 (Or.inr (by decide)) ((q50f 1 3 (by unfold kEm; omega)).trans ((q44f 1 3 (by unfold kEm; omega)).trans ((q37f 1 3 (by unfold kEm; omega)).trans ((q31f 1 3 (by unfold kEm; omega)).trans ((q23f 1 3 no_dn_0).trans ((q14f 1 3 no_dn_1).trans ((q4g 1 3 no_dn_14).trans hc))))))))))))) (by omega) ?_
          have h257 := (e_Has.get q235T (c := cd) (k := 0) (lo := 0) (hi := 4000) (kD_0 hcd) (by decide))
          refine e_Ok.getf (z := w232 cd 0) rfl (lD0 hcd) rfl rfl (e_uq hw245 (Or.inr (by decide)) rfl) (e_bq h257 (by decide) (by decide)) ?_
          refine e_Ok.callV rfl (e_dq hd rfl) rfl (lD0 hcd) rfl rfl (c_22 hT247 hcd (by omega) (by have g := e_Has.get hT247 (c := cd) (k := 0) (lo := 0) (hi := 4000) (kD_0 hcd) (by decide); omega)) (fun r258 w259 h260 => ?_)
          obtain ⟨rfl, q261f, q261T, q261x⟩ := h260
          have q261k : tkR w259 := (show tkR w245 from q235k.eq (fun k g => by rw [← hw245]; exact e_up_ne _ _ (by omega))).fr q261f (fun k g => by unfold kPa; omega)
          have s263 : gS w245 w259 cd 0 0 0 0 0 := gS.pat hcd ((e_Has.get hT247 (c := cd) (k := 0) (lo := 0) (hi := 4000) (kD_0 hcd) (by decide)).1) q261f q261x (show w232 cd 0 = w245 cd 0 from Eq.symm (e_uq hw245 (Or.inr (by first | decide | omega)) rfl)) p255 (by omega)
          refine e_Ok.nrm (q := 178) (st' := []) rfl rfl ?_
          refine e_Ok.ps2 (x := (0, 23)) (y := (1, 1)) (q := 181) 2 rfl ?_
          refine e_Ok.callV rfl (e_dq hd rfl) rfl rfl rfl rfl (c_129 (e_dq hd rfl) q261T (show e_Has kRy w259 from H_fr q261f (fun c k g => by unfold kPa at g; omega) hH248) q261k (by omega)) (fun r269 w270 h271 => ?_)
          obtain ⟨rfl, q272f, q272T, q272H, q272k, q272x⟩ := h271
          have s274 : gS w259 w270 cd (-3) 0 0 0 0 := gS.acc hcd ((e_Has.get q261T (c := cd) (k := 0) (lo := 0) (hi := 4000) (kD_0 hcd) (by decide)).1) (by omega) q272f q272x (fun g => q261k.a3 (by omega))
          refine e_Ok.nrm (q := 184) (st' := []) rfl rfl ?_
          refine e_Ok.ps2 (x := (1, 1)) (y := (1, 1)) (q := 186) 2 rfl ?_
          refine e_Ok.getf (z := o + 1) rfl (el_o rfl) rfl rfl ((q272f 1 11 no_dn_2).trans ((q261f 1 11 (by unfold kPa; omega)).trans (e_uq hw245 (Or.inr (by decide)) (q235o.trans ((q223f 1 11 (by unfold kPa; omega)).trans ((q83f 1 11 (by unfold kEm; omega)).trans (q72o.trans (e_uq hw57 (Or.inr (by decide)) ((q50f 1 11 (by unfold kEm; omega)).trans ((q44f 1 11 (by unfold kEm; omega)).trans ((q37f 1 11 (by unfold kEm; omega)).trans ((q31f 1 11 (by unfold kEm; omega)).trans ((q23f 1 11 no_dn_2).trans ((q14f 1 11 no_dn_3).trans q4b)))))))))))))) (by omega) ?_
          refine e_Ok.ps1 (x := (0, 1)) (q := 190) 1 rfl ?_
          refine e_Ok.sub' (z := o) rfl (by omega) (by omega) ?_
          refine e_Ok.putf rfl (el_o rfl) rfl rfl ?_
          generalize hw280 : e_up w270 1 11 o = w280
          have hT282 : e_Has kTy w280 := e_Has.ups q272T hw280 (kt_o rfl)
          have hH283 : e_Has kRy w280 := e_Has.upr q272H hw280 rfl (by omega)
          have g285 : e_fr (fun c k => c = 1 ∧ 11 ≤ k ∧ k ≤ 13) w270 w280 := fun c k g => by have g2 : ¬ (c = 1 ∧ 11 ≤ k ∧ k ≤ 13) := g; rw [← hw280]; exact e_up_ne _ _ (by omega)
          have s286 : gS w270 w280 cd 0 0 0 0 0 := gS.wr hcd ((e_Has.get q272T (c := cd) (k := 0) (lo := 0) (hi := 4000) (kD_0 hcd) (by decide)).1) (by omega) g285
          refine e_Ok.rets rfl rfl ?_
          exact ⟨rfl, (show e_fr (kRt cd) w w280 from e_fr.up (show e_fr (kRt cd) w w270 from e_fr.trans (show e_fr (kRt cd) w w259 from e_fr.trans (show e_fr (kRt cd) w w245 from e_fr.up f236 hw245 (by first | exact Or.inl ⟨rfl, Or.inr (Or.inr ⟨(by decide), (by decide)⟩)⟩ | (unfold kRt; omega))) (e_fr.mono q261f (fun c k q => by first | exact su_dn_27 q | (unfold kPa at q; unfold kRt; omega)))) (e_fr.mono q272f (fun c k q => by first | exact su_dn_22 q | (unfold kRk at q; unfold kRt; omega)))) hw280 (by first | exact Or.inl ⟨rfl, Or.inr (Or.inr ⟨(by decide), (by decide)⟩)⟩ | (unfold kRt; omega))), ⟨hT282, hH283, (e_uq hw280 (Or.inr (by first | decide | omega)) ((q272f 1 3 no_dn_0).trans ((q261f 1 3 (by unfold kPa; omega)).trans (e_uq hw245 (Or.inr (by first | decide | omega)) ((q235f 1 3 (by unfold kRt; omega)).trans ((q223f 1 3 (by unfold kPa; omega)).trans ((q83f 1 3 (by unfold kEm; omega)).trans ((q72f 1 3 (by unfold kRt; omega)).trans (e_uq hw57 (Or.inr (by first | decide | omega)) ((q50f 1 3 (by unfold kEm; omega)).trans ((q44f 1 3 (by unfold kEm; omega)).trans ((q37f 1 3 (by unfold kEm; omega)).trans ((q31f 1 3 (by unfold kEm; omega)).trans ((q23f 1 3 no_dn_0).trans ((q14f 1 3 no_dn_1).trans ((q4g 1 3 no_dn_14).trans hc)))))))))))))))), hcd, (show tkR w280 from q272k.eq (fun k g => by rw [← hw280]; exact e_up_ne _ _ (by omega)))⟩, ⟨(by have g1 : w280 1 11 = o := (e_ue hw280); have g0 : w 1 11 = o := ho; omega), (by have g1 : w280 1 12 = t := (e_uq hw280 (Or.inr (by first | decide | omega)) ((q272f 1 12 no_dn_4).trans ((q261f 1 12 (by unfold kPa; omega)).trans (e_ue hw245)))); have g0 : w 1 12 = t := ht; omega), (by have g1 : w280 1 13 = lp := (e_uq hw280 (Or.inr (by first | decide | omega)) ((q272f 1 13 no_dn_6).trans ((q261f 1 13 (by unfold kPa; omega)).trans (e_uq hw245 (Or.inr (by first | decide | omega)) (q235l.trans ((q223f 1 13 (by unfold kPa; omega)).trans ((q83f 1 13 (by unfold kEm; omega)).trans (q72l.trans (e_uq hw57 (Or.inr (by first | decide | omega)) ((q50f 1 13 (by unfold kEm; omega)).trans ((q44f 1 13 (by unfold kEm; omega)).trans ((q37f 1 13 (by unfold kEm; omega)).trans ((q31f 1 13 (by unfold kEm; omega)).trans ((q23f 1 13 no_dn_6).trans ((q14f 1 13 no_dn_7).trans ((q4g 1 13 no_dn_16).trans hlp)))))))))))))))); have g0 : w 1 13 = lp := hlp; omega)⟩, (show gS w w280 cd (-2) 1 0 0 0 from gS.trans (show gS w w270 cd (-2) 1 0 0 0 from gS.trans (show gS w w259 cd 1 1 0 0 0 from gS.trans (show gS w w245 cd 1 1 0 0 0 from gS.trans x238 s251 (by omega)) s263 (by omega)) s274 (by omega)) s286 (by omega)).le (by omega)⟩
        · replace h244 : (w232 1 5 : Int) = 44 := Classical.not_not.mp (show ¬ ((w232 1 5 : Int) ≠ 44) from h244)
          refine e_Ok.ps1 (x := (1, 1)) (q := 129) 1 rfl ?_
          refine e_Ok.getr (z := cd) rfl (el_o rfl) rfl rfl ((q235f 1 3 (by unfold kRt; omega)).trans ((q223f 1 3 (by unfold kPa; omega)).trans ((q83f 1 3 (by unfold kEm; omega)).trans ((q72f 1 3 (by unfold kRt; omega)).trans (e_uq hw57 (Or.inr (by decide)) ((q50f 1 3 (by unfold kEm; omega)).trans ((q44f 1 3 (by unfold kEm; omega)).trans ((q37f 1 3 (by unfold kEm; omega)).trans ((q31f 1 3 (by unfold kEm; omega)).trans ((q23f 1 3 no_dn_0).trans ((q14f 1 3 no_dn_1).trans ((q4g 1 3 no_dn_14).trans hc)))))))))))) (by omega) ?_
          refine e_Ok.ps2 (x := (0, 2)) (y := (0, z32)) (q := 134) 2 rfl ?_
          refine e_Ok.add (z := z32 + 2) rfl rfl (by omega) ?_
          refine e_Ok.ps1 (x := (1, 1)) (q := 136) 1 rfl ?_
          refine e_Ok.getr (z := cd) rfl (el_o rfl) rfl rfl ((q235f 1 3 (by unfold kRt; omega)).trans ((q223f 1 3 (by unfold kPa; omega)).trans ((q83f 1 3 (by unfold kEm; omega)).trans ((q72f 1 3 (by unfold kRt; omega)).trans (e_uq hw57 (Or.inr (by decide)) ((q50f 1 3 (by unfold kEm; omega)).trans ((q44f 1 3 (by unfold kEm; omega)).trans ((q37f 1 3 (by unfold kEm; omega)).trans ((q31f 1 3 (by unfold kEm; omega)).trans ((q23f 1 3 no_dn_0).trans ((q14f 1 3 no_dn_1).trans ((q4g 1 3 no_dn_14).trans hc)))))))))))) (by omega) ?_
          have h292 := (e_Has.get q235T (c := cd) (k := 0) (lo := 0) (hi := 4000) (kD_0 hcd) (by decide))
          refine e_Ok.getf (z := w232 cd 0) rfl (lD0 hcd) rfl rfl rfl (e_bq h292 (by decide) (by decide)) ?_
          refine e_Ok.callV rfl (e_dq hd rfl) rfl (lD0 hcd) rfl rfl (c_22 q235T hcd (by omega) (by have g := e_Has.get q235T (c := cd) (k := 0) (lo := 0) (hi := 4000) (kD_0 hcd) (by decide); omega)) (fun r293 w294 h295 => ?_)
          obtain ⟨rfl, q296f, q296T, q296x⟩ := h295
          have s298 : gS w232 w294 cd 0 0 0 0 0 := gS.pat hcd ((e_Has.get q235T (c := cd) (k := 0) (lo := 0) (hi := 4000) (kD_0 hcd) (by decide)).1) q296f q296x (show w232 cd 0 = w232 cd 0 from Eq.symm rfl) p240 (by omega)
          have p303 := lpK.step p242 s298
          refine e_Ok.nrm (q := 145) (st' := []) rfl rfl ?_
          refine e_Ok.ps2 (x := (0, 48)) (y := (1, 1)) (q := 148) 2 rfl ?_
          have k307 : w294 1 5 = w232 1 5 := ((q296f 1 5 (by unfold kPa; omega)).trans rfl)
          refine e_Ok.callV rfl (e_dq hd rfl) rfl rfl rfl rfl (c_157 (e_dq hd rfl) (o := o + 1) (t := t + 1) (lp := lp) ⟨q296T, (show e_Has kRy w294 from H_fr q296f (fun c k g => by unfold kPa at g; omega) q235H), ((q296f 1 3 (by unfold kPa; omega)).trans ((q235f 1 3 (by unfold kRt; omega)).trans ((q223f 1 3 (by unfold kPa; omega)).trans ((q83f 1 3 (by unfold kEm; omega)).trans ((q72f 1 3 (by unfold kRt; omega)).trans (e_uq hw57 (Or.inr (by first | decide | omega)) ((q50f 1 3 (by unfold kEm; omega)).trans ((q44f 1 3 (by unfold kEm; omega)).trans ((q37f 1 3 (by unfold kEm; omega)).trans ((q31f 1 3 (by unfold kEm; omega)).trans ((q23f 1 3 no_dn_0).trans ((q14f 1 3 no_dn_1).trans ((q4g 1 3 no_dn_14).trans hc))))))))))))), hcd, (show tkR w294 from q235k.fr q296f (fun k g => by unfold kPa; omega))⟩ ((q296f 1 11 (by unfold kPa; omega)).trans (q235o.trans ((q223f 1 11 (by unfold kPa; omega)).trans ((q83f 1 11 (by unfold kEm; omega)).trans (q72o.trans (e_uq hw57 (Or.inr (by first | decide | omega)) ((q50f 1 11 (by unfold kEm; omega)).trans ((q44f 1 11 (by unfold kEm; omega)).trans ((q37f 1 11 (by unfold kEm; omega)).trans ((q31f 1 11 (by unfold kEm; omega)).trans ((q23f 1 11 no_dn_2).trans ((q14f 1 11 no_dn_3).trans q4b)))))))))))) (by omega) ((q296f 1 12 (by unfold kPa; omega)).trans (q235t.trans ((q223f 1 12 (by unfold kPa; omega)).trans ((q83f 1 12 (by unfold kEm; omega)).trans (q72t.trans (e_ue hw57)))))) (by omega) ((q296f 1 13 (by unfold kPa; omega)).trans (q235l.trans ((q223f 1 13 (by unfold kPa; omega)).trans ((q83f 1 13 (by unfold kEm; omega)).trans (q72l.trans (e_uq hw57 (Or.inr (by first | decide | omega)) ((q50f 1 13 (by unfold kEm; omega)).trans ((q44f 1 13 (by unfold kEm; omega)).trans ((q37f 1 13 (by unfold kEm; omega)).trans ((q31f 1 13 (by unfold kEm; omega)).trans ((q23f 1 13 no_dn_6).trans ((q14f 1 13 no_dn_7).trans ((q4g 1 13 no_dn_16).trans hlp))))))))))))) p303 (by omega) (by omega) (fun k e => hB (by omega) k (by omega))) (fun r304 w305 h306 => ?_)
          obtain ⟨rfl, q308f, ⟨q308T, q308H, q308c, -, q308k⟩, ⟨q308o, q308t, q308l⟩, q308x⟩ := h306
          have s310 : gS w294 w305 cd 0 0 0 0 0 := q308x
          refine e_Ok.nrm (q := 151) (st' := []) rfl rfl ?_
          refine e_Ok.ps2 (x := (1, 1)) (y := (1, 1)) (q := 153) 2 rfl ?_
          refine e_Ok.getf (z := t + 1) rfl (el_o rfl) rfl rfl (q308t.trans ((q296f 1 12 (by unfold kPa; omega)).trans (q235t.trans ((q223f 1 12 (by unfold kPa; omega)).trans ((q83f 1 12 (by unfold kEm; omega)).trans (q72t.trans (e_ue hw57))))))) (by omega) ?_
          refine e_Ok.ps1 (x := (0, 1)) (q := 157) 1 rfl ?_
          refine e_Ok.sub' (z := t) rfl (by omega) (by omega) ?_
          refine e_Ok.putf rfl (el_o rfl) rfl rfl ?_
          generalize hw316 : e_up w305 1 12 t = w316
          have hT318 : e_Has kTy w316 := e_Has.ups q308T hw316 (kt_o rfl)
          have hH319 : e_Has kRy w316 := e_Has.upr q308H hw316 rfl (by omega)
          have g321 : e_fr (fun c k => c = 1 ∧ 11 ≤ k ∧ k ≤ 13) w305 w316 := fun c k g => by have g2 : ¬ (c = 1 ∧ 11 ≤ k ∧ k ≤ 13) := g; rw [← hw316]; exact e_up_ne _ _ (by omega)
          have s322 : gS w305 w316 cd 0 0 0 0 0 := gS.wr hcd ((e_Has.get q308T (c := cd) (k := 0) (lo := 0) (hi := 4000) (kD_0 hcd) (by decide)).1) (by omega) g321
          have p326 := zpl.step (zpl.step (zpl.step p241 s298) s310) s322
          refine e_Ok.ps1 (x := (1, 1)) (q := 162) 1 rfl ?_
          refine e_Ok.getr (z := cd) rfl (el_o rfl) rfl rfl (e_uq hw316 (Or.inr (by decide)) ((q308f 1 3 (by unfold kRt; omega)).trans ((q296f 1 3 (by unfold kPa; omega)).trans ((q235f 1 3 (by unfold kRt; omega)).trans ((q223f 1 3 (by unfold kPa; omega)).trans ((q83f 1 3 (by unfold kEm; omega)).trans ((q72f 1 3 (by unfold kRt; omega)).trans (e_uq hw57 (Or.inr (by decide)) ((q50f 1 3 (by unfold kEm; omega)).trans ((q44f 1 3 (by unfold kEm; omega)).trans ((q37f 1 3 (by unfold kEm; omega)).trans ((q31f 1 3 (by unfold kEm; omega)).trans ((q23f 1 3 no_dn_0).trans ((q14f 1 3 no_dn_1).trans ((q4g 1 3 no_dn_14).trans hc))))))))))))))) (by omega) ?_
          refine e_Ok.ps2 (x := (0, 3)) (y := (0, z32)) (q := 167) 2 rfl ?_
          refine e_Ok.add (z := z32 + 3) rfl rfl (by omega) ?_
          refine e_Ok.ps1 (x := (1, 1)) (q := 169) 1 rfl ?_
          refine e_Ok.getr (z := cd) rfl (el_o rfl) rfl rfl (e_uq hw316 (Or.inr (by decide)) ((q308f 1 3 (by unfold kRt; omega)).trans ((q296f 1 3 (by unfold kPa; omega)).trans ((q235f 1 3 (by unfold kRt; omega)).trans ((q223f 1 3 (by unfold kPa; omega)).trans ((q83f 1 3 (by unfold kEm; omega)).trans ((q72f 1 3 (by unfold kRt; omega)).trans (e_uq hw57 (Or.inr (by decide)) ((q50f 1 3 (by unfold kEm; omega)).trans ((q44f 1 3 (by unfold kEm; omega)).trans ((q37f 1 3 (by unfold kEm; omega)).trans ((q31f 1 3 (by unfold kEm; omega)).trans ((q23f 1 3 no_dn_0).trans ((q14f 1 3 no_dn_1).trans ((q4g 1 3 no_dn_14).trans hc))))))))))))))) (by omega) ?_
          have h329 := (e_Has.get q308T (c := cd) (k := 0) (lo := 0) (hi := 4000) (kD_0 hcd) (by decide))
          refine e_Ok.getf (z := w305 cd 0) rfl (lD0 hcd) rfl rfl (e_uq hw316 (Or.inr (by decide)) rfl) (e_bq h329 (by decide) (by decide)) ?_
          refine e_Ok.callV rfl (e_dq hd rfl) rfl (lD0 hcd) rfl rfl (c_22 hT318 hcd (by omega) (by have g := e_Has.get hT318 (c := cd) (k := 0) (lo := 0) (hi := 4000) (kD_0 hcd) (by decide); omega)) (fun r331 w332 h333 => ?_)
          obtain ⟨rfl, q334f, q334T, q334x⟩ := h333
          have q334k : tkR w332 := (show tkR w316 from q308k.eq (fun k g => by rw [← hw316]; exact e_up_ne _ _ (by omega))).fr q334f (fun k g => by unfold kPa; omega)
          have s336 : gS w316 w332 cd 0 0 0 0 0 := gS.pat hcd ((e_Has.get hT318 (c := cd) (k := 0) (lo := 0) (hi := 4000) (kD_0 hcd) (by decide)).1) q334f q334x (show w305 cd 0 = w316 cd 0 from Eq.symm (e_uq hw316 (Or.inr (by first | decide | omega)) rfl)) p326 (by omega)
          refine e_Ok.nrm (q := 178) (st' := []) rfl rfl ?_
          refine e_Ok.ps2 (x := (0, 23)) (y := (1, 1)) (q := 181) 2 rfl ?_
          refine e_Ok.callV rfl (e_dq hd rfl) rfl rfl rfl rfl (c_129 (e_dq hd rfl) q334T (show e_Has kRy w332 from H_fr q334f (fun c k g => by unfold kPa at g; omega) hH319) q334k (by omega)) (fun r343 w344 h345 => ?_)
          obtain ⟨rfl, q346f, q346T, q346H, q346k, q346x⟩ := h345
          have s348 : gS w332 w344 cd (-3) 0 0 0 0 := gS.acc hcd ((e_Has.get q334T (c := cd) (k := 0) (lo := 0) (hi := 4000) (kD_0 hcd) (by decide)).1) (by omega) q346f q346x (fun g => q334k.a3 (by omega))
          refine e_Ok.nrm (q := 184) (st' := []) rfl rfl ?_
          refine e_Ok.ps2 (x := (1, 1)) (y := (1, 1)) (q := 186) 2 rfl ?_
          refine e_Ok.getf (z := o + 1) rfl (el_o rfl) rfl rfl ((q346f 1 11 no_dn_2).trans ((q334f 1 11 (by unfold kPa; omega)).trans (e_uq hw316 (Or.inr (by decide)) (q308o.trans ((q296f 1 11 (by unfold kPa; omega)).trans (q235o.trans ((q223f 1 11 (by unfold kPa; omega)).trans ((q83f 1 11 (by unfold kEm; omega)).trans (q72o.trans (e_uq hw57 (Or.inr (by decide)) ((q50f 1 11 (by unfold kEm; omega)).trans ((q44f 1 11 (by unfold kEm; omega)).trans ((q37f 1 11 (by unfold kEm; omega)).trans ((q31f 1 11 (by unfold kEm; omega)).trans ((q23f 1 11 no_dn_2).trans ((q14f 1 11 no_dn_3).trans q4b)))))))))))))))) (by omega) ?_
          refine e_Ok.ps1 (x := (0, 1)) (q := 190) 1 rfl ?_
          refine e_Ok.sub' (z := o) rfl (by omega) (by omega) ?_
          refine e_Ok.putf rfl (el_o rfl) rfl rfl ?_
          generalize hw354 : e_up w344 1 11 o = w354
          have hT356 : e_Has kTy w354 := e_Has.ups q346T hw354 (kt_o rfl)
          have hH357 : e_Has kRy w354 := e_Has.upr q346H hw354 rfl (by omega)
          have g359 : e_fr (fun c k => c = 1 ∧ 11 ≤ k ∧ k ≤ 13) w344 w354 := fun c k g => by have g2 : ¬ (c = 1 ∧ 11 ≤ k ∧ k ≤ 13) := g; rw [← hw354]; exact e_up_ne _ _ (by omega)
          have s360 : gS w344 w354 cd 0 0 0 0 0 := gS.wr hcd ((e_Has.get q346T (c := cd) (k := 0) (lo := 0) (hi := 4000) (kD_0 hcd) (by decide)).1) (by omega) g359
          refine e_Ok.rets rfl rfl ?_
          exact ⟨rfl, (show e_fr (kRt cd) w w354 from e_fr.up (show e_fr (kRt cd) w w344 from e_fr.trans (show e_fr (kRt cd) w w332 from e_fr.trans (show e_fr (kRt cd) w w316 from e_fr.up (show e_fr (kRt cd) w w305 from e_fr.trans (show e_fr (kRt cd) w w294 from e_fr.trans f236 (e_fr.mono q296f (fun c k q => by first | exact su_dn_27 q | (unfold kPa at q; unfold kRt; omega)))) (e_fr.mono q308f (fun c k q => by exact q))) hw316 (by first | exact Or.inl ⟨rfl, Or.inr (Or.inr ⟨(by decide), (by decide)⟩)⟩ | (unfold kRt; omega))) (e_fr.mono q334f (fun c k q => by first | exact su_dn_27 q | (unfold kPa at q; unfold kRt; omega)))) (e_fr.mono q346f (fun c k q => by first | exact su_dn_22 q | (unfold kRk at q; unfold kRt; omega)))) hw354 (by first | exact Or.inl ⟨rfl, Or.inr (Or.inr ⟨(by decide), (by decide)⟩)⟩ | (unfold kRt; omega))), ⟨hT356, hH357, (e_uq hw354 (Or.inr (by first | decide | omega)) ((q346f 1 3 no_dn_0).trans ((q334f 1 3 (by unfold kPa; omega)).trans (e_uq hw316 (Or.inr (by first | decide | omega)) ((q308f 1 3 (by unfold kRt; omega)).trans ((q296f 1 3 (by unfold kPa; omega)).trans ((q235f 1 3 (by unfold kRt; omega)).trans ((q223f 1 3 (by unfold kPa; omega)).trans ((q83f 1 3 (by unfold kEm; omega)).trans ((q72f 1 3 (by unfold kRt; omega)).trans (e_uq hw57 (Or.inr (by first | decide | omega)) ((q50f 1 3 (by unfold kEm; omega)).trans ((q44f 1 3 (by unfold kEm; omega)).trans ((q37f 1 3 (by unfold kEm; omega)).trans ((q31f 1 3 (by unfold kEm; omega)).trans ((q23f 1 3 no_dn_0).trans ((q14f 1 3 no_dn_1).trans ((q4g 1 3 no_dn_14).trans hc)))))))))))))))))), hcd, (show tkR w354 from q346k.eq (fun k g => by rw [← hw354]; exact e_up_ne _ _ (by omega)))⟩, ⟨(by have g1 : w354 1 11 = o := (e_ue hw354); have g0 : w 1 11 = o := ho; omega), (by have g1 : w354 1 12 = t := (e_uq hw354 (Or.inr (by first | decide | omega)) ((q346f 1 12 no_dn_4).trans ((q334f 1 12 (by unfold kPa; omega)).trans (e_ue hw316)))); have g0 : w 1 12 = t := ht; omega), (by have g1 : w354 1 13 = lp := (e_uq hw354 (Or.inr (by first | decide | omega)) ((q346f 1 13 no_dn_6).trans ((q334f 1 13 (by unfold kPa; omega)).trans (e_uq hw316 (Or.inr (by first | decide | omega)) (q308l.trans ((q296f 1 13 (by unfold kPa; omega)).trans (q235l.trans ((q223f 1 13 (by unfold kPa; omega)).trans ((q83f 1 13 (by unfold kEm; omega)).trans (q72l.trans (e_uq hw57 (Or.inr (by first | decide | omega)) ((q50f 1 13 (by unfold kEm; omega)).trans ((q44f 1 13 (by unfold kEm; omega)).trans ((q37f 1 13 (by unfold kEm; omega)).trans ((q31f 1 13 (by unfold kEm; omega)).trans ((q23f 1 13 no_dn_6).trans ((q14f 1 13 no_dn_7).trans ((q4g 1 13 no_dn_16).trans hlp)))))))))))))))))); have g0 : w 1 13 = lp := hlp; omega)⟩, (show gS w w354 cd (-2) 1 0 0 0 from gS.trans (show gS w w344 cd (-2) 1 0 0 0 from gS.trans (show gS w w332 cd 1 1 0 0 0 from gS.trans (show gS w w316 cd 1 1 0 0 0 from gS.trans (show gS w w305 cd 1 1 0 0 0 from gS.trans (show gS w w294 cd 1 1 0 0 0 from gS.trans x238 s298 (by omega)) s310 (by omega)) s322 (by omega)) s336 (by omega)) s348 (by omega)) s360 (by omega)).le (by omega)⟩
    · replace h10 : (1 : Int) = 0 := Classical.not_not.mp (show ¬ ((1 : Int) ≠ 0) from h10)
      exfalso; omega
  · refine e_Ok.nrm (q := 4) (st' := [(0, 0)]) rfl rfl ?_
    have q4n := q4a
    have s367 : gS w w2 cd 0 1 0 1 0 := gS.dead q4n
    refine e_Ok.if1 rfl (fun h370 => ?_) (fun h370 => ?_)
    · replace h370 : (0 : Int) ≠ 0 := h370
      exfalso; omega
    · replace h370 : (0 : Int) = 0 := Classical.not_not.mp (show ¬ ((0 : Int) ≠ 0) from h370)
      refine e_Ok.rets rfl rfl ?_
      exact ⟨rfl, (show e_fr (kRt cd) w w2 from e_fr.trans (e_fr.refl w) (e_fr.mono q4d (fun c k q => by first | exact su_dn_22 q | (unfold kRk at q; unfold kRt; omega)))), ⟨q4T, q4H, ((q4d 1 3 no_dn_0).trans hc), hcd, q4k⟩, ⟨(by have g1 : w2 1 11 = o := ((q4d 1 11 no_dn_2).trans ho); have g0 : w 1 11 = o := ho; omega), (by have g1 : w2 1 12 = t := ((q4d 1 12 no_dn_4).trans ht); have g0 : w 1 12 = t := ht; omega), (by have g1 : w2 1 13 = lp := ((q4d 1 13 no_dn_6).trans hlp); have g0 : w 1 13 = lp := hlp; omega)⟩, gS.dead q4n⟩
set_option maxHeartbeats 4000000 in
theorem c_145 {d : Nat} (hd : 283 ≤ d) {w : eW} {cd o : Int} (hS : rS w cd) (ho : w 1 11 = o) (hor : 0 ≤ o ∧ o ≤ 30) {t lp : Int} (ht : w 1 12 = t) (htr : 0 ≤ t ∧ t ≤ o) (hlp : w 1 13 = lp) (hlk : lpK w cd lp) (h5 : isK (w 1 5)) (hc1 : ∀ k, d = k + 1 → zgC 154 o (-1) 1 (fun k => k = 39) k) (hc2 : ∀ k, d = k + 1 → zgC 155 o 0 0 (fun k => k = 41) k) (hc3 : ∀ k, d = k + 1 → zgC 156 o (-1) 1 (fun k => k = 42) k) : e_Ok 20 elay kcode eI d 145 (0, [(0, (1, 1))], [], w) (fun r w' => r = [] ∧ gQ w w' cd 0 0 0) := by
  obtain ⟨d, rfl⟩ : ∃ e, d = e + 1 := ⟨d - 1, by omega⟩
  obtain ⟨hT, hH, hc, hcd, hk⟩ := hS
  have hcd2 := hcd; unfold isCd at hcd2
  have hcd3 : 2 ≤ cd ∧ cd ≤ 145 := by omega
  have pL := e_Has.get hT (c := cd) (k := 0) (lo := 0) (hi := 4000) (kD_0 hcd) (by decide)
  have p1 := e_Has.get hH (c := 1) (k := 1) (lo := (-2147483648)) (hi := 2147483647) rfl (by decide)
  have p5 := e_Has.get hH (c := 1) (k := 5) (lo := 0) (hi := 53) rfl (by decide)
  have p6 := e_Has.get hH (c := 1) (k := 6) (lo := 0) (hi := 4000) rfl (by decide)
  have p9 := e_Has.get hH (c := 1) (k := 9) (lo := (-2147483648)) (hi := 2147483647) rfl (by decide)
  have p7 := e_Has.get hH (c := 1) (k := 7) (lo := 0) (hi := 4000) rfl (by decide)
  have p12 := e_Has.get hH (c := 1) (k := 12) (lo := 0) (hi := 30) rfl (by decide)
  have p13 := e_Has.get hH (c := 1) (k := 13) (lo := (-1)) (hi := 4000) rfl (by decide)
  have x0 : gS w w cd 0 0 0 0 0 := gS.refl pL.1
  unfold isK at h5
  refine e_Ok.ps1 (x := (1, 1)) (q := 1) 1 rfl ?_
  refine e_Ok.getf (z := w 1 5) rfl (el_o rfl) rfl rfl rfl (by omega) ?_
  refine e_Ok.ps1 (x := (0, 41)) (q := 6) 1 rfl ?_
  refine e_Ok.if2 rfl (fun h1 => ?_) (fun h1 => ?_)
  · replace h1 : (w 1 5 : Int) = 41 := h1
    refine e_Ok.ps1 (x := (1, 1)) (q := 21) 1 rfl ?_
    refine e_Ok.getf (z := w 1 5) rfl (el_o rfl) rfl rfl rfl (by omega) ?_
    have hs3 : ∀ x : Int, 41 ≤ x ∧ x ≤ 41 → (x = 41) := fun x h => by omega
    obtain h2 := hs3 (w 1 5) (by omega)
    · refine e_Ok.swk (tg := 345) rfl (by rw [h2]; rfl) ?_
      refine e_Ok.run (t' := (346, [(0, (1, 1))], [(1, 1)], w)) 1 rfl ?_
      have k7 : w 1 5 = w 1 5 := rfl
      refine e_Ok.callV rfl (e_dq hd rfl) rfl rfl rfl rfl (hc2 d rfl w cd t lp ⟨hT, hH, hc, hcd, hk⟩ ho ht (by omega) hlp hlk (show w 1 5 = 41 from by omega)) (fun r4 w5 h6 => ?_)
      obtain ⟨rfl, q8f, ⟨q8T, q8H, q8c, -, q8k⟩, ⟨q8o, q8t, q8l⟩, q8x⟩ := h6
      have s10 : gS w w5 cd 0 0 0 0 0 := q8x
      refine e_Ok.nrm (q := 349) (st' := []) rfl rfl ?_
      refine e_Ok.ps0 (q := 356) 1 rfl ?_
      refine e_Ok.rets rfl rfl ?_
      exact ⟨rfl, (show e_fr (kRt cd) w w5 from e_fr.trans (e_fr.refl w) (e_fr.mono q8f (fun c k q => by exact q))), ⟨q8T, q8H, ((q8f 1 3 (by unfold kRt; omega)).trans hc), hcd, q8k⟩, ⟨(by have g1 : w5 1 11 = o := (q8o.trans ho); have g0 : w 1 11 = o := ho; omega), (by have g1 : w5 1 12 = t := (q8t.trans ht); have g0 : w 1 12 = t := ht; omega), (by have g1 : w5 1 13 = lp := (q8l.trans hlp); have g0 : w 1 13 = lp := hlp; omega)⟩, (show gS w w5 cd 0 0 0 0 0 from gS.trans x0 s10 (by omega)).le (by omega)⟩
  · replace h1 : (w 1 5 : Int) ≠ 41 := (show ¬ ((w 1 5 : Int) = 41) from h1)
    refine e_Ok.ps1 (x := (1, 1)) (q := 10) 1 rfl ?_
    refine e_Ok.getr (z := cd) rfl (el_o rfl) rfl rfl hc (by omega) ?_
    refine e_Ok.ps2 (x := (0, 0)) (y := (0, 50)) (q := 16) 2 rfl ?_
    refine e_Ok.callV rfl (e_dq hd rfl) rfl (lD0 hcd) rfl rfl (c_21 hT hcd (by omega) (by omega)) (fun r13 w14 h15 => ?_)
    obtain ⟨z17, rfl, q16f, q16T, q16x⟩ := h15
    have q16H : e_Has kRy w14 := H_fr q16f (fun c k g => by unfold kEm at g; omega) hH
    have q16k : tkR w14 := (hk.fr q16f (fun k g => by unfold kEm; omega))
    have q16z : 0 ≤ z17 ∧ z17 ≤ 4000 := by have g := e_Has.get hT (c := cd) (k := 0) (lo := 0) (hi := 4000) (kD_0 hcd) (by decide); unfold emQ at q16x; omega
    have f18 : e_fr (kRt cd) w w14 := e_fr.trans (e_fr.refl w) (e_fr.mono q16f (fun c k q => by first | exact su_dn_23 q | (unfold kEm at q; unfold kRt; omega)))
    have s19 : gS w w14 cd 1 0 0 1 0 := gS.beg hcd ((e_Has.get hT (c := cd) (k := 0) (lo := 0) (hi := 4000) (kD_0 hcd) (by decide)).1) q16f q16x
    have x20 : gS w w14 cd 1 0 0 1 0 := gS.trans x0 s19 (by omega)
    have p21 := lpK.step hlk s19
    have p22 : zpl w14 cd z17 50 := zpl.em hcd ((e_Has.get hT (c := cd) (k := 0) (lo := 0) (hi := 4000) (kD_0 hcd) (by decide)).1) q16f q16x (by omega)
    refine e_Ok.nrm (q := 19) (st' := [(0, z17)]) rfl rfl ?_
    refine e_Ok.run (t' := (21, [(0, (1, 1))], [(1, 1)], w14)) 2 rfl ?_
    refine e_Ok.getf (z := w 1 5) rfl (el_o rfl) rfl rfl ((q16f 1 5 (by unfold kEm; omega)).trans rfl) (by omega) ?_
    have hs24 : ∀ x : Int, 1 ≤ x ∧ x ≤ 42 ∧ x ≠ 2 ∧ x ≠ 3 ∧ x ≠ 4 ∧ x ≠ 5 ∧ x ≠ 6 ∧ x ≠ 7 ∧ x ≠ 8 ∧ x ≠ 9 ∧ x ≠ 10 ∧ x ≠ 11 ∧ x ≠ 12 ∧ x ≠ 13 ∧ x ≠ 14 ∧ x ≠ 15 ∧ x ≠ 16 ∧ x ≠ 17 ∧ x ≠ 18 ∧ x ≠ 19 ∧ x ≠ 20 ∧ x ≠ 21 ∧ x ≠ 22 ∧ x ≠ 23 ∧ x ≠ 40 ∧ x ≠ 41 → (x = 1) ∨ (x = 24) ∨ (x = 25) ∨ (x = 26) ∨ (x = 27) ∨ (x = 28) ∨ (x = 29) ∨ (x = 30) ∨ (x = 31) ∨ (x = 32) ∨ (x = 33) ∨ (x = 34) ∨ (x = 35) ∨ (x = 36) ∨ (x = 37) ∨ (x = 38) ∨ (x = 39) ∨ (x = 42) := fun x h => by omega
    obtain h23 | h23 | h23 | h23 | h23 | h23 | h23 | h23 | h23 | h23 | h23 | h23 | h23 | h23 | h23 | h23 | h23 | h23 := hs24 (w 1 5) (by omega)
    · refine e_Ok.swk (tg := 204) rfl (by rw [h23]; rfl) ?_
      refine e_Ok.run (t' := (205, [(0, (1, 1))], [(1, 1)], w14)) 1 rfl ?_
      have k28 : w14 1 5 = w 1 5 := ((q16f 1 5 (by unfold kEm; omega)).trans rfl)
      refine e_Ok.callV rfl (e_dq hd rfl) rfl rfl rfl rfl (c_149 (e_dq hd rfl) (o := o) ⟨q16T, q16H, ((q16f 1 3 (by unfold kEm; omega)).trans hc), hcd, q16k⟩ ((q16f 1 11 (by unfold kEm; omega)).trans ho) (by omega) (by omega)) (fun r25 w26 h27 => ?_)
      obtain ⟨rfl, q29f, ⟨q29T, q29H, q29c, -, q29k⟩, ⟨q29o, q29t, q29l⟩, q29x⟩ := h27
      have s31 : gS w14 w26 cd (-1) 1 0 0 0 := q29x
      refine e_Ok.nrm (q := 208) (st' := []) rfl rfl ?_
      refine e_Ok.ps0 (q := 356) 1 rfl ?_
      refine e_Ok.rets rfl rfl ?_
      exact ⟨rfl, (show e_fr (kRt cd) w w26 from e_fr.trans f18 (e_fr.mono q29f (fun c k q => by exact q))), ⟨q29T, q29H, ((q29f 1 3 (by unfold kRt; omega)).trans ((q16f 1 3 (by unfold kEm; omega)).trans hc)), hcd, q29k⟩, ⟨(by have g1 : w26 1 11 = o := (q29o.trans ((q16f 1 11 (by unfold kEm; omega)).trans ho)); have g0 : w 1 11 = o := ho; omega), (by have g1 : w26 1 12 = t := (q29t.trans ((q16f 1 12 (by unfold kEm; omega)).trans ht)); have g0 : w 1 12 = t := ht; omega), (by have g1 : w26 1 13 = lp := (q29l.trans ((q16f 1 13 (by unfold kEm; omega)).trans hlp)); have g0 : w 1 13 = lp := hlp; omega)⟩, (show gS w w26 cd 0 0 0 0 0 from gS.trans x20 s31 (by omega)).le (by omega)⟩
    · refine e_Ok.swk (tg := 211) rfl (by rw [h23]; rfl) ?_
      refine e_Ok.run (t' := (212, [(0, (1, 1))], [(1, 1)], w14)) 1 rfl ?_
      have k38 : w14 1 5 = w 1 5 := ((q16f 1 5 (by unfold kEm; omega)).trans rfl)
      refine e_Ok.callV rfl (e_dq hd rfl) rfl rfl rfl rfl (c_150 (e_dq hd rfl) (o := o) ⟨q16T, q16H, ((q16f 1 3 (by unfold kEm; omega)).trans hc), hcd, q16k⟩ ((q16f 1 11 (by unfold kEm; omega)).trans ho) (by omega) (by omega)) (fun r35 w36 h37 => ?_)
      obtain ⟨rfl, q40f, ⟨q40T, q40H, q40c, -, q40k⟩, ⟨q40o, q40t, q40l⟩, q40x⟩ := h37
      have s42 : gS w14 w36 cd (-1) 1 0 0 0 := q40x
      refine e_Ok.nrm (q := 215) (st' := []) rfl rfl ?_
      refine e_Ok.ps0 (q := 356) 1 rfl ?_
      refine e_Ok.rets rfl rfl ?_
      exact ⟨rfl, (show e_fr (kRt cd) w w36 from e_fr.trans f18 (e_fr.mono q40f (fun c k q => by exact q))), ⟨q40T, q40H, ((q40f 1 3 (by unfold kRt; omega)).trans ((q16f 1 3 (by unfold kEm; omega)).trans hc)), hcd, q40k⟩, ⟨(by have g1 : w36 1 11 = o := (q40o.trans ((q16f 1 11 (by unfold kEm; omega)).trans ho)); have g0 : w 1 11 = o := ho; omega), (by have g1 : w36 1 12 = t := (q40t.trans ((q16f 1 12 (by unfold kEm; omega)).trans ht)); have g0 : w 1 12 = t := ht; omega), (by have g1 : w36 1 13 = lp := (q40l.trans ((q16f 1 13 (by unfold kEm; omega)).trans hlp)); have g0 : w 1 13 = lp := hlp; omega)⟩, (show gS w w36 cd 0 0 0 0 0 from gS.trans x20 s42 (by omega)).le (by omega)⟩
    · refine e_Ok.swk (tg := 218) rfl (by rw [h23]; rfl) ?_
      refine e_Ok.run (t' := (221, [(0, (1, 1))], [(0, 28), (1, 1)], w14)) 2 rfl ?_
      have k49 : w14 1 5 = w 1 5 := ((q16f 1 5 (by unfold kEm; omega)).trans rfl)
      refine e_Ok.callV rfl (e_dq hd rfl) rfl rfl rfl rfl (c_147 (e_dq hd rfl) (o := o) ⟨q16T, q16H, ((q16f 1 3 (by unfold kEm; omega)).trans hc), hcd, q16k⟩ ((q16f 1 11 (by unfold kEm; omega)).trans ho) (by omega) (by omega) (by omega)) (fun r46 w47 h48 => ?_)
      obtain ⟨rfl, q50f, ⟨q50T, q50H, q50c, -, q50k⟩, ⟨q50o, q50t, q50l⟩, q50x⟩ := h48
      have s52 : gS w14 w47 cd (-1) 1 0 0 0 := q50x
      refine e_Ok.nrm (q := 224) (st' := []) rfl rfl ?_
      refine e_Ok.ps0 (q := 356) 1 rfl ?_
      refine e_Ok.rets rfl rfl ?_
      exact ⟨rfl, (show e_fr (kRt cd) w w47 from e_fr.trans f18 (e_fr.mono q50f (fun c k q => by exact q))), ⟨q50T, q50H, ((q50f 1 3 (by unfold kRt; omega)).trans ((q16f 1 3 (by unfold kEm; omega)).trans hc)), hcd, q50k⟩, ⟨(by have g1 : w47 1 11 = o := (q50o.trans ((q16f 1 11 (by unfold kEm; omega)).trans ho)); have g0 : w 1 11 = o := ho; omega), (by have g1 : w47 1 12 = t := (q50t.trans ((q16f 1 12 (by unfold kEm; omega)).trans ht)); have g0 : w 1 12 = t := ht; omega), (by have g1 : w47 1 13 = lp := (q50l.trans ((q16f 1 13 (by unfold kEm; omega)).trans hlp)); have g0 : w 1 13 = lp := hlp; omega)⟩, (show gS w w47 cd 0 0 0 0 0 from gS.trans x20 s52 (by omega)).le (by omega)⟩
    · refine e_Ok.swk (tg := 227) rfl (by rw [h23]; rfl) ?_
      refine e_Ok.run (t' := (230, [(0, (1, 1))], [(0, 29), (1, 1)], w14)) 2 rfl ?_
      have k59 : w14 1 5 = w 1 5 := ((q16f 1 5 (by unfold kEm; omega)).trans rfl)
      refine e_Ok.callV rfl (e_dq hd rfl) rfl rfl rfl rfl (c_147 (e_dq hd rfl) (o := o) ⟨q16T, q16H, ((q16f 1 3 (by unfold kEm; omega)).trans hc), hcd, q16k⟩ ((q16f 1 11 (by unfold kEm; omega)).trans ho) (by omega) (by omega) (by omega)) (fun r56 w57 h58 => ?_)
      obtain ⟨rfl, q60f, ⟨q60T, q60H, q60c, -, q60k⟩, ⟨q60o, q60t, q60l⟩, q60x⟩ := h58
      have s62 : gS w14 w57 cd (-1) 1 0 0 0 := q60x
      refine e_Ok.nrm (q := 233) (st' := []) rfl rfl ?_
      refine e_Ok.ps0 (q := 356) 1 rfl ?_
      refine e_Ok.rets rfl rfl ?_
      exact ⟨rfl, (show e_fr (kRt cd) w w57 from e_fr.trans f18 (e_fr.mono q60f (fun c k q => by exact q))), ⟨q60T, q60H, ((q60f 1 3 (by unfold kRt; omega)).trans ((q16f 1 3 (by unfold kEm; omega)).trans hc)), hcd, q60k⟩, ⟨(by have g1 : w57 1 11 = o := (q60o.trans ((q16f 1 11 (by unfold kEm; omega)).trans ho)); have g0 : w 1 11 = o := ho; omega), (by have g1 : w57 1 12 = t := (q60t.trans ((q16f 1 12 (by unfold kEm; omega)).trans ht)); have g0 : w 1 12 = t := ht; omega), (by have g1 : w57 1 13 = lp := (q60l.trans ((q16f 1 13 (by unfold kEm; omega)).trans hlp)); have g0 : w 1 13 = lp := hlp; omega)⟩, (show gS w w57 cd 0 0 0 0 0 from gS.trans x20 s62 (by omega)).le (by omega)⟩
    · refine e_Ok.swk (tg := 236) rfl (by rw [h23]; rfl) ?_
      refine e_Ok.run (t' := (237, [(0, (1, 1))], [(1, 1)], w14)) 1 rfl ?_
      have k69 : w14 1 5 = w 1 5 := ((q16f 1 5 (by unfold kEm; omega)).trans rfl)
      refine e_Ok.callV rfl (e_dq hd rfl) rfl rfl rfl rfl (c_151 (e_dq hd rfl) (o := o) ⟨q16T, q16H, ((q16f 1 3 (by unfold kEm; omega)).trans hc), hcd, q16k⟩ ((q16f 1 11 (by unfold kEm; omega)).trans ho) (by omega) (by omega)) (fun r66 w67 h68 => ?_)
      obtain ⟨rfl, q70f, ⟨q70T, q70H, q70c, -, q70k⟩, ⟨q70o, q70t, q70l⟩, q70x⟩ := h68
      have s72 : gS w14 w67 cd (-1) 1 0 0 0 := q70x
      refine e_Ok.nrm (q := 240) (st' := []) rfl rfl ?_
      refine e_Ok.ps0 (q := 356) 1 rfl ?_
      refine e_Ok.rets rfl rfl ?_
      exact ⟨rfl, (show e_fr (kRt cd) w w67 from e_fr.trans f18 (e_fr.mono q70f (fun c k q => by exact q))), ⟨q70T, q70H, ((q70f 1 3 (by unfold kRt; omega)).trans ((q16f 1 3 (by unfold kEm; omega)).trans hc)), hcd, q70k⟩, ⟨(by have g1 : w67 1 11 = o := (q70o.trans ((q16f 1 11 (by unfold kEm; omega)).trans ho)); have g0 : w 1 11 = o := ho; omega), (by have g1 : w67 1 12 = t := (q70t.trans ((q16f 1 12 (by unfold kEm; omega)).trans ht)); have g0 : w 1 12 = t := ht; omega), (by have g1 : w67 1 13 = lp := (q70l.trans ((q16f 1 13 (by unfold kEm; omega)).trans hlp)); have g0 : w 1 13 = lp := hlp; omega)⟩, (show gS w w67 cd 0 0 0 0 0 from gS.trans x20 s72 (by omega)).le (by omega)⟩
    · refine e_Ok.swk (tg := 243) rfl (by rw [h23]; rfl) ?_
      refine e_Ok.run (t' := (246, [(0, (1, 1))], [(0, 31), (1, 1)], w14)) 2 rfl ?_
      have k79 : w14 1 5 = w 1 5 := ((q16f 1 5 (by unfold kEm; omega)).trans rfl)
      refine e_Ok.callV rfl (e_dq hd rfl) rfl rfl rfl rfl (c_147 (e_dq hd rfl) (o := o) ⟨q16T, q16H, ((q16f 1 3 (by unfold kEm; omega)).trans hc), hcd, q16k⟩ ((q16f 1 11 (by unfold kEm; omega)).trans ho) (by omega) (by omega) (by omega)) (fun r76 w77 h78 => ?_)
      obtain ⟨rfl, q80f, ⟨q80T, q80H, q80c, -, q80k⟩, ⟨q80o, q80t, q80l⟩, q80x⟩ := h78
      have s82 : gS w14 w77 cd (-1) 1 0 0 0 := q80x
      refine e_Ok.nrm (q := 249) (st' := []) rfl rfl ?_
      refine e_Ok.ps0 (q := 356) 1 rfl ?_
      refine e_Ok.rets rfl rfl ?_
      exact ⟨rfl, (show e_fr (kRt cd) w w77 from e_fr.trans f18 (e_fr.mono q80f (fun c k q => by exact q))), ⟨q80T, q80H, ((q80f 1 3 (by unfold kRt; omega)).trans ((q16f 1 3 (by unfold kEm; omega)).trans hc)), hcd, q80k⟩, ⟨(by have g1 : w77 1 11 = o := (q80o.trans ((q16f 1 11 (by unfold kEm; omega)).trans ho)); have g0 : w 1 11 = o := ho; omega), (by have g1 : w77 1 12 = t := (q80t.trans ((q16f 1 12 (by unfold kEm; omega)).trans ht)); have g0 : w 1 12 = t := ht; omega), (by have g1 : w77 1 13 = lp := (q80l.trans ((q16f 1 13 (by unfold kEm; omega)).trans hlp)); have g0 : w 1 13 = lp := hlp; omega)⟩, (show gS w w77 cd 0 0 0 0 0 from gS.trans x20 s82 (by omega)).le (by omega)⟩
    · refine e_Ok.swk (tg := 252) rfl (by rw [h23]; rfl) ?_
      refine e_Ok.run (t' := (255, [(0, (1, 1))], [(0, 32), (1, 1)], w14)) 2 rfl ?_
      have k89 : w14 1 5 = w 1 5 := ((q16f 1 5 (by unfold kEm; omega)).trans rfl)
      refine e_Ok.callV rfl (e_dq hd rfl) rfl rfl rfl rfl (c_147 (e_dq hd rfl) (o := o) ⟨q16T, q16H, ((q16f 1 3 (by unfold kEm; omega)).trans hc), hcd, q16k⟩ ((q16f 1 11 (by unfold kEm; omega)).trans ho) (by omega) (by omega) (by omega)) (fun r86 w87 h88 => ?_)
      obtain ⟨rfl, q90f, ⟨q90T, q90H, q90c, -, q90k⟩, ⟨q90o, q90t, q90l⟩, q90x⟩ := h88
      have s92 : gS w14 w87 cd (-1) 1 0 0 0 := q90x
      refine e_Ok.nrm (q := 258) (st' := []) rfl rfl ?_
      refine e_Ok.ps0 (q := 356) 1 rfl ?_
      refine e_Ok.rets rfl rfl ?_
      exact ⟨rfl, (show e_fr (kRt cd) w w87 from e_fr.trans f18 (e_fr.mono q90f (fun c k q => by exact q))), ⟨q90T, q90H, ((q90f 1 3 (by unfold kRt; omega)).trans ((q16f 1 3 (by unfold kEm; omega)).trans hc)), hcd, q90k⟩, ⟨(by have g1 : w87 1 11 = o := (q90o.trans ((q16f 1 11 (by unfold kEm; omega)).trans ho)); have g0 : w 1 11 = o := ho; omega), (by have g1 : w87 1 12 = t := (q90t.trans ((q16f 1 12 (by unfold kEm; omega)).trans ht)); have g0 : w 1 12 = t := ht; omega), (by have g1 : w87 1 13 = lp := (q90l.trans ((q16f 1 13 (by unfold kEm; omega)).trans hlp)); have g0 : w 1 13 = lp := hlp; omega)⟩, (show gS w w87 cd 0 0 0 0 0 from gS.trans x20 s92 (by omega)).le (by omega)⟩
    · refine e_Ok.swk (tg := 261) rfl (by rw [h23]; rfl) ?_
      refine e_Ok.run (t' := (264, [(0, (1, 1))], [(0, 33), (1, 1)], w14)) 2 rfl ?_
      have k105 : w14 1 5 = w 1 5 := ((q16f 1 5 (by unfold kEm; omega)).trans rfl)
      refine e_Ok.callV rfl (e_dq hd rfl) rfl rfl rfl rfl (c_148 (e_dq hd rfl) (o := o) ⟨q16T, q16H, ((q16f 1 3 (by unfold kEm; omega)).trans hc), hcd, q16k⟩ ((q16f 1 11 (by unfold kEm; omega)).trans ho) (by omega) (by omega) (by omega)) (fun r101 w103 h104 => ?_)
      obtain ⟨rfl, q106f, ⟨q106T, q106H, q106c, -, q106k⟩, ⟨q106o, q106t, q106l⟩, q106x⟩ := h104
      have s108 : gS w14 w103 cd (-1) 1 0 0 0 := q106x
      refine e_Ok.nrm (q := 267) (st' := []) rfl rfl ?_
      refine e_Ok.ps0 (q := 356) 1 rfl ?_
      refine e_Ok.rets rfl rfl ?_
      exact ⟨rfl, (show e_fr (kRt cd) w w103 from e_fr.trans f18 (e_fr.mono q106f (fun c k q => by exact q))), ⟨q106T, q106H, ((q106f 1 3 (by unfold kRt; omega)).trans ((q16f 1 3 (by unfold kEm; omega)).trans hc)), hcd, q106k⟩, ⟨(by have g1 : w103 1 11 = o := (q106o.trans ((q16f 1 11 (by unfold kEm; omega)).trans ho)); have g0 : w 1 11 = o := ho; omega), (by have g1 : w103 1 12 = t := (q106t.trans ((q16f 1 12 (by unfold kEm; omega)).trans ht)); have g0 : w 1 12 = t := ht; omega), (by have g1 : w103 1 13 = lp := (q106l.trans ((q16f 1 13 (by unfold kEm; omega)).trans hlp)); have g0 : w 1 13 = lp := hlp; omega)⟩, (show gS w w103 cd 0 0 0 0 0 from gS.trans x20 s108 (by omega)).le (by omega)⟩
    · refine e_Ok.swk (tg := 270) rfl (by rw [h23]; rfl) ?_
      refine e_Ok.run (t' := (273, [(0, (1, 1))], [(0, 34), (1, 1)], w14)) 2 rfl ?_
      have k115 : w14 1 5 = w 1 5 := ((q16f 1 5 (by unfold kEm; omega)).trans rfl)
      refine e_Ok.callV rfl (e_dq hd rfl) rfl rfl rfl rfl (c_148 (e_dq hd rfl) (o := o) ⟨q16T, q16H, ((q16f 1 3 (by unfold kEm; omega)).trans hc), hcd, q16k⟩ ((q16f 1 11 (by unfold kEm; omega)).trans ho) (by omega) (by omega) (by omega)) (fun r112 w113 h114 => ?_)
      obtain ⟨rfl, q116f, ⟨q116T, q116H, q116c, -, q116k⟩, ⟨q116o, q116t, q116l⟩, q116x⟩ := h114
      have s118 : gS w14 w113 cd (-1) 1 0 0 0 := q116x
      refine e_Ok.nrm (q := 276) (st' := []) rfl rfl ?_
      refine e_Ok.ps0 (q := 356) 1 rfl ?_
      refine e_Ok.rets rfl rfl ?_
      exact ⟨rfl, (show e_fr (kRt cd) w w113 from e_fr.trans f18 (e_fr.mono q116f (fun c k q => by exact q))), ⟨q116T, q116H, ((q116f 1 3 (by unfold kRt; omega)).trans ((q16f 1 3 (by unfold kEm; omega)).trans hc)), hcd, q116k⟩, ⟨(by have g1 : w113 1 11 = o := (q116o.trans ((q16f 1 11 (by unfold kEm; omega)).trans ho)); have g0 : w 1 11 = o := ho; omega), (by have g1 : w113 1 12 = t := (q116t.trans ((q16f 1 12 (by unfold kEm; omega)).trans ht)); have g0 : w 1 12 = t := ht; omega), (by have g1 : w113 1 13 = lp := (q116l.trans ((q16f 1 13 (by unfold kEm; omega)).trans hlp)); have g0 : w 1 13 = lp := hlp; omega)⟩, (show gS w w113 cd 0 0 0 0 0 from gS.trans x20 s118 (by omega)).le (by omega)⟩
    · refine e_Ok.swk (tg := 279) rfl (by rw [h23]; rfl) ?_
      refine e_Ok.run (t' := (282, [(0, (1, 1))], [(0, 35), (1, 1)], w14)) 2 rfl ?_
      have k125 : w14 1 5 = w 1 5 := ((q16f 1 5 (by unfold kEm; omega)).trans rfl)
      refine e_Ok.callV rfl (e_dq hd rfl) rfl rfl rfl rfl (c_147 (e_dq hd rfl) (o := o) ⟨q16T, q16H, ((q16f 1 3 (by unfold kEm; omega)).trans hc), hcd, q16k⟩ ((q16f 1 11 (by unfold kEm; omega)).trans ho) (by omega) (by omega) (by omega)) (fun r122 w123 h124 => ?_)
      obtain ⟨rfl, q126f, ⟨q126T, q126H, q126c, -, q126k⟩, ⟨q126o, q126t, q126l⟩, q126x⟩ := h124
      have s128 : gS w14 w123 cd (-1) 1 0 0 0 := q126x
      refine e_Ok.nrm (q := 285) (st' := []) rfl rfl ?_
      refine e_Ok.ps0 (q := 356) 1 rfl ?_
      refine e_Ok.rets rfl rfl ?_
      exact ⟨rfl, (show e_fr (kRt cd) w w123 from e_fr.trans f18 (e_fr.mono q126f (fun c k q => by exact q))), ⟨q126T, q126H, ((q126f 1 3 (by unfold kRt; omega)).trans ((q16f 1 3 (by unfold kEm; omega)).trans hc)), hcd, q126k⟩, ⟨(by have g1 : w123 1 11 = o := (q126o.trans ((q16f 1 11 (by unfold kEm; omega)).trans ho)); have g0 : w 1 11 = o := ho; omega), (by have g1 : w123 1 12 = t := (q126t.trans ((q16f 1 12 (by unfold kEm; omega)).trans ht)); have g0 : w 1 12 = t := ht; omega), (by have g1 : w123 1 13 = lp := (q126l.trans ((q16f 1 13 (by unfold kEm; omega)).trans hlp)); have g0 : w 1 13 = lp := hlp; omega)⟩, (show gS w w123 cd 0 0 0 0 0 from gS.trans x20 s128 (by omega)).le (by omega)⟩
    · refine e_Ok.swk (tg := 288) rfl (by rw [h23]; rfl) ?_
      refine e_Ok.run (t' := (291, [(0, (1, 1))], [(0, 36), (1, 1)], w14)) 2 rfl ?_
      have k135 : w14 1 5 = w 1 5 := ((q16f 1 5 (by unfold kEm; omega)).trans rfl)
      refine e_Ok.callV rfl (e_dq hd rfl) rfl rfl rfl rfl (c_147 (e_dq hd rfl) (o := o) ⟨q16T, q16H, ((q16f 1 3 (by unfold kEm; omega)).trans hc), hcd, q16k⟩ ((q16f 1 11 (by unfold kEm; omega)).trans ho) (by omega) (by omega) (by omega)) (fun r132 w133 h134 => ?_)
      obtain ⟨rfl, q136f, ⟨q136T, q136H, q136c, -, q136k⟩, ⟨q136o, q136t, q136l⟩, q136x⟩ := h134
      have s138 : gS w14 w133 cd (-1) 1 0 0 0 := q136x
      refine e_Ok.nrm (q := 294) (st' := []) rfl rfl ?_
      refine e_Ok.ps0 (q := 356) 1 rfl ?_
      refine e_Ok.rets rfl rfl ?_
      exact ⟨rfl, (show e_fr (kRt cd) w w133 from e_fr.trans f18 (e_fr.mono q136f (fun c k q => by exact q))), ⟨q136T, q136H, ((q136f 1 3 (by unfold kRt; omega)).trans ((q16f 1 3 (by unfold kEm; omega)).trans hc)), hcd, q136k⟩, ⟨(by have g1 : w133 1 11 = o := (q136o.trans ((q16f 1 11 (by unfold kEm; omega)).trans ho)); have g0 : w 1 11 = o := ho; omega), (by have g1 : w133 1 12 = t := (q136t.trans ((q16f 1 12 (by unfold kEm; omega)).trans ht)); have g0 : w 1 12 = t := ht; omega), (by have g1 : w133 1 13 = lp := (q136l.trans ((q16f 1 13 (by unfold kEm; omega)).trans hlp)); have g0 : w 1 13 = lp := hlp; omega)⟩, (show gS w w133 cd 0 0 0 0 0 from gS.trans x20 s138 (by omega)).le (by omega)⟩
    · refine e_Ok.swk (tg := 297) rfl (by rw [h23]; rfl) ?_
      refine e_Ok.run (t' := (300, [(0, (1, 1))], [(0, 37), (1, 1)], w14)) 2 rfl ?_
      have k145 : w14 1 5 = w 1 5 := ((q16f 1 5 (by unfold kEm; omega)).trans rfl)
      refine e_Ok.callV rfl (e_dq hd rfl) rfl rfl rfl rfl (c_146_a (e_dq hd rfl) (o := o) ⟨q16T, q16H, ((q16f 1 3 (by unfold kEm; omega)).trans hc), hcd, q16k⟩ ((q16f 1 11 (by unfold kEm; omega)).trans ho) (by omega) (by omega) (by omega)) (fun r142 w143 h144 => ?_)
      obtain ⟨rfl, q146f, ⟨q146T, q146H, q146c, -, q146k⟩, ⟨q146o, q146t, q146l⟩, q146x⟩ := h144
      have s148 : gS w14 w143 cd (-1) 1 0 0 0 := q146x
      refine e_Ok.nrm (q := 303) (st' := []) rfl rfl ?_
      refine e_Ok.ps0 (q := 356) 1 rfl ?_
      refine e_Ok.rets rfl rfl ?_
      exact ⟨rfl, (show e_fr (kRt cd) w w143 from e_fr.trans f18 (e_fr.mono q146f (fun c k q => by exact q))), ⟨q146T, q146H, ((q146f 1 3 (by unfold kRt; omega)).trans ((q16f 1 3 (by unfold kEm; omega)).trans hc)), hcd, q146k⟩, ⟨(by have g1 : w143 1 11 = o := (q146o.trans ((q16f 1 11 (by unfold kEm; omega)).trans ho)); have g0 : w 1 11 = o := ho; omega), (by have g1 : w143 1 12 = t := (q146t.trans ((q16f 1 12 (by unfold kEm; omega)).trans ht)); have g0 : w 1 12 = t := ht; omega), (by have g1 : w143 1 13 = lp := (q146l.trans ((q16f 1 13 (by unfold kEm; omega)).trans hlp)); have g0 : w 1 13 = lp := hlp; omega)⟩, (show gS w w143 cd 0 0 0 0 0 from gS.trans x20 s148 (by omega)).le (by omega)⟩
    · refine e_Ok.swk (tg := 306) rfl (by rw [h23]; rfl) ?_
      refine e_Ok.run (t' := (309, [(0, (1, 1))], [(0, 38), (1, 1)], w14)) 2 rfl ?_
      have k155 : w14 1 5 = w 1 5 := ((q16f 1 5 (by unfold kEm; omega)).trans rfl)
      refine e_Ok.callV rfl (e_dq hd rfl) rfl rfl rfl rfl (c_146_a (e_dq hd rfl) (o := o) ⟨q16T, q16H, ((q16f 1 3 (by unfold kEm; omega)).trans hc), hcd, q16k⟩ ((q16f 1 11 (by unfold kEm; omega)).trans ho) (by omega) (by omega) (by omega)) (fun r152 w153 h154 => ?_)
      obtain ⟨rfl, q156f, ⟨q156T, q156H, q156c, -, q156k⟩, ⟨q156o, q156t, q156l⟩, q156x⟩ := h154
      have s158 : gS w14 w153 cd (-1) 1 0 0 0 := q156x
      refine e_Ok.nrm (q := 312) (st' := []) rfl rfl ?_
      refine e_Ok.ps0 (q := 356) 1 rfl ?_
      refine e_Ok.rets rfl rfl ?_
      exact ⟨rfl, (show e_fr (kRt cd) w w153 from e_fr.trans f18 (e_fr.mono q156f (fun c k q => by exact q))), ⟨q156T, q156H, ((q156f 1 3 (by unfold kRt; omega)).trans ((q16f 1 3 (by unfold kEm; omega)).trans hc)), hcd, q156k⟩, ⟨(by have g1 : w153 1 11 = o := (q156o.trans ((q16f 1 11 (by unfold kEm; omega)).trans ho)); have g0 : w 1 11 = o := ho; omega), (by have g1 : w153 1 12 = t := (q156t.trans ((q16f 1 12 (by unfold kEm; omega)).trans ht)); have g0 : w 1 12 = t := ht; omega), (by have g1 : w153 1 13 = lp := (q156l.trans ((q16f 1 13 (by unfold kEm; omega)).trans hlp)); have g0 : w 1 13 = lp := hlp; omega)⟩, (show gS w w153 cd 0 0 0 0 0 from gS.trans x20 s158 (by omega)).le (by omega)⟩
    · refine e_Ok.swk (tg := 315) rfl (by rw [h23]; rfl) ?_
      refine e_Ok.run (t' := (316, [(0, (1, 1))], [(1, 1)], w14)) 1 rfl ?_
      have k165 : w14 1 5 = w 1 5 := ((q16f 1 5 (by unfold kEm; omega)).trans rfl)
      refine e_Ok.callV rfl (e_dq hd rfl) rfl rfl rfl rfl (c_152 (e_dq hd rfl) (o := o) ⟨q16T, q16H, ((q16f 1 3 (by unfold kEm; omega)).trans hc), hcd, q16k⟩ ((q16f 1 11 (by unfold kEm; omega)).trans ho) (by omega) (by omega)) (fun r162 w163 h164 => ?_)
      obtain ⟨rfl, q166f, ⟨q166T, q166H, q166c, -, q166k⟩, ⟨q166o, q166t, q166l⟩, q166x⟩ := h164
      have s168 : gS w14 w163 cd (-1) 1 0 0 0 := q166x
      refine e_Ok.nrm (q := 319) (st' := []) rfl rfl ?_
      refine e_Ok.ps0 (q := 356) 1 rfl ?_
      refine e_Ok.rets rfl rfl ?_
      exact ⟨rfl, (show e_fr (kRt cd) w w163 from e_fr.trans f18 (e_fr.mono q166f (fun c k q => by exact q))), ⟨q166T, q166H, ((q166f 1 3 (by unfold kRt; omega)).trans ((q16f 1 3 (by unfold kEm; omega)).trans hc)), hcd, q166k⟩, ⟨(by have g1 : w163 1 11 = o := (q166o.trans ((q16f 1 11 (by unfold kEm; omega)).trans ho)); have g0 : w 1 11 = o := ho; omega), (by have g1 : w163 1 12 = t := (q166t.trans ((q16f 1 12 (by unfold kEm; omega)).trans ht)); have g0 : w 1 12 = t := ht; omega), (by have g1 : w163 1 13 = lp := (q166l.trans ((q16f 1 13 (by unfold kEm; omega)).trans hlp)); have g0 : w 1 13 = lp := hlp; omega)⟩, (show gS w w163 cd 0 0 0 0 0 from gS.trans x20 s168 (by omega)).le (by omega)⟩
    · refine e_Ok.swk (tg := 322) rfl (by rw [h23]; rfl) ?_
      refine e_Ok.run (t' := (325, [(0, (1, 1))], [(0, 42), (1, 1)], w14)) 2 rfl ?_
      have k175 : w14 1 5 = w 1 5 := ((q16f 1 5 (by unfold kEm; omega)).trans rfl)
      refine e_Ok.callV rfl (e_dq hd rfl) rfl rfl rfl rfl (c_146_r (e_dq hd rfl) (o := o) ⟨q16T, q16H, ((q16f 1 3 (by unfold kEm; omega)).trans hc), hcd, q16k⟩ ((q16f 1 11 (by unfold kEm; omega)).trans ho) (by omega) (by omega)) (fun r172 w173 h174 => ?_)
      obtain ⟨rfl, q176f, ⟨q176T, q176H, q176c, -, q176k⟩, ⟨q176o, q176t, q176l⟩, q176x⟩ := h174
      have s178 : gS w14 w173 cd (-1) 1 0 0 0 := q176x
      refine e_Ok.nrm (q := 328) (st' := []) rfl rfl ?_
      refine e_Ok.ps0 (q := 356) 1 rfl ?_
      refine e_Ok.rets rfl rfl ?_
      exact ⟨rfl, (show e_fr (kRt cd) w w173 from e_fr.trans f18 (e_fr.mono q176f (fun c k q => by exact q))), ⟨q176T, q176H, ((q176f 1 3 (by unfold kRt; omega)).trans ((q16f 1 3 (by unfold kEm; omega)).trans hc)), hcd, q176k⟩, ⟨(by have g1 : w173 1 11 = o := (q176o.trans ((q16f 1 11 (by unfold kEm; omega)).trans ho)); have g0 : w 1 11 = o := ho; omega), (by have g1 : w173 1 12 = t := (q176t.trans ((q16f 1 12 (by unfold kEm; omega)).trans ht)); have g0 : w 1 12 = t := ht; omega), (by have g1 : w173 1 13 = lp := (q176l.trans ((q16f 1 13 (by unfold kEm; omega)).trans hlp)); have g0 : w 1 13 = lp := hlp; omega)⟩, (show gS w w173 cd 0 0 0 0 0 from gS.trans x20 s178 (by omega)).le (by omega)⟩
    · refine e_Ok.swk (tg := 331) rfl (by rw [h23]; rfl) ?_
      refine e_Ok.run (t' := (332, [(0, (1, 1))], [(1, 1)], w14)) 1 rfl ?_
      have k185 : w14 1 5 = w 1 5 := ((q16f 1 5 (by unfold kEm; omega)).trans rfl)
      refine e_Ok.callV rfl (e_dq hd rfl) rfl rfl rfl rfl (c_153 (e_dq hd rfl) (o := o) (t := t) (lp := lp) ⟨q16T, q16H, ((q16f 1 3 (by unfold kEm; omega)).trans hc), hcd, q16k⟩ ((q16f 1 11 (by unfold kEm; omega)).trans ho) (by omega) ((q16f 1 12 (by unfold kEm; omega)).trans ht) (by omega) ((q16f 1 13 (by unfold kEm; omega)).trans hlp) p21 (by omega)) (fun r182 w183 h184 => ?_)
      obtain ⟨rfl, q186f, ⟨q186T, q186H, q186c, -, q186k⟩, ⟨q186o, q186t, q186l⟩, q186x⟩ := h184
      have s188 : gS w14 w183 cd (-1) 1 0 0 0 := q186x
      refine e_Ok.nrm (q := 335) (st' := []) rfl rfl ?_
      refine e_Ok.ps0 (q := 356) 1 rfl ?_
      refine e_Ok.rets rfl rfl ?_
      exact ⟨rfl, (show e_fr (kRt cd) w w183 from e_fr.trans f18 (e_fr.mono q186f (fun c k q => by exact q))), ⟨q186T, q186H, ((q186f 1 3 (by unfold kRt; omega)).trans ((q16f 1 3 (by unfold kEm; omega)).trans hc)), hcd, q186k⟩, ⟨(by have g1 : w183 1 11 = o := (q186o.trans ((q16f 1 11 (by unfold kEm; omega)).trans ho)); have g0 : w 1 11 = o := ho; omega), (by have g1 : w183 1 12 = t := (q186t.trans ((q16f 1 12 (by unfold kEm; omega)).trans ht)); have g0 : w 1 12 = t := ht; omega), (by have g1 : w183 1 13 = lp := (q186l.trans ((q16f 1 13 (by unfold kEm; omega)).trans hlp)); have g0 : w 1 13 = lp := hlp; omega)⟩, (show gS w w183 cd 0 0 0 0 0 from gS.trans x20 s188 (by omega)).le (by omega)⟩
    · refine e_Ok.swk (tg := 338) rfl (by rw [h23]; rfl) ?_
      refine e_Ok.run (t' := (339, [(0, (1, 1))], [(1, 1)], w14)) 1 rfl ?_
      have k195 : w14 1 5 = w 1 5 := ((q16f 1 5 (by unfold kEm; omega)).trans rfl)
      refine e_Ok.callV rfl (e_dq hd rfl) rfl rfl rfl rfl (hc1 d rfl w14 cd t lp ⟨q16T, q16H, ((q16f 1 3 (by unfold kEm; omega)).trans hc), hcd, q16k⟩ ((q16f 1 11 (by unfold kEm; omega)).trans ho) ((q16f 1 12 (by unfold kEm; omega)).trans ht) (by omega) ((q16f 1 13 (by unfold kEm; omega)).trans hlp) p21 (show w14 1 5 = 39 from by omega)) (fun r192 w193 h194 => ?_)
      obtain ⟨rfl, q196f, ⟨q196T, q196H, q196c, -, q196k⟩, ⟨q196o, q196t, q196l⟩, q196x⟩ := h194
      have s198 : gS w14 w193 cd (-1) 1 0 0 0 := q196x
      refine e_Ok.nrm (q := 342) (st' := []) rfl rfl ?_
      refine e_Ok.ps0 (q := 356) 1 rfl ?_
      refine e_Ok.rets rfl rfl ?_
      exact ⟨rfl, (show e_fr (kRt cd) w w193 from e_fr.trans f18 (e_fr.mono q196f (fun c k q => by exact q))), ⟨q196T, q196H, ((q196f 1 3 (by unfold kRt; omega)).trans ((q16f 1 3 (by unfold kEm; omega)).trans hc)), hcd, q196k⟩, ⟨(by have g1 : w193 1 11 = o := (q196o.trans ((q16f 1 11 (by unfold kEm; omega)).trans ho)); have g0 : w 1 11 = o := ho; omega), (by have g1 : w193 1 12 = t := (q196t.trans ((q16f 1 12 (by unfold kEm; omega)).trans ht)); have g0 : w 1 12 = t := ht; omega), (by have g1 : w193 1 13 = lp := (q196l.trans ((q16f 1 13 (by unfold kEm; omega)).trans hlp)); have g0 : w 1 13 = lp := hlp; omega)⟩, (show gS w w193 cd 0 0 0 0 0 from gS.trans x20 s198 (by omega)).le (by omega)⟩
    · refine e_Ok.swk (tg := 352) rfl (by rw [h23]; rfl) ?_
      refine e_Ok.run (t' := (353, [(0, (1, 1))], [(1, 1)], w14)) 1 rfl ?_
      have k205 : w14 1 5 = w 1 5 := ((q16f 1 5 (by unfold kEm; omega)).trans rfl)
      refine e_Ok.callV rfl (e_dq hd rfl) rfl rfl rfl rfl (hc3 d rfl w14 cd t lp ⟨q16T, q16H, ((q16f 1 3 (by unfold kEm; omega)).trans hc), hcd, q16k⟩ ((q16f 1 11 (by unfold kEm; omega)).trans ho) ((q16f 1 12 (by unfold kEm; omega)).trans ht) (by omega) ((q16f 1 13 (by unfold kEm; omega)).trans hlp) p21 (show w14 1 5 = 42 from by omega)) (fun r202 w203 h204 => ?_)
      obtain ⟨rfl, q206f, ⟨q206T, q206H, q206c, -, q206k⟩, ⟨q206o, q206t, q206l⟩, q206x⟩ := h204
      have s208 : gS w14 w203 cd (-1) 1 0 0 0 := q206x
      refine e_Ok.nrm (q := 356) (st' := []) rfl rfl ?_
      refine e_Ok.rets rfl rfl ?_
      exact ⟨rfl, (show e_fr (kRt cd) w w203 from e_fr.trans f18 (e_fr.mono q206f (fun c k q => by exact q))), ⟨q206T, q206H, ((q206f 1 3 (by unfold kRt; omega)).trans ((q16f 1 3 (by unfold kEm; omega)).trans hc)), hcd, q206k⟩, ⟨(by have g1 : w203 1 11 = o := (q206o.trans ((q16f 1 11 (by unfold kEm; omega)).trans ho)); have g0 : w 1 11 = o := ho; omega), (by have g1 : w203 1 12 = t := (q206t.trans ((q16f 1 12 (by unfold kEm; omega)).trans ht)); have g0 : w 1 12 = t := ht; omega), (by have g1 : w203 1 13 = lp := (q206l.trans ((q16f 1 13 (by unfold kEm; omega)).trans hlp)); have g0 : w 1 13 = lp := hlp; omega)⟩, (show gS w w203 cd 0 0 0 0 0 from gS.trans x20 s208 (by omega)).le (by omega)⟩
set_option maxHeartbeats 4000000 in
theorem c_144 {d : Nat} (hd : 281 ≤ d) {w : eW} {cd o : Int} (hS : rS w cd) (ho : w 1 11 = o) (hor : 0 ≤ o ∧ o ≤ 30) {t lp : Int} (ht : w 1 12 = t) (htr : 0 ≤ t ∧ t ≤ o) (hlp : w 1 13 = lp) (hlk : lpK w cd lp) (hI : ∀ k, d = k + 1 → zgC 145 o 0 0 isK k) : e_Ok 20 elay kcode eI d 144 (0, [(0, (1, 1))], [], w) (fun r w' => r = [] ∧ gQ w w' cd 0 0 0) := by
  obtain ⟨d, rfl⟩ : ∃ e, d = e + 1 := ⟨d - 1, by omega⟩
  obtain ⟨hT, hH, hc, hcd, hk⟩ := hS
  have hcd2 := hcd; unfold isCd at hcd2
  have hcd3 : 2 ≤ cd ∧ cd ≤ 145 := by omega
  have pL := e_Has.get hT (c := cd) (k := 0) (lo := 0) (hi := 4000) (kD_0 hcd) (by decide)
  have p1 := e_Has.get hH (c := 1) (k := 1) (lo := (-2147483648)) (hi := 2147483647) rfl (by decide)
  have p5 := e_Has.get hH (c := 1) (k := 5) (lo := 0) (hi := 53) rfl (by decide)
  have p6 := e_Has.get hH (c := 1) (k := 6) (lo := 0) (hi := 4000) rfl (by decide)
  have p9 := e_Has.get hH (c := 1) (k := 9) (lo := (-2147483648)) (hi := 2147483647) rfl (by decide)
  have p7 := e_Has.get hH (c := 1) (k := 7) (lo := 0) (hi := 4000) rfl (by decide)
  have p12 := e_Has.get hH (c := 1) (k := 12) (lo := 0) (hi := 30) rfl (by decide)
  have p13 := e_Has.get hH (c := 1) (k := 13) (lo := (-1)) (hi := 4000) rfl (by decide)
  refine e_Ok.run (t' := (2, [(1, (0, 0)), (0, (1, 1))], [], w)) 2 rfl ?_
  have hL1 : ∀ (nn : Nat) (y1 : Int) (v1 : eW), e_fr (kRt cd) w v1 ∧ e_Has kTy v1 ∧ e_Has kRy v1 ∧ v1 1 11 = o ∧ tkR v1 ∧ gS w v1 cd 0 0 0 0 0 ∧ v1 1 12 = t ∧ v1 1 13 = lp ∧ lpK v1 cd lp ∧ ((0 ≤ y1 ∧ y1 ≤ 4000)) → 4001 - y1 < nn → e_Ok 20 elay kcode eI (d + 1) 144 (2, [(0, (1, 1)), (1, (0, y1))], [], v1) (fun r w' => r = [] ∧ gQ w w' cd 0 0 0) := by
    intro nn
    induction nn with
    | zero => intro y1 v1 hj hm; obtain ⟨j3, j4, j5, j6, j7, j8, j9, j10, j11, j12⟩ := hj; exfalso; omega
    | succ nn ih2 =>
      intro y1 v1 hj hm
      obtain ⟨j3, j4, j5, j6, j7, j8, j9, j10, j11, j12⟩ := hj
      refine e_Ok.run (t' := (6, [(0, (1, 1)), (1, (0, y1))], [(0, 4000), (0, y1)], v1)) 2 rfl ?_
      refine e_Ok.if2 rfl (fun h13 => ?_) (fun h13 => ?_)
      · replace h13 : (y1 : Int) ≥ 4000 := h13
        refine e_Ok.rets rfl rfl ?_
        exact ⟨rfl, j3, ⟨j4, j5, ((j3 1 3 (by unfold kRt; omega)).trans hc), hcd, j7⟩, ⟨(by have g1 : v1 1 11 = o := j6; have g0 : w 1 11 = o := ho; omega), (by have g1 : v1 1 12 = t := j9; have g0 : w 1 12 = t := ht; omega), (by have g1 : v1 1 13 = lp := j10; have g0 : w 1 13 = lp := hlp; omega)⟩, j8.le (by omega)⟩
      · replace h13 : (y1 : Int) < 4000 := Int.not_le.mp (show ¬ ((y1 : Int) ≥ 4000) from h13)
        refine e_Ok.ps1 (x := (1, 1)) (q := 10) 1 rfl ?_
        refine e_Ok.callV rfl (e_dq hd rfl) rfl rfl rfl rfl (c_143 (e_dq hd rfl) j4 j5) (fun r14 w15 h16 => ?_)
        obtain ⟨z17, rfl, rfl, ⟨rfl, q18⟩ | ⟨rfl, -⟩⟩ := h16
        · refine e_Ok.nrm (q := 13) (st' := [(0, 1)]) rfl rfl ?_
          refine e_Ok.if1 rfl (fun h19 => ?_) (fun h19 => ?_)
          · replace h19 : (1 : Int) = 0 := h19
            exfalso; omega
          · replace h19 : (1 : Int) ≠ 0 := (show ¬ ((1 : Int) = 0) from h19)
            refine e_Ok.ps1 (x := (1, 1)) (q := 17) 1 rfl ?_
            refine e_Ok.callV rfl (e_dq hd rfl) rfl rfl rfl rfl (hI d rfl v1 cd t lp ⟨j4, j5, ((j3 1 3 (by unfold kRt; omega)).trans hc), hcd, j7⟩ j6 j9 (by omega) j10 j11 q18) (fun r20 w21 h22 => ?_)
            obtain ⟨rfl, q23f, ⟨q23T, q23H, q23c, -, q23k⟩, ⟨q23o, q23t, q23l⟩, q23x⟩ := h22
            have s25 : gS v1 w21 cd 0 0 0 0 0 := q23x
            refine e_Ok.nrm (q := 20) (st' := []) rfl rfl ?_
            refine e_Ok.inc (z := y1 + 1) rfl rfl (by first | with_reducible rfl | omega) (by omega) ?_
            show e_Ok 20 elay kcode eI (d + 1) 144 (23, [(1, (0, y1 + 1)), (0, (1, 1))], [], w21) _
            refine e_Ok.ps0 (q := 2) 1 rfl ?_
            refine e_Ok.sub kAlk (e_sub_of rfl ?_) (ih2 (y1 + 1) w21 ⟨(show e_fr (kRt cd) w w21 from e_fr.trans j3 (e_fr.mono q23f (fun c k q => by exact q))), q23T, q23H, (q23o.trans j6), q23k, ((show gS w w21 cd 0 0 0 0 0 from gS.trans j8 s25 (by omega)).le (by omega)), (q23t.trans j9), (q23l.trans j10), (lpK.step j11 s25), (by omega)⟩ (by omega))
            exact ⟨rfl, rfl, trivial⟩
        · refine e_Ok.nrm (q := 13) (st' := [(0, 0)]) rfl rfl ?_
          refine e_Ok.if1 rfl (fun h28 => ?_) (fun h28 => ?_)
          · replace h28 : (0 : Int) = 0 := h28
            refine e_Ok.rets rfl rfl ?_
            exact ⟨rfl, j3, ⟨j4, j5, ((j3 1 3 (by unfold kRt; omega)).trans hc), hcd, j7⟩, ⟨(by have g1 : v1 1 11 = o := j6; have g0 : w 1 11 = o := ho; omega), (by have g1 : v1 1 12 = t := j9; have g0 : w 1 12 = t := ht; omega), (by have g1 : v1 1 13 = lp := j10; have g0 : w 1 13 = lp := hlp; omega)⟩, j8.le (by omega)⟩
          · replace h28 : (0 : Int) ≠ 0 := (show ¬ ((0 : Int) = 0) from h28)
            exfalso; omega
  refine e_Ok.sub kAlk (e_sub_of rfl ?_) (hL1 (4001 + 1 : Int).toNat 0 w ⟨(e_fr.refl w), hT, hH, ho, hk, ((show gS w w cd 0 0 0 0 0 from gS.refl pL.1).le (by omega)), ht, hlp, hlk, (by omega)⟩ (by omega))
  exact ⟨rfl, rfl, trivial⟩
theorem g154 {d : Nat} {o : Int} (hd : 281 ≤ d) (hor : 0 ≤ o ∧ o ≤ 30) (hB : o < 30 → ∀ k, d = k + 1 → zgC 144 (o + 1) 0 0 (fun _ => True) k) : zgC 154 o (-1) 1 (fun k => k = 39) d := fun _ _ _ _ h1 h2 h3 h4 h5 h6 h7 => c_154 hd h1 h2 hor h3 h4 h5 h6 h7 hB
theorem g155 {d : Nat} {o : Int} (hd : 281 ≤ d) (hor : 0 ≤ o ∧ o ≤ 30) (hB : o < 30 → ∀ k, d = k + 1 → zgC 144 (o + 1) 0 0 (fun _ => True) k) : zgC 155 o 0 0 (fun k => k = 41) d := fun _ _ _ _ h1 h2 h3 h4 h5 h6 h7 => c_155 hd h1 h2 hor h3 h4 h5 h6 h7 hB
theorem g156 {d : Nat} {o : Int} (hd : 284 ≤ d) (hor : 0 ≤ o ∧ o ≤ 30) (hB : o < 30 → ∀ k, d ≤ k + 2 → zgC 144 (o + 1) 0 0 (fun _ => True) k) : zgC 156 o (-1) 1 (fun k => k = 42) d := fun _ _ _ _ h1 h2 h3 h4 h5 h6 h7 => c_156 (by omega) h1 h2 hor h3 h4 h5 h6 h7 hB
theorem g145 {d : Nat} {o : Int} (hd : 285 ≤ d) (hor : 0 ≤ o ∧ o ≤ 30) (hc1 : ∀ k, d = k + 1 → zgC 154 o (-1) 1 (fun k => k = 39) k) (hc2 : ∀ k, d = k + 1 → zgC 155 o 0 0 (fun k => k = 41) k) (hc3 : ∀ k, d = k + 1 → zgC 156 o (-1) 1 (fun k => k = 42) k) : zgC 145 o 0 0 isK d := fun _ _ _ _ h1 h2 h3 h4 h5 h6 h7 => c_145 (by omega) h1 h2 hor h3 h4 h5 h6 h7 hc1 hc2 hc3
theorem g144 {d : Nat} {o : Int} (hd : 283 ≤ d) (hor : 0 ≤ o ∧ o ≤ 30) (hI : ∀ k, d = k + 1 → zgC 145 o 0 0 isK k) : zgC 144 o 0 0 (fun _ => True) d := fun _ _ _ _ h1 h2 h3 h4 h5 h6 _ => c_144 (by omega) h1 h2 hor h3 h4 h5 h6 hI
theorem g_lv : ∀ (k : Nat), k ≤ 30 → ∀ d, 290 + 5 * k ≤ d → zgC 144 (30 - (k : Int)) 0 0 (fun _ => True) d
  | 0, _ => fun d hd => g144 (by omega) (by omega) (fun j e => g145 (by omega) (by omega) (fun i e => g154 (by omega) (by omega) (fun h => by omega)) (fun i e => g155 (by omega) (by omega) (fun h => by omega)) (fun i e => g156 (by omega) (by omega) (fun h => by omega)))
  | k + 1, hk => fun d hd => by
    have ih := g_lv k (by omega)
    have eo : 30 - ((k + 1 : Nat) : Int) + 1 = 30 - (k : Int) := by omega
    have hB : ∀ j, 290 + 5 * k ≤ j → zgC 144 (30 - ((k + 1 : Nat) : Int) + 1) 0 0 (fun _ => True) j := fun j hj => by rw [eo]; exact ih j hj
    exact g144 (by omega) (by omega) (fun j e => g145 (by omega) (by omega) (fun i e => g154 (by omega) (by omega) (fun _ m e => hB m (by omega))) (fun i e => g155 (by omega) (by omega) (fun _ m e => hB m (by omega))) (fun i e => g156 (by omega) (by omega) (fun _ m e => hB m (by omega))))
/-- statements, with o things open -/
theorem g_blk {d : Nat} {o : Int} (hd : 440 ≤ d) (hor : 0 ≤ o ∧ o ≤ 30) : zgC 144 o 0 0 (fun _ => True) d := by
  have hk : ((30 - o).toNat : Int) = 30 - o := by omega
  have q := g_lv (30 - o).toNat (by omega)
  rw [hk, show 30 - (30 - o) = o by omega] at q
  exact q d (by omega)
end
