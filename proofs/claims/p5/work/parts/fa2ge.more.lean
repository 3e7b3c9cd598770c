noncomputable section
/-! answers of single calls, beside what they keep -/
theorem e_Ok.both {fd : Nat} {lay : List eY} {code : Nat → Nat → eE} {I : Nat → xM} {d M : Nat} {t : eS} {Q Q' : List eV → eW → Prop} (h : e_Ok fd lay code I d M t Q) (h' : e_Ok fd lay code I d M t Q') : e_Ok fd lay code I d M t (fun r v => Q r v ∧ Q' r v) := by
  obtain ⟨n, r, v, h1, h2⟩ := h
  obtain ⟨n', r', v', h3, h4⟩ := h'
  have a := e_go_le (Nat.le_max_left n n') h1
  have b := e_go_le (Nat.le_max_right n n') h3
  rw [a] at b
  have e := Option.some.inj b
  have e1 : r = r' := congrArg Prod.fst e
  have e2 : v = v' := congrArg Prod.snd e
  exact ⟨n, r, v, h1, h2, by rw [e1, e2]; exact h4⟩
theorem one_z {a b : Int} (h : ([(0, a)] : List eV) = [(0, b)]) : a = b := congrArg Prod.snd (List.cons.inj h).1
theorem k_212z {d : Nat} (hd : 460 ≤ d) {w : eW} (q : kRel w) (hAl : kAl w) : e_Ok 20 elay kcode eI d 212 (0, [(0, (1, 0))], [], w) (fun r w' => ∃ z : Int, r = [(0, z)] ∧ kRelF w' ∧ ((w 0 13 = 1 ∧ z = -2 ∧ km3 w w') ∨ (w 0 13 = 0 ∧ z = w 0 11 ∧ w' 0 13 = 1 ∧ w' 1 0 = w 1 0 ∧ w' 0 11 = w 0 11))) := by
  have q3 := q.2.2.1.1
  by_cases h1 : w 0 13 = 1
  · refine (e_Ok.both (k_212 hd q hAl) (c_212_o (by omega) q.1 h1)).imp (fun r w' h => ?_)
    obtain ⟨⟨z, rfl, hF, e⟩, hz⟩ := h
    have ez : z = -2 := one_z hz
    subst ez
    rcases e with ⟨e, e'⟩ | ⟨e, -⟩
    · exact ⟨_, rfl, hF, Or.inl ⟨e, rfl, e'⟩⟩
    · omega
  · have h0 : w 0 13 = 0 := by omega
    obtain ⟨OP, OD, CL, hc⟩ := (q.2.2.2.2.1 h0).cf
    refine (e_Ok.both (k_212 hd q hAl) (c_212 (by omega) q.1 q3 (fun _ => hc) hAl q.p62)).imp (fun r w' h => ?_)
    obtain ⟨⟨z, rfl, hF, e⟩, z', hz, -, e2⟩ := h
    have ez : z = z' := one_z hz
    subst ez
    rcases e2 with ⟨e2, -⟩ | ⟨-, -, -, e2, -⟩
    · omega
    rcases e with ⟨e, e'⟩ | ⟨e, e'⟩
    · omega
    · exact ⟨_, rfl, hF, Or.inr ⟨e, e2, e'⟩⟩
theorem m_296z {d : Nat} (hd : 25 ≤ d) {w : eW} (h : mRel w) : e_Ok 20 elay ecode eI d 296 (0, [(0, (1, 275))], [], w) (fun r w' => ∃ z : Int, r = [(0, z)] ∧ mRel w' ∧ (w' 275 3 = 1 ∧ w' 275 9 = w 275 9 ∧ w' 275 10 = w 275 10) ∧ ((w 275 3 ≠ 0 ∧ z = -2) ∨ (w 275 3 = 0 ∧ z = w 275 10))) := by
  have hI : ∃ G, mInv w G := by
    rcases h.2.2.2 with ⟨-, G, g⟩ | ⟨-, G, S, g⟩
    · exact ⟨G, g.1.inv⟩
    · exact ⟨G, g.inv⟩
  obtain ⟨G, hG⟩ := hI
  refine (e_Ok.both (m_296 hd h) (c_296_z hd hG)).imp (fun r w' h => ?_)
  obtain ⟨⟨z, rfl, hF, e⟩, z', hz, e2⟩ := h
  have ez : z = z' := one_z hz
  subst ez
  exact ⟨_, rfl, hF, e, e2⟩
theorem k_193z {d : Nat} (hd : 460 ≤ d) {w : eW} (q : kRel w) (hAl : kAl w) {x : Int} (g_x : (-2147483648 ≤ x ∧ x ≤ 2147483647)) {y : Int} (g_y : (-2147483648 ≤ y ∧ y ≤ 2147483647)) {u : Int} (g_u : (-2147483648 ≤ u ∧ u ≤ 2147483647)) {v : Int} (g_v : (-2147483648 ≤ v ∧ v ≤ 2147483647)) : e_Ok 20 elay kcode eI d 193 (0, [(0, (1, 0)), (1, (0, x)), (2, (0, y)), (3, (0, u)), (4, (0, v))], [], w) (fun r w' => ∃ z : Int, r = [(0, z)] ∧ kRelF w' ∧ ((km3 w w' ∧ ¬ ((-8000 ≤ x ∧ x ≤ 8000) ∧ (-8000 ≤ y ∧ y ≤ 8000) ∧ (0 ≤ u ∧ u ≤ 4095) ∧ (0 ≤ v ∧ v ≤ 800) ∧ w 0 13 = 0 ∧ w 0 11 ≤ 3)) ∨ (((-8000 ≤ x ∧ x ≤ 8000) ∧ (-8000 ≤ y ∧ y ≤ 8000) ∧ (0 ≤ u ∧ u ≤ 4095) ∧ (0 ≤ v ∧ v ≤ 800) ∧ w 0 13 = 0 ∧ w 0 11 ≤ 3) ∧ w' 0 13 = w 0 13 ∧ w' 1 0 = w 1 0 ∧ w' 0 11 = w 0 11 + 1)) ∧ ((¬ ((-8000 ≤ x ∧ x ≤ 8000) ∧ (-8000 ≤ y ∧ y ≤ 8000) ∧ (0 ≤ u ∧ u ≤ 4095) ∧ (0 ≤ v ∧ v ≤ 800)) ∧ z = -1) ∨ (((-8000 ≤ x ∧ x ≤ 8000) ∧ (-8000 ≤ y ∧ y ≤ 8000) ∧ (0 ≤ u ∧ u ≤ 4095) ∧ (0 ≤ v ∧ v ≤ 800)) ∧ ((w 0 13 ≠ 0 ∧ z = -2) ∨ (w 0 13 = 0 ∧ ((w 0 11 ≤ 3 ∧ z = w 0 11) ∨ (w 0 11 = 4 ∧ z = -3))))))) := by
  have hw0 := e_Has.get q.1 (c := 0) (k := 11) (lo := 0) (hi := 4) rfl (by decide)
  by_cases hn : w 0 11 ≤ 3
  · refine (e_Ok.both (k_193 hd q hAl g_x g_y g_u g_v) (c_193_z (by omega) (n := w 0 11) (cd := w (17 * w 0 11 + 86) 7) q.1 q.2.2.1.1 rfl hn rfl (q.hC _ hw0.1 hn) g_x g_y g_u g_v)).imp (fun r w' h => ?_)
    obtain ⟨⟨z, rfl, hF, e⟩, z', hz, e2⟩ := h
    have ez : z = z' := one_z hz
    subst ez
    exact ⟨_, rfl, hF, e, by omega⟩
  · refine (e_Ok.both (k_193 hd q hAl g_x g_y g_u g_v) (c_193_y (by omega) q.1 q.2.2.1.1 (by omega) g_x g_y g_u g_v)).imp (fun r w' h => ?_)
    obtain ⟨⟨z, rfl, hF, e⟩, z', hz, e2⟩ := h
    have ez : z = z' := one_z hz
    subst ez
    exact ⟨_, rfl, hF, e, by omega⟩
theorem m_278z {d : Nat} (hd : 24 ≤ d) {w : eW} (h : mRel w) {p1 p2 p3 p4 : Int} (g1 : -2147483648 ≤ p1 ∧ p1 ≤ 2147483647) (g2 : -2147483648 ≤ p2 ∧ p2 ≤ 2147483647) (g3 : -2147483648 ≤ p3 ∧ p3 ≤ 2147483647) (g4 : -2147483648 ≤ p4 ∧ p4 ≤ 2147483647) : e_Ok 20 elay ecode eI d 278 (0, [(0, (1, 275)), (1, (0, p1)), (2, (0, p2)), (3, (0, p3)), (4, (0, p4))], [], w) (fun r w' => ∃ z : Int, r = [(0, z)] ∧ mRel w' ∧ (w' 275 3 = w 275 3 ∧ w' 275 9 = w 275 9 ∧ ((¬ ((-8000 ≤ p1 ∧ p1 ≤ 8000) ∧ (-8000 ≤ p2 ∧ p2 ≤ 8000) ∧ (0 ≤ p3 ∧ p3 ≤ 4095) ∧ (0 ≤ p4 ∧ p4 ≤ 800) ∧ w 275 3 = 0 ∧ w 275 10 ≤ 3) ∧ w' 275 10 = w 275 10) ∨ (((-8000 ≤ p1 ∧ p1 ≤ 8000) ∧ (-8000 ≤ p2 ∧ p2 ≤ 8000) ∧ (0 ≤ p3 ∧ p3 ≤ 4095) ∧ (0 ≤ p4 ∧ p4 ≤ 800) ∧ w 275 3 = 0 ∧ w 275 10 ≤ 3) ∧ w' 275 10 = w 275 10 + 1))) ∧ ((¬ ((-8000 ≤ p1 ∧ p1 ≤ 8000) ∧ (-8000 ≤ p2 ∧ p2 ≤ 8000) ∧ (0 ≤ p3 ∧ p3 ≤ 4095) ∧ (0 ≤ p4 ∧ p4 ≤ 800)) ∧ z = -1) ∨ (((-8000 ≤ p1 ∧ p1 ≤ 8000) ∧ (-8000 ≤ p2 ∧ p2 ≤ 8000) ∧ (0 ≤ p3 ∧ p3 ≤ 4095) ∧ (0 ≤ p4 ∧ p4 ≤ 800)) ∧ ((w 275 3 ≠ 0 ∧ z = -2) ∨ (w 275 3 = 0 ∧ ((w 275 10 ≠ 4 ∧ z = w 275 10) ∨ (w 275 10 = 4 ∧ z = -3))))))) := by
  refine (e_Ok.both (m_278x hd h g1 g2 g3 g4) (c_278_ex hd h.1 g1 g2 g3 g4)).imp (fun r w' h => ?_)
  obtain ⟨⟨z, rfl, hF, e⟩, z', hz, e2⟩ := h
  have ez : z = z' := one_z hz
  subst ez
  refine ⟨_, rfl, hF, e, ?_⟩
  rcases e2 with ⟨-, e2⟩ | ⟨e2, e3, -⟩
  · omega
  · omega
theorem k_208z {d : Nat} (hd : 460 ≤ d) {w : eW} (q : kRel w) (hAl : kAl w) {a : Int} (g_a : (-2147483648 ≤ a ∧ a ≤ 2147483647)) {b : Int} (g_b : (0 ≤ b ∧ b ≤ 1)) : e_Ok 20 elay kcode eI d 208 (0, [(0, (1, 0)), (1, (0, a)), (2, (0, b))], [], w) (fun r w' => ∃ z : Int, r = [(0, z)] ∧ kRelF w' ∧ km3 w w' ∧ ((¬ (0 ≤ a ∧ a ≤ 7) ∧ z = -1) ∨ ((0 ≤ a ∧ a ≤ 7) ∧ ((w 0 13 ≠ 0 ∧ z = -2) ∨ (w 0 13 = 0 ∧ z = 0))))) := by
  refine (e_Ok.both (k_208 hd q hAl g_a g_b) (c_208_ex (by omega) q.1 q.2.2.1.1 g_a g_b)).imp (fun r w' h => ?_)
  obtain ⟨⟨z, rfl, hF, e⟩, z', hz, e2⟩ := h
  have ez : z = z' := one_z hz
  subst ez
  refine ⟨_, rfl, hF, e, ?_⟩
  rcases e2 with ⟨-, e2⟩ | ⟨e2, e3, -⟩
  · omega
  · omega
theorem m_294z {d : Nat} (hd : 24 ≤ d) {w : eW} (h : mRel w) {p1 p2 : Int} (g1 : -2147483648 ≤ p1 ∧ p1 ≤ 2147483647) (g2 : 0 ≤ p2 ∧ p2 ≤ 1) : e_Ok 20 elay ecode eI d 294 (0, [(0, (1, 275)), (1, (0, p1)), (2, (0, p2))], [], w) (fun r w' => ∃ z : Int, r = [(0, z)] ∧ mRel w' ∧ sm3 w w' ∧ ((¬ (0 ≤ p1 ∧ p1 ≤ 7) ∧ z = -1) ∨ ((0 ≤ p1 ∧ p1 ≤ 7) ∧ ((w 275 3 ≠ 0 ∧ z = -2) ∨ (w 275 3 = 0 ∧ z = 0))))) := by
  refine (e_Ok.both (m_294 hd h g1 g2) (c_294_ex hd h.1 g1 g2)).imp (fun r w' h => ?_)
  obtain ⟨⟨z, rfl, hF, e⟩, z', hz, e2⟩ := h
  have ez : z = z' := one_z hz
  subst ez
  refine ⟨_, rfl, hF, e, ?_⟩
  rcases e2 with ⟨-, e2⟩ | ⟨e2, e3, -⟩
  · omega
  · omega
end
