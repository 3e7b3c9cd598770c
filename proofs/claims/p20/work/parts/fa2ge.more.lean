noncomputable section
/-! answers of single calls, beside what they keep -/
theorem e_Ok.both {fd : Nat} {lay : List eY} {code : Nat → Nat → eE} {I : Nat → xM} {d M : Nat} {t : eS} {Q Q' : List eV → eW → Prop} (h : e_Ok fd lay code I d M t Q) (h' : e_Ok fd lay code I d M t Q') : e_Ok fd lay code I d M t (fun r v => Q r v ∧ Q' r v) := by
  obtain ⟨n, r, v, h1, h2⟩ := h
  obtain ⟨n', r', v', h3, h4⟩ := h'
  have a := e_go_le (Nat.le_max_left n n') h1
  have b := e_go_le (Nat.le_max_right n n') h3
  rw [a] at b
  have e := Option.some.inj b
  have e1 : r = r' := congrArg Prod.fst e
  have e2 : v = v' := congrArg Prod.snd e
  exact ⟨n, r, v, h1, h2, by rw [e1, e2]; exact h4⟩
theorem one_z {a b : Int} (h : ([(0, a)] : List eV) = [(0, b)]) : a = b := congrArg Prod.snd (List.cons.inj h).1
theorem k_208z {d : Nat} (hd : 460 ≤ d) {w : eW} (q : kRel w) (hAl : kAl w) {a : Int} (g_a : (-2147483648 ≤ a ∧ a ≤ 2147483647)) {b : Int} (g_b : (0 ≤ b ∧ b ≤ 1)) : e_Ok 20 elay kcode eI d 208 (0, [(0, (1, 0)), (1, (0, a)), (2, (0, b))], [], w) (fun r w' => ∃ z : Int, r = [(0, z)] ∧ kRelF w' ∧ km3 w w' ∧ ((¬ (0 ≤ a ∧ a ≤ 7) ∧ z = -1) ∨ ((0 ≤ a ∧ a ≤ 7) ∧ ((w 0 13 ≠ 0 ∧ z = -2) ∨ (w 0 13 = 0 ∧ z = 0))))) := by
  refine (e_Ok.both (k_208 hd q hAl g_a g_b) (c_208_ex (by omega) q.1 q.2.2.1.1 g_a g_b)).imp (fun r w' h => ?_)
  obtain ⟨⟨z, rfl, hF, e⟩, z', hz, e2⟩ := h
  have ez : z = z' := one_z hz
  subst ez
  refine ⟨_, rfl, hF, e, ?_⟩
  rcases e2 with ⟨-, e2⟩ | ⟨e2, e3, -⟩
  · omega
  · omega
theorem m_294z {d : Nat} (hd : 24 ≤ d) {w : eW} (h : mRel w) {p1 p2 : Int} (g1 : -2147483648 ≤ p1 ∧ p1 ≤ 2147483647) (g2 : 0 ≤ p2 ∧ p2 ≤ 1) : e_Ok 20 elay ecode eI d 294 (0, [(0, (1, 275)), (1, (0, p1)), (2, (0, p2))], [], w) (fun r w' => ∃ z : Int, r = [(0, z)] ∧ mRel w' ∧ sm3 w w' ∧ ((¬ (0 ≤ p1 ∧ p1 ≤ 7) ∧ z = -1) ∨ ((0 ≤ p1 ∧ p1 ≤ 7) ∧ ((w 275 3 ≠ 0 ∧ z = -2) ∨ (w 275 3 = 0 ∧ z = 0))))) := by
  refine (e_Ok.both (m_294 hd h g1 g2) (c_294_ex hd h.1 g1 g2)).imp (fun r w' h => ?_)
  obtain ⟨⟨z, rfl, hF, e⟩, z', hz, e2⟩ := h
  have ez : z = z' := one_z hz
  subst ez
  refine ⟨_, rfl, hF, e, ?_⟩
  rcases e2 with ⟨-, e2⟩ | ⟨e2, e3, -⟩
  · omega
  · omega
end
