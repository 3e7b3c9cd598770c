noncomputable section
/-! answers of single calls, beside what they keep -/
theorem e_Ok.both {fd : Nat} {lay : List eY} {code : Nat → Nat → eE} {I : Nat → xM} {d M : Nat} {t : eS} {Q Q' : List eV → eW → Prop} (h : e_Ok fd lay code I d M t Q) (h' : e_Ok fd lay code I d M t Q') : e_Ok fd lay code I d M t (fun r v => Q r v ∧ Q' r v) := by
  obtain ⟨n, r, v, h1, h2⟩ := h
  obtain ⟨n', r', v', h3, h4⟩ := h'
  have a := e_go_le (Nat.le_max_left n n') h1
  have b := e_go_le (Nat.le_max_right n n') h3
  rw [a] at b
  have e := Option.some.inj b
  have e1 : r = r' := congrArg Prod.fst e
  have e2 : v = v' := congrArg Prod.snd e
  exact ⟨n, r, v, h1, h2, by rw [e1, e2]; exact h4⟩
theorem one_z {a b : Int} (h : ([(0, a)] : List eV) = [(0, b)]) : a = b := congrArg Prod.snd (List.cons.inj h).1
theorem k_212z {d : Nat} (hd : 460 ≤ d) {w : eW} (q : kRel w) (hAl : kAl w) : e_Ok 20 elay kcode eI d 212 (0, [(0, (1, 0))], [], w) (fun r w' => ∃ z : Int, r = [(0, z)] ∧ kRelF w' ∧ ((w 0 13 = 1 ∧ z = -2 ∧ km3 w w') ∨ (w 0 13 = 0 ∧ z = w 0 11 ∧ w' 0 13 = 1 ∧ w' 1 0 = w 1 0 ∧ w' 0 11 = w 0 11))) := by
  have q3 := q.2.2.1.1
  by_cases h1 : w 0 13 = 1
  · refine (e_Ok.both (k_212 hd q hAl) (c_212_o (by omega) q.1 h1)).imp (fun r w' h => ?_)
    obtain ⟨⟨z, rfl, hF, e⟩, hz⟩ := h
    have ez : z = -2 := one_z hz
    subst ez
    rcases e with ⟨e, e'⟩ | ⟨e, -⟩
    · exact ⟨_, rfl, hF, Or.inl ⟨e, rfl, e'⟩⟩
    · omega
  · have h0 : w 0 13 = 0 := by omega
    obtain ⟨OP, OD, CL, hc⟩ := (q.2.2.2.2.1 h0).cf
    refine (e_Ok.both (k_212 hd q hAl) (c_212 (by omega) q.1 q3 (fun _ => hc) hAl q.p62)).imp (fun r w' h => ?_)
    obtain ⟨⟨z, rfl, hF, e⟩, z', hz, -, e2⟩ := h
    have ez : z = z' := one_z hz
    subst ez
    rcases e2 with ⟨e2, -⟩ | ⟨-, -, -, e2, -⟩
    · omega
    rcases e with ⟨e, e'⟩ | ⟨e, e'⟩
    · omega
    · exact ⟨_, rfl, hF, Or.inr ⟨e, e2, e'⟩⟩
theorem m_296z {d : Nat} (hd : 25 ≤ d) {w : eW} (h : mRel w) : e_Ok 20 elay ecode eI d 296 (0, [(0, (1, 275))], [], w) (fun r w' => ∃ z : Int, r = [(0, z)] ∧ mRel w' ∧ (w' 275 3 = 1 ∧ w' 275 9 = w 275 9 ∧ w' 275 10 = w 275 10) ∧ ((w 275 3 ≠ 0 ∧ z = -2) ∨ (w 275 3 = 0 ∧ z = w 275 10))) := by
  have hI : ∃ G, mInv w G := by
    rcases h.2.2.2 with ⟨-, G, g⟩ | ⟨-, G, S, g⟩
    · exact ⟨G, g.1.inv⟩
    · exact ⟨G, g.inv⟩
  obtain ⟨G, hG⟩ := hI
  refine (e_Ok.both (m_296 hd h) (c_296_z hd hG)).imp (fun r w' h => ?_)
  obtain ⟨⟨z, rfl, hF, e⟩, z', hz, e2⟩ := h
  have ez : z = z' := one_z hz
  subst ez
  exact ⟨_, rfl, hF, e, e2⟩
end
