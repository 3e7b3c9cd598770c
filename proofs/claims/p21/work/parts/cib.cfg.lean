noncomputable section
/-! what stays as it is while a cell goes on; runs over that alone -/
section D0
variable {w w' : eW}
/-- what a cell may write while it is open -/
def kNh (c k : Int) : Prop := kNw c k ∨ c = 273 ∨ (c = 0 ∧ 12 ≤ k) ∨ (262 ≤ c ∧ c ≤ 271) ∨ c = 1 ∨ (5 ≤ c ∧ c ≤ 7)
def Kc (c k : Int) : Prop := (0 ≤ c ∧ c ≤ 274) ∧ (¬ kNh c k ∨ (kTy c k).1 = (kTy c k).2 ∨ e_out elay c k)
def kCy (c k : Int) : Int × Int := @ite _ (¬ kNh c k ∨ (kTy c k).1 = (kTy c k).2) (Classical.propDecidable _) (kTy c k) (1, 0)
theorem kCy_n {c k lo hi : Int} (hn : ¬ kNh c k) (h : kTy c k = (lo, hi)) : kCy c k = (lo, hi) := by
  unfold kCy
  rw [if_pos (Or.inl hn)]
  exact h
theorem kCy_c {c k v : Int} (h : kTy c k = (v, v)) : kCy c k = (v, v) := by
  unfold kCy
  rw [if_pos (Or.inr (by rw [h]))]
  exact h
theorem kCy_no1 {c k : Int} (h : kTy c k = (1, 0)) : kCy c k = (1, 0) := by
  unfold kCy
  by_cases q : ¬ kNh c k ∨ (kTy c k).1 = (kTy c k).2
  · rw [if_pos q]; exact h
  · rw [if_neg q]
theorem kCy_no2 {c k lo hi : Int} (hn : kNh c k) (h : kTy c k = (lo, hi)) (hl : lo ≠ hi) : kCy c k = (1, 0) := by
  unfold kCy
  rw [if_neg (fun q => by rcases q with q | q; exact q hn; (rw [h] at q; exact hl q))]
theorem kTy_rg {c k : Int} (h : (kTy c k).1 ≤ (kTy c k).2) : 0 ≤ c ∧ c ≤ 274 := by
  unfold kTy kTyO at h
  by_cases q : c < 0
  · rw [if_pos q] at h
    exact absurd h (by decide)
  · rw [if_neg q] at h
    refine ⟨by omega, ?_⟩
    apply Classical.byContradiction
    intro g
    have e : x_at kTab c.toNat = none := by
      rw [x_at_eq]
      exact List.getElem?_eq_none (by rw [show kTab.length = 275 from by decide +kernel]; omega)
    rw [e] at h
    exact absurd (show (1 : Int) ≤ 0 from h) (by decide)
theorem kCy_le {c k : Int} (h : (kCy c k).1 ≤ (kCy c k).2) : Kc c k ∧ kCy c k = kTy c k := by
  unfold kCy at h ⊢
  by_cases q : ¬ kNh c k ∨ (kTy c k).1 = (kTy c k).2
  · rw [if_pos q] at h ⊢
    exact ⟨⟨kTy_rg h, by rcases q with q | q; exact Or.inl q; exact Or.inr (Or.inl q)⟩, rfl⟩
  · rw [if_neg q] at h
    exact absurd h (by decide)
theorem kTy.cy (h : e_Has kTy w) : e_Has kCy w := fun c k hl => by
  have e := (kCy_le hl).2
  rw [e] at hl ⊢
  exact h c k hl
theorem e_Has.cpz (h : e_Has kCy w) : e_Has kCy (e_pz Kc w) := fun c k hl => by
  rw [e_pz_in (kCy_le hl).1]
  exact h c k hl
theorem kz_joints (h : e_Has kCy w) {a : Int} (ha : 0 ≤ a ∧ a ≤ 3) : 0 ≤ w (17 * a + 86) 8 ∧ w (17 * a + 86) 8 ≤ 6 := e_Has.get h (kCy_n (by unfold kNh kNw; omega) (kA_8 (a := a) rfl ha)) (by decide)
end D0
theorem nd1 (i : Nat) (v : eV) : (([(i, v)] : eL).map Prod.fst).Nodup := List.nodup_cons.mpr ⟨List.not_mem_nil, List.nodup_nil⟩
/-- what a method of the class makes of t -/
def k_phi (M : Nat) (t : eS) : List eV × eW := @dite _ (∃ r n d, e_go 20 elay kcode eI n d M t = some r) (Classical.propDecidable _) (fun h => Classical.choose h) (fun _ => ([], fun _ _ => 0))
theorem k_phi_eq {n d M : Nat} {t : eS} {r : List eV × eW} (h : e_go 20 elay kcode eI n d M t = some r) : k_phi M t = r := by
  have hx : ∃ r n d, e_go 20 elay kcode eI n d M t = some r := ⟨r, n, d, h⟩
  unfold k_phi
  rw [dif_pos hx]
  obtain ⟨n', d', h'⟩ := Classical.choose_spec hx
  exact e_go_one h' h
theorem k_phi_ok {d M : Nat} {t : eS} {Q : List eV → eW → Prop} (h : e_Ok 20 elay kcode eI d M t Q) : Q (k_phi M t).1 (k_phi M t).2 := by
  obtain ⟨n, r, w, h1, h2⟩ := h
  rw [k_phi_eq h1]
  exact h2
/-- a run from contents that know less leads to less, but to the same -/
theorem k_rel {d M : Nat} {l : eL} {u w : eW} {Q Q' : List eV → eW → Prop} (hn : (l.map Prod.fst).Nodup) (hw : e_rf u w) (hu : e_Ok 20 elay kcode eI d M (0, l, [], u) Q) (hw' : e_Ok 20 elay kcode eI d M (0, l, [], w) Q') :
    e_Ok 20 elay kcode eI d M (0, l, [], w) (fun r v => (Q' r v ∧ r = (k_phi M (0, l, [], u)).1 ∧ e_rf (k_phi M (0, l, [], u)).2 v) ∧ ∀ c k, e_out elay c k → v c k = w c k) := by
  refine e_Ok.out kAlk ?_
  obtain ⟨n, r, u1, h1, h2⟩ := hu
  have h3 : e_Ok 20 elay kcode eI d M (0, l, [], u) (fun r' u' => r' = r ∧ u' = u1) := ⟨n, r, u1, h1, rfl, rfl⟩
  obtain ⟨n', r', v, h4, u', ⟨h5, h6⟩, h7⟩ := e_Ok.more kAlk hn hw h3
  obtain ⟨n2, r2, v2, h8, h9⟩ := hw'
  have e2 := e_go_one h4 h8
  have e3 : r' = r2 := congrArg Prod.fst e2
  have e4 : v = v2 := congrArg Prod.snd e2
  refine ⟨n', r', v, h4, ?_⟩
  rw [k_phi_eq h1]
  subst h5 h6
  exact ⟨by rw [e3, e4]; exact h9, rfl, h7⟩
theorem e_pzK {w w' : eW} (h : ∀ c k, Kc c k → w' c k = w c k) : e_pz Kc w' = e_pz Kc w := e_pz_eq h
/-- the same, but for places outside the cells -/
def Kq (c k : Int) : Prop := (0 ≤ c ∧ c ≤ 274) ∧ (¬ kNh c k ∨ (kTy c k).1 = (kTy c k).2)
theorem kCy_q {c k : Int} (h : (kCy c k).1 ≤ (kCy c k).2) : Kq c k := by
  have hr := (kCy_le h).1.1
  unfold kCy at h
  by_cases q : ¬ kNh c k ∨ (kTy c k).1 = (kTy c k).2
  · exact ⟨hr, q⟩
  · rw [if_neg q] at h
    exact absurd h (by decide)
theorem Kq.of {w v : eW} (f : e_fr kNh w v) (hT : e_Has kTy w) (hT' : e_Has kTy v) : ∀ c k, Kq c k → v c k = w c k := fun c k q => by
  rcases q.2 with q | q
  · exact f c k q
  · have h1 := hT c k (by omega)
    have h2 := hT' c k (by omega)
    omega
end
