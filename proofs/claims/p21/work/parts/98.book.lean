noncomputable section
/-! calls that are written down: what they make of the cell is the same, live and again -/
def wE (w : eW) : Int := if w 275 5 = 0 then 0 else w 356 (w 275 5 - 1)
/-- of the book: how many rows, whether it is done again, where the last way ends -/
def bkE (w : eW) : Prop := (0 ≤ w 275 5 ∧ w 275 5 ≤ 2000) ∧ (w 275 6 = 0 ∨ w 275 6 = 1) ∧ (1 ≤ w 275 5 → 0 ≤ w 356 (w 275 5 - 1) ∧ w 356 (w 275 5 - 1) ≤ 200000)
theorem bkE.fr {w w' : eW} (h : bkE w) (h5 : w' 275 5 = w 275 5) (h6 : w' 275 6 = w 275 6) (hw : ∀ k, w' 356 k = w 356 k) : bkE w' ∧ wE w' = wE w := by
  unfold bkE wE
  rw [h5, h6, hw]
  exact ⟨h, rfl⟩
theorem c_423_u {d : Nat} (hd : 22 ≤ d) {w : eW} (hT : e_Has mTy w) (hB : bkE w) {x a b c : Int} (hN : w 275 6 = 0 → w 275 5 ≤ 1999) (hx : 0 ≤ x ∧ x ≤ 11) (hw10 : x = 10 → (0 ≤ a ∧ a ≤ 3) ∧ 0 ≤ w 276 (36 * a + 19) ∧ ∀ i, 0 ≤ i → i ≤ w 276 (36 * a + 19) - 1 → -2147483648 ≤ w 353 i ∧ w 353 i ≤ 2147483647) :
    e_Ok 20 elay ecode eI d 423 (0, [(0, (1, 275)), (1, (0, x)), (2, (0, a)), (3, (0, b)), (4, (0, c))], [], w) (fun r w' => r = [] ∧ ((w 275 6 = 1 ∧ w = w') ∨ (w 275 6 = 0 ∧ wrR w w' (w 275 5) (wE w) x a b c))) := by
  obtain ⟨h1, h2, h3⟩ := hB
  rcases h2 with h2 | h2
  · refine (c_423 hd hT (R := w 275 5) (E := wE w) rfl ⟨h1.1, hN h2⟩ h2 (fun e => by unfold wE; rw [if_pos e]) (fun e => by unfold wE; rw [if_neg (by omega)]) ?_ hx hw10).imp (fun r w' h => ⟨h.1, Or.inr ⟨h2, h.2⟩⟩)
    unfold wE
    split
    · omega
    · exact h3 (by omega)
  · exact (c_423_a hd hT h2).imp (fun r w' h => ⟨h.1, Or.inl ⟨h2, h.2⟩⟩)
theorem wr_K0 {R E c k : Int} (h : mWr R E c k) : ¬ K0 c k := by
  rcases h with ⟨rfl, rfl⟩ | (⟨rfl, -⟩ | ⟨rfl | rfl, -⟩) | ⟨rfl, -⟩ | ⟨rfl, -⟩
  all_goals exact (by decide : ¬ ((1 : Int) ≤ 0))
/-- the call x (a, b, c) was done, and the cell stands at s -/
def opS (w w' : eW) (G : Int → Gh) (x a b c : Int) (s : Int → Int) : Prop := (∀ k, w' 276 k = s k) ∧ mInv w' G ∧ ∃ wm, e_fr mTi w wm ∧ (∀ k, wm 276 k = s k) ∧ ((w 275 6 = 1 ∧ wm = w') ∨ (w 275 6 = 0 ∧ wrR wm w' (w 275 5) (wE w) x a b c))
theorem no_98_0 {k : Int} : ¬ mTi 356 k := by unfold mTi; omega
theorem opS.of {w wm w' : eW} {G : Int → Gh} {x a b c : Int} {s : Int → Int} (hF : e_fr mTi w wm) (hI : mInv wm G) (hs : ∀ k, wm 276 k = s k) (h : (wm 275 6 = 1 ∧ wm = w') ∨ (wm 275 6 = 0 ∧ wrR wm w' (wm 275 5) (wE wm) x a b c)) : opS w w' G x a b c s := by
  have e5 : wm 275 5 = w 275 5 := hF _ _ (by unfold mTi; omega)
  have e6 : wm 275 6 = w 275 6 := hF _ _ (by unfold mTi; omega)
  have eE : wE wm = wE w := by unfold wE; rw [e5, hF 356 _ no_98_0]
  rcases h with ⟨h1, rfl⟩ | ⟨h1, h2⟩
  · exact ⟨hs, hI, wm, hF, hs, Or.inl ⟨e6 ▸ h1, rfl⟩⟩
  · rw [e5, eE] at h2
    have hw := h2.2.2.1
    refine ⟨fun k => Eq.trans (hw 276 k (fun q => wr_K0 q (K0_now k))) (hs k), hI.low (fun c k q => hw c k (fun q1 => wr_K0 q1 q)), wm, hF, hs, Or.inr ⟨e6 ▸ h1, h2⟩⟩
/-- what a method makes of 'now' -/
def nowF (M : Nat) (l : eL) (w : eW) (k : Int) : Int := (e_phi M (0, l, [], e_pz K0 w)).2 276 k
theorem nowF_eq {M : Nat} {l : eL} {w u : eW} (hu : ∀ c k, K0 c k → u c k = w c k) : nowF M l u = nowF M l w := by
  funext k
  unfold nowF
  rw [e_pz_eq hu]
theorem e_Ok.detN {d M : Nat} {l : eL} {w : eW} {Q : eW → List eV → eW → Prop} (hn : (l.map Prod.fst).Nodup) (h : ∀ u, (∀ c k, K0 c k → u c k = w c k) → e_Ok 20 elay ecode eI d M (0, l, [], u) (Q u)) (hq : ∀ u r v, (∀ c k, K0 c k → u c k = w c k) → Q u r v → e_Has mTy v) : e_Ok 20 elay ecode eI d M (0, l, [], w) (fun r v => Q w r v ∧ (∀ k, v 276 k = nowF M l w k) ∧ r = (e_phi M (0, l, [], e_pz K0 w)).1) := by
  refine (e_Ok.det K0 hn h).imp (fun r v h => ?_)
  obtain ⟨h1, h2, h3, h4⟩ := h
  refine ⟨h1, fun k => h4 276 k ?_, h3⟩
  have := (hq _ _ _ (fun c k q => e_pz_in q) h2).now k
  unfold e_okz
  simp only [Bool.and_eq_true, decide_eq_true_eq]
  exact this
theorem d_323 {d : Nat} (hd : 23 ≤ d) {w : eW} (hT : e_Has mTy w) (hA : mAc w) {p v : Int} (hp : 0 ≤ p ∧ p ≤ 63) (hv : -2147483648 ≤ v ∧ v ≤ 2147483647) : e_Ok 20 elay ecode eI d 323 (0, [(0, (1, 275)), (1, (0, p)), (2, (0, v))], [], w) (fun r w' => (r = [] ∧ e_fr mO w w' ∧ e_Has mTy w') ∧ ∀ k, w' 276 k = nowF 323 [(0, (1, 275)), (1, (0, p)), (2, (0, v))] w k) :=
  (e_Ok.detN (l := [(0, (1, 275)), (1, (0, p)), (2, (0, v))]) (show ([0, 1, 2] : List Nat).Nodup by decide) (fun u hu => c_323 hd (hT.low hu) (mAc.fr' (S := fun c k => ¬ K0 c k) (fun k q => q (by exact (by decide : (-1 : Int) ≤ 63))) (fun c k q => hu c k (Classical.not_not.mp q)) hA) hp hv) (fun u r v hu q => q.2.2)).imp (fun r v h => ⟨h.1, h.2.1⟩)
end
