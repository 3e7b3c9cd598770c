noncomputable section
/-! the whole text: before its first routine, and behind each -/
theorem GB.zero (w : eW) (N : Int) : GB w N 0 0 0 0 (fun _ => False) (-1) (fun _ => False) 0 :=
  ⟨⟨⟨fun p h1 h2 => by omega, fun m h1 h2 => by omega, fun p h1 h2 => by omega⟩, fun p h1 h2 => by omega, fun t h1 h2 => by omega, fun v h1 h2 => by omega, fun m h1 h2 => by omega, by decide, ⟨fun r h1 h2 => by rw [show r = -1 by omega, piR_neg]; decide, by rw [piR_neg]; decide⟩, fun v z => z.elim, fun z => by omega, fun _ => trivial, fun m h1 h2 => by omega⟩, dp_zero w, fun q _ p h1 h2 => by omega⟩
/-- only variables are told -/
def GV (w : eW) (N n mm nt nw : Int) (P : Int → Prop) (s : Int) (OW : Int → Prop) (o : Int) : Prop := GB w N n mm nt nw P s OW o ∧ ∀ m, 0 ≤ m → m < mm → w 341 m = 0
theorem GV.pr {w w' : eW} {N n mm nt nw s o : Int} {P OW : Int → Prop} (h : GV w N n mm nt nw P s OW o) (e : prE w w') : GV w' N n mm nt nw P s OW o := ⟨h.1.pr e, fun m m1 m2 => by rw [e 341 m (by omega)]; exact h.2 m m1 m2⟩
theorem GV.note {w w' : eW} {N n mm nt nw s o : Int} {P OW : Int → Prop} (h : GV w N n mm nt nw P s OW o) (ho : NO w w' mm) (hv : nmO w' N n mm) (h1 : w' 341 mm = 0) : GV w' N n (mm + 1) nt nw P s OW o := ⟨h.1.note ho hv (Or.inl h1), fun m m1 m2 => by
  by_cases c : m = mm
  · rw [c]; exact h1
  · rw [ho 341 m (by omega)]; exact h.2 m m1 (by omega)⟩
theorem GV.re {w : eW} {N n mm nt nw s o n' mm' nt' nw' s' : Int} {P OW : Int → Prop} (h : GV w N n mm nt nw P s OW o) (e1 : n = n') (e2 : mm = mm') (e3 : nt = nt') (e4 : nw = nw') (e5 : s = s') : GV w N n' mm' nt' nw' P s' OW o := by
  subst e1 e2 e3 e4 e5
  exact h
/-- no routine yet, or one has just ended -/
def GX (w : eW) (N n mm nt nw : Int) (P : Int → Prop) (s : Int) (OW : Int → Prop) (o : Int) : Prop := (n = 0 ∧ nt = 0 ∧ nw = 0 ∧ GV w N n mm nt nw P s OW o) ∨ GZ w N n mm nt nw P s OW o
theorem GX.pr {w w' : eW} {N n mm nt nw s o : Int} {P OW : Int → Prop} (h : GX w N n mm nt nw P s OW o) (e : prE w w') : GX w' N n mm nt nw P s OW o := h.imp (fun y => ⟨y.1, y.2.1, y.2.2.1, y.2.2.2.pr e⟩) (fun y => y.pr e)
theorem GX.gb {w : eW} {N n mm nt nw s o : Int} {P OW : Int → Prop} (h : GX w N n mm nt nw P s OW o) : GB w N n mm nt nw P s OW o := h.elim (fun y => y.2.2.2.1) (fun y => y.gb)
theorem GX.re {w : eW} {N n mm nt nw s o n' mm' nt' nw' s' : Int} {P OW : Int → Prop} (h : GX w N n mm nt nw P s OW o) (e1 : n = n') (e2 : mm = mm') (e3 : nt = nt') (e4 : nw = nw') (e5 : s = s') : GX w N n' mm' nt' nw' P s' OW o := by
  subst e1 e2 e3 e4 e5
  exact h
end
