noncomputable section
/-! the readers in lockstep: expressions -/
theorem kM_w5 {kd nv ki wh : Int} (h : kM kd nv ki wh) (hk : 21 ≤ kd) : ki = 4 ∧ wh = kd - 21 := by
  unfold kM at h
  constructor <;> omega
theorem kM_w4 {kd nv ki wh : Int} (h : kM kd nv ki wh) (hk : ki = 4) : wh = kd - 21 ∧ 21 ≤ kd ∧ kd ≤ 53 := by
  unfold kM at h
  refine ⟨?_, ?_, ?_⟩ <;> omega
theorem kM_k0 {kd nv ki wh : Int} (h : kM kd nv ki wh) (hk : kd = 0) : ki = 0 := by
  unfold kM at h
  omega
theorem kM_1k {kd nv ki wh : Int} (h : kM kd nv ki wh) (hk : ki = 1) : kd = 1 := by
  unfold kM at h
  omega
theorem kM_k1 {kd nv ki wh : Int} (h : kM kd nv ki wh) (hk : kd = 1) : ki = 1 := by
  unfold kM at h
  omega
theorem kM_k2 {kd nv ki wh : Int} (h : kM kd nv ki wh) (hk : kd = 2) : ki = 2 := by
  unfold kM at h
  omega
theorem kM_k3 {kd nv ki wh : Int} (h : kM kd nv ki wh) (hk : kd = 3) : ki = 5 := by
  unfold kM at h
  omega
theorem mRw.upd {v v' : eW} {c k z : Int} (h : e_up v c k z = v') (hc : c = 275 → (78 ≤ k ∧ k ≤ 89) ∨ k = 94) (g : mRw v) : mRw v' := mRw.fr2 (S := fun a b => a = c ∧ b = k) (e_fr.up (e_fr.refl v) h ⟨rfl, rfl⟩) (fun k' q => by rw [q.2]; exact hc q.1.symm) g
theorem rpF.k {cd : Int} {w v w' : eW} (h : rpF w v) (hk : kq cd w w') : w' 1 1 ≠ 0 := by rw [(hk.2.2.2 h.1).1]; exact h.1
theorem emQ.z {cd : Int} {w w' : eW} {op od z : Int} (h : emQ w w' cd op od z) (hl : 0 ≤ w cd 0 ∧ w cd 0 ≤ 4000) : 0 ≤ z ∧ z ≤ 4000 := by
  rcases h with ⟨h1, -, h3, -⟩ | ⟨h1, -, h3⟩ <;> omega
theorem NR.v32 {N cd B : Int} {w v : eW} (h : NR N cd B w v) : w cd 2 ≤ 32 := by
  have t := h.2.1.1.1
  unfold minB at t
  omega
theorem cplQ.ce {w w' : eW} {n x y : Int} (h : cplQ w w' n x) (e : x = y) : cplQ w w' n y := e ▸ h
def st0 (N cd : Int) (w v : eW) : Prop := Rk N cd 0 w v ∧ NR N cd (w 1 6 + 0) w v ∧ CN cd (-1) w v ∧ (w 1 11 = v 275 83 ∧ 0 ≤ v 275 83 ∧ v 275 83 ≤ 30) ∧ (w 1 13 < 0 ↔ v 275 82 < 0) ∧ (0 ≤ w 1 12 ∧ w 1 12 ≤ w 1 11 ∧ w 1 13 ≤ 4000)
/-- likewise, where an expression begins (the class is already in its loop, the model is not) -/
def stE (N cd : Int) (w v : eW) : Prop := Rk N cd 0 w v ∧ NR N cd (w 1 6 + 0) w v ∧ CN cd (-1) w v ∧ (w 1 11 = v 275 83 ∧ 0 ≤ v 275 83 ∧ v 275 83 ≤ 30) ∧ True ∧ (0 ≤ w 1 12 ∧ w 1 12 ≤ w 1 11 ∧ w 1 13 ≤ 4000)
theorem hd1 {cd : Int} {w w' : eW} {op od z : Int} (h : emQ w w' cd op od z) : w' cd 0 < 4000 → w' cd 0 = z + 1 := fun g => by
  rcases h with ⟨h1, h2, h3, -⟩ | ⟨h1, h2, -⟩
  · omega
  · subst h2; omega
theorem hdn {cd : Int} {w w' : eW} {op od z z' k : Int} (p : w cd 0 < 4000 → w cd 0 = z + k) (h : emQ w w' cd op od z') : w' cd 0 < 4000 → w' cd 0 = z + (k + 1) ∧ z' = z + k := fun g => by
  rcases h with ⟨h1, h2, h3, -⟩ | ⟨h1, h2, -⟩
  · have := p h1
    omega
  · subst h2; omega
theorem hdf {cd : Int} {w w' : eW} {z k : Int} (p : w cd 0 < 4000 → w cd 0 = z + k) (e : w' cd 0 = w cd 0) : w' cd 0 < 4000 → w' cd 0 = z + k := fun g => by
  rw [e] at g ⊢
  exact p g
theorem plcQ.re {cd : Int} {w0 w : eW} {z z' op : Int} (p : plcQ cd w0 z op w) (h : w cd 0 < 4000 → z = z') : plcQ cd w0 z' op w := fun g => by
  rw [← h g]
  exact p g
section STN
variable {N cd s o b pz l m t ka : Int} {w v w1 v1 w2 v2 : eW}
theorem st.nums (h : st N cd w v w1 v1 s o b pz l m t ka) : (0 ≤ w1 1 6 ∧ w1 1 6 ≤ w1 1 7 ∧ w1 1 7 ≤ 4000 ∧ w 1 6 ≤ w1 1 6) ∧ (w1 1 11 = w 1 11 + o ∧ v1 275 83 = v 275 83 + o) ∧ (w1 1 13 = l ∧ v1 275 82 = m ∧ w1 1 12 = t) ∧ (0 ≤ w1 cd 0 ∧ w1 cd 0 ≤ 4000) ∧ (0 ≤ v1 275 80 ∧ v1 275 80 ≤ w1 1 6 + b) ∧ (0 ≤ v1 275 94 ∧ v1 275 94 ≤ w1 1 6 + b) ∧ (v1 275 86 = w1 1 6 ∧ v1 275 87 = w1 1 7) ∧ (0 ≤ w1 1 5 ∧ w1 1 5 ≤ 53) ∧ (w cd 0 ≤ w1 cd 0 ∧ w1 cd 0 - w cd 0 ≤ w1 1 6 - w 1 6 + s) := by
  obtain ⟨a1, a2, -, a4, a5, a6, -, -⟩ := h
  have k := a1.2.1.2.1
  have n := a1.1.1
  exact ⟨by omega, a4, a5, a1.2.2.2.2.2.1, a1.2.2.2.2.2.2, a2.1.1, by omega, e_Has.get a1.1.2.2.2.1 (c := 1) (k := 5) rfl (by decide), ⟨a6.1, a6.2.1⟩⟩
theorem st.nx (h : st N cd w v w1 v1 s o b pz l m t ka) : 0 ≤ w1 1 7 ∧ w1 1 7 ≤ N := by
  have k := h.1.2.1.2.1
  omega
theorem st.len0 (h : st N cd w v w1 v1 s o b pz l m t ka) : w1 1 6 + 0 ≤ w1 1 7 := by
  have k := h.1.2.1.2.1
  omega
theorem st.len1 (h : st N cd w v w1 v1 s o b pz l m t ka) (hk : w1 1 5 ≠ 0) : w1 1 6 + 1 ≤ w1 1 7 := by
  have k := h.1.2.1.2.1
  omega
theorem st.len2 (h : st N cd w v w1 v1 s o b pz l m t ka) (hk : 21 ≤ w1 1 5) : w1 1 6 + 2 ≤ w1 1 7 := h.1.2.2.1.1.2.2.1 hk
theorem st.num (h : st N cd w v w1 v1 s o b pz l m t ka) (hk : w1 1 5 = 2) : 0 ≤ w1 1 8 := (h.1.2.2.1.1.2.2.2.2 hk).1
theorem st.lenN (h : st N cd w v w1 v1 s o b pz l m t ka) (hk : w1 1 5 = 2) (hn : 10 ≤ w1 1 8) : w1 1 6 + 2 ≤ w1 1 7 := (h.1.2.2.1.1.2.2.2.2 hk).2 hn
theorem st.low (h : st N cd w v w1 v1 s o b pz l m t ka) {ka' : Int} (hk : ka' ≤ ka) : st N cd w v w1 v1 s o b pz l m t ka' := ⟨h.1, h.2.1, h.2.2.1, h.2.2.2.1, h.2.2.2.2.1, h.2.2.2.2.2.1, h.2.2.2.2.2.2.1, h.2.2.2.2.2.2.2.low hk⟩
theorem st.len3 (h : st N cd w v w1 v1 s o b pz l m t ka) (hk : w1 1 5 = 23 ∨ w1 1 5 = 41 ∨ w1 1 5 = 42) : w1 1 6 + 3 ≤ w1 1 7 := h.1.2.2.1.1.2.2.2.1 hk
theorem st.z (h : st N cd w v w1 v1 s o 0 (-1) l m t ka) (ho : w1 1 11 = v1 275 83 ∧ 0 ≤ v1 275 83 ∧ v1 275 83 ≤ 30) (hl : w1 1 13 < 0 ↔ v1 275 82 < 0) (ht : 0 ≤ w1 1 12 ∧ w1 1 12 ≤ w1 1 11 ∧ w1 1 13 ≤ 4000) : st0 N cd w1 v1 := ⟨h.1, h.2.1, h.2.2.1, ho, hl, ht⟩
theorem st.zE (h : st N cd w v w1 v1 s o 0 (-1) l m t ka) (ho : w1 1 11 = v1 275 83 ∧ 0 ≤ v1 275 83 ∧ v1 275 83 ≤ 30) (ht : 0 ≤ w1 1 12 ∧ w1 1 12 ≤ w1 1 11 ∧ w1 1 13 ≤ 4000) : stE N cd w1 v1 := ⟨h.1, h.2.1, h.2.2.1, ho, trivial, ht⟩
theorem stE.st (h : stE N cd w v) : st N cd w v w v 0 0 0 (-1) (w 1 13) (v 275 82) (w 1 12) ka := st.refl h.1 h.2.1 h.2.2.1
theorem st0.st (h : st0 N cd w v) : st N cd w v w v 0 0 0 (-1) (w 1 13) (v 275 82) (w 1 12) ka := st.refl h.1 h.2.1 h.2.2.1
theorem st.opn {x y : Int} (h : st N cd w v w1 v1 s o b pz l m t ka) (hw : e_up w1 1 11 x = w2) (hv : e_up v1 275 83 y = v2) (hx : x = w1 1 11 + 1 ∧ y = v1 275 83 + 1) : st N cd w v w2 v2 s (o + 1) b pz l m t ka := by
  have q := st.nums h
  refine st.gen h (e_fr.up (e_fr.refl w1) hw (by unfold kGs; omega)) (e_fr.up (e_fr.refl v1) hv (by unfold mGs; omega)) ?_ ?_ ?_ (Int.le_refl _)
  · subst hw hv
    rw [e_up_eq, e_up_eq]
    omega
  · subst hw hv
    rw [e_up_ne _ _ (Or.inr (by decide)), e_up_ne _ _ (Or.inr (by decide)), e_up_ne _ _ (Or.inr (by decide))]
    omega
  · subst hv
    rw [e_up_ne _ _ (Or.inr (by decide))]
    omega
end STN
def eP (a b k : Nat) : Prop := ∀ (N cd : Int) (d d' : Nat) (w v : eW) {r' : List eV} {v' : eW}, stE N cd w v → e_Rn 20 elay ecode eI d' b (0, [(0, (1, 275))], [], v) r' v' → e_Pn 20 elay kcode eI k d a (0, [(0, (1, 1))], [], w) (fun r w' => r = [] ∧ r' = [] ∧ ((st N cd w v w' v' 0 0 0 (-1) (w 1 13) (v 275 82) (w 1 12) 2 ∧ w 1 6 < w' 1 6) ∨ rpF w' v'))
def eEgL : List (Nat × Nat) := [(158, 339), (159, 340), (160, 342), (162, 343), (163, 344), (164, 346), (165, 345)]
def eEg (k : Nat) : Prop := ∀ a b, (a, b) ∈ eEgL → eP a b k
set_option maxHeartbeats 4000000 in
theorem e_158 {n : Nat} {N cd : Int} {w v : eW} (hz : stE N cd w v) (ihG : ∀ k, k < n → eEg k) {d d' : Nat} {r' : List eV} {v' : eW} (hM : e_Rn 20 elay ecode eI d' 339 (0, [(0, (1, 275))], [], v) r' v') : e_Pn 20 elay kcode eI n d 158 (0, [(0, (1, 1))], [], w) (fun r w' => r = [] ∧ r' = [] ∧ ((st N cd w v w' v' 0 0 0 (-1) (w 1 13) (v 275 82) (w 1 12) 2 ∧ w 1 6 < w' 1 6) ∨ rpF w' v')) := by
  have h0 := hz.st (ka := 2)
  have hm := hz.1.2.2.2.1.1.m
  have hn := hz.1.2.2.2.1.1.n
  have hzo := hz.2.2.2
  have q1 := st.nums h0
  refine e_Pn.run (t' := (1, [(0, (1, 1))], [(1, 1)], w)) kAlk 1 rfl ?_
  replace hM := hM.st (t' := (1, [(0, (1, 275))], [(1, 275)], v)) (fun _ _ q => e_Pn.run eAlk 1 rfl q)
  obtain ⟨dc2, r3, v4, hc5, hM⟩ := hM.ca rfl
  have uhc5 := hc5.pn (fun nq => uE_all nq 340 (by decide) _ _ h0.1.2.2.2.2.1)
  have z9 : stE N cd w v := st.zE h0 (by omega) (by omega)
  refine e_Pn.callB rfl (fun k9 hk9 d9 => e_Pn.and (ihG k9 (by omega) 159 340 (by decide) _ _ _ _ _ _ z9 hc5) (kE_all k9 159 (by decide) d9 _ _ h0.1.2.2.2.1)) (fun r6 w7 h8 => ?_)
  obtain ⟨⟨rfl, rfl, h8⟩, -, h8k⟩ := h8
  rcases h8.symm with h8 | ⟨h8, h8p⟩
  · skip
    replace hM : e_Rn 20 elay ecode eI d' 339 (4, [(0, (1, 275))], [], v4) r' v' := hM
    obtain ⟨rfl, m10⟩ := (e_Rn.le eAlk [0] rfl rfl hM).pn (fun nq => v_339_4 (uhc5.2.rf h0.1.2.2.2.2.1) _  v4 mq.r)
    show e_Pn 20 elay kcode eI n d 158 (4, [(0, (1, 1))], [], w7) _
    refine e_Pn.ord kAlk [0] rfl rfl ((v_158_4 (h8k.rf h0.1.2.2.2.1) _  w7 kq.r).imp (fun r12 w13 k11 => ?_))
    obtain ⟨rfl, k11⟩ := k11
    exact ⟨rfl, rfl, Or.inr (rpF.tail h8 k11 m10)⟩
  have s14 := st.re (l' := w 1 13) (m' := v 275 82) (t' := w 1 12) (st.tr h0 h8) (Int.le_refl _) rfl (by omega) (by omega) (by omega)
  have q15 := st.nums s14
  show e_Pn 20 elay kcode eI n d 158 (4, [(0, (1, 1))], [], w7) _
  replace hM : e_Rn 20 elay ecode eI d' 339 (4, [(0, (1, 275))], [], v4) r' v' := hM
  refine e_Pn.run (t' := (6, [(1, (0, 0)), (0, (1, 1))], [], w7)) kAlk 2 rfl ?_
  replace hM := hM.st (t' := (6, [(1, (0, (-1))), (0, (1, 275))], [], v4)) (fun _ _ q => e_Pn.run eAlk 2 rfl q)
  have hL16 : ∀ nn18 : Nat, nn18 ≤ n → ∀ (tl19 tl20 : eL) (y1 : Int) (y2 : Int) (wl22 vl23 : eW), st N cd w v wl22 vl23 0 0 0 (-1) (w 1 13) (v 275 82) (w 1 12) 2 ∧ (0 ≤ y1 ∧ y1 + 1 ≤ wl22 1 6) ∧ (w 1 6 < wl22 1 6) → e_Rn 20 elay ecode eI d' 339 (6, (0, (1, 275)) :: (1, (0, y2)) :: tl20, [], vl23) r' v' → e_Pn 20 elay kcode eI nn18 d 158 (6, (0, (1, 1)) :: (1, (0, y1)) :: tl19, [], wl22) (fun r w' => r = [] ∧ r' = [] ∧ ((st N cd w v w' v' 0 0 0 (-1) (w 1 13) (v 275 82) (w 1 12) 2 ∧ w 1 6 < w' 1 6) ∨ rpF w' v')) := by
    intro nn18
    induction nn18 with
    | zero => intro _ tl19 tl20 y1 y2 wl22 vl23 _ _; exact e_Pn.zero
    | succ nn18 ih17 =>
      intro hn tl19 tl20 y1 y2 wl22 vl23 hj21 hM
      obtain ⟨hj21, j24, j25⟩ := hj21
      have q26 := st.nums hj21
      refine e_Pn.runS (t' := (10, (0, (1, 1)) :: (1, (0, y1)) :: tl19, [(0, 4000), (0, y1)], wl22)) kAlk 1 rfl ?_
      refine e_Pn.if2 kAlk rfl (fun h27 => ?_) (fun h27 => ?_)
      · replace h27 : (y1 : Int) ≥ 4000 := h27
        exfalso; omega
      · replace h27 : (y1 : Int) < 4000 := by have q : ¬ ((y1 : Int) ≥ 4000) := h27; omega
        refine e_Pn.run (t' := (14, (0, (1, 1)) :: (1, (0, y1)) :: tl19, [(1, 1)], wl22)) kAlk 1 rfl ?_
        refine e_Pn.getf (z := wl22 1 5) kAlk rfl rfl rfl (fun b28 => ?_)
        refine e_Pn.run (t' := (19, (0, (1, 1)) :: (1, (0, y1)) :: tl19, [(0, 45), (0, wl22 1 5)], wl22)) kAlk 1 rfl ?_
        refine e_Pn.if2 kAlk rfl (fun h29 => ?_) (fun h29 => ?_)
        · replace h29 : (wl22 1 5 : Int) ≠ 45 := h29
          replace hM := hM.st (t' := (7, (0, (1, 275)) :: (1, (0, y2)) :: tl20, [(1, 275)], vl23)) (fun _ _ q => e_Pn.run eAlk 1 rfl q)
          obtain ⟨b30, hM⟩ := hM.of (fun _ _ q => e_Pn.getf (z := 0) eAlk rfl rfl hj21.1.2.1.1.2 q)
          rcases hM.or (fun _ _ q1 q2 => e_Pn.if1 eAlk rfl q1 q2) with ⟨h31, hM⟩ | ⟨h31, hM⟩
          · replace h31 : (0 : Int) ≠ 0 := h31
            exfalso; omega
          · replace h31 : (0 : Int) = 0 := by have q : ¬ ((0 : Int) ≠ 0) := h31; omega
            replace hM := hM.st (t' := (16, (0, (1, 275)) :: (1, (0, y2)) :: tl20, [(0, 24), (1, 275)], vl23)) (fun _ _ q => e_Pn.run eAlk 2 rfl q)
            obtain ⟨dc32, r33, v34, hc35, hM⟩ := hM.ca rfl
            obtain ⟨z36, rfl, rfl, z36q⟩ := hc35.pn (fun nq => l_332)
            replace z36q := isS (kM_key (k := 24) hj21.1.2.1.2.2.1 (by decide)) rfl rfl z36q
            obtain rfl : z36 = 0 := by omega
            clear z36q
            replace hM : e_Rn 20 elay ecode eI d' 339 (19, (0, (1, 275)) :: (1, (0, y2)) :: tl20, [(0, 0)], vl23) r' v' := hM
            rcases hM.or (fun _ _ q1 q2 => e_Pn.if1 eAlk rfl q1 q2) with ⟨h37, hM⟩ | ⟨h37, hM⟩
            · replace h37 : (0 : Int) = 0 := h37
              replace hM := hM.st (t' := (43, (0, (1, 275)) :: (1, (0, y2)) :: tl20, [(0, y2), (1, 275)], vl23)) (fun _ _ q => e_Pn.run eAlk 2 rfl q)
              obtain ⟨dc38, r39, v40, hc41, hM⟩ := hM.ca rfl
              obtain ⟨rfl, v40f⟩ := hc41.pn (fun nq => x_341 hj21.1.2.2.2.2.1)
              have v40m := mfr.rf v40f hj21.1.2.2.2.2.1
              replace hM : e_Rn 20 elay ecode eI d' 339 (46, (0, (1, 275)) :: (1, (0, y2)) :: tl20, [], v40) r' v' := hM
              have e44a : wl22 1 11 = wl22 1 11 := rfl
              have e44b : v40 275 83 = vl23 275 83 := (v40f 275 83 (by unfold mEm; omega))
              have e44c : wl22 1 13 = wl22 1 13 := rfl
              have e44d : v40 275 82 = vl23 275 82 := (v40f 275 82 (by unfold mEm; omega))
              have e44f : wl22 1 12 = wl22 1 12 := rfl
              have e44e : v40 275 80 = vl23 275 80 := (v40f 275 80 (by unfold mEm; omega))
              have s43 := st.gen (o' := 0) (l' := w 1 13) (m' := v 275 82) (t' := w 1 12) (b' := 0) hj21 (e_fr.refl wl22) (e_fr.trans (e_fr.refl vl23) (e_fr.mono v40f (fun c k q => by unfold mEm at q; unfold mGs; omega))) (by omega) (by omega) (by omega) (by omega)
              have q45 := st.nums s43
              obtain ⟨rfl, rfl⟩ := hM.re0 rfl
              refine e_Pn.ret0 rfl ?_
              exact ⟨rfl, rfl, Or.inl ⟨st.re s43 (by omega) (by omega) (by omega) (by omega) (by omega), by omega⟩⟩
            · replace h37 : (0 : Int) ≠ 0 := by have q : ¬ ((0 : Int) = 0) := h37; omega
              exfalso; omega
        · replace h29 : (wl22 1 5 : Int) = 45 := by have q : ¬ ((wl22 1 5 : Int) ≠ 45) := h29; omega
          refine e_Pn.run (t' := (23, (0, (1, 1)) :: (1, (0, y1)) :: tl19, [(1, 1)], wl22)) kAlk 1 rfl ?_
          refine e_Pn.getr (z := cd) kAlk rfl rfl hj21.1.2.2.2.1.2.1 (by omega) ?_
          refine e_Pn.run (t' := (29, (0, (1, 1)) :: (1, (0, y1)) :: tl19, [(0, 0), (0, 12), (1, cd)], wl22)) kAlk 2 rfl ?_
          refine e_Pn.callA rfl (fun nq dq => l_21 hj21.1.2.2.2.1 (op := 12) (od := 0) (by omega) (by omega) hj21.1.2.2.2.2.2.1) (fun r46 w47 h48 => ?_)
          obtain ⟨z49, rfl, w47f, w47q⟩ := h48
          have w47k := kRw.em hj21.1.2.2.2.1 w47f
          have w47l := (emQ.len w47q hj21.1.2.2.2.2.2.1).1
          have w47e : w47 1 5 = wl22 1 5 ∧ w47 1 6 = wl22 1 6 ∧ w47 1 8 = wl22 1 8 := ⟨w47f 1 5 (by unfold kEm; omega), w47f 1 6 (by unfold kEm; omega), w47f 1 8 (by unfold kEm; omega)⟩
          have s50 := st.em hj21 w47f w47q (by omega) (by unfold isCl3; omega)
          have ps50 := plcQ.mk hj21 w47q (by omega)
          have q51 := st.nums s50
          have z49r : 0 ≤ z49 ∧ z49 ≤ 4000 := emQ.z w47q hj21.1.2.2.2.2.2.1
          show e_Pn 20 elay kcode eI nn18 d 158 (32, (0, (1, 1)) :: (1, (0, y1)) :: tl19, [(0, z49)], w47) _
          refine e_Pn.run (t' := (34, (2, (0, z49)) :: (0, (1, 1)) :: (1, (0, y1)) :: List.filter (e_flt 0 2) tl19, [(1, 1)], w47)) kAlk 2 rfl ?_
          replace hM := hM.st (t' := (7, (0, (1, 275)) :: (1, (0, y2)) :: tl20, [(1, 275)], vl23)) (fun _ _ q => e_Pn.run eAlk 1 rfl q)
          obtain ⟨b52, hM⟩ := hM.of (fun _ _ q => e_Pn.getf (z := 0) eAlk rfl rfl hj21.1.2.1.1.2 q)
          rcases hM.or (fun _ _ q1 q2 => e_Pn.if1 eAlk rfl q1 q2) with ⟨h53, hM⟩ | ⟨h53, hM⟩
          · replace h53 : (0 : Int) ≠ 0 := h53
            exfalso; omega
          · replace h53 : (0 : Int) = 0 := by have q : ¬ ((0 : Int) ≠ 0) := h53; omega
            replace hM := hM.st (t' := (16, (0, (1, 275)) :: (1, (0, y2)) :: tl20, [(0, 24), (1, 275)], vl23)) (fun _ _ q => e_Pn.run eAlk 2 rfl q)
            obtain ⟨dc54, r55, v56, hc57, hM⟩ := hM.ca rfl
            obtain ⟨z58, rfl, rfl, z58q⟩ := hc57.pn (fun nq => l_332)
            replace z58q := isS (kM_key (k := 24) hj21.1.2.1.2.2.1 (by decide)) rfl rfl z58q
            obtain rfl : z58 = 1 := by omega
            clear z58q
            replace hM : e_Rn 20 elay ecode eI d' 339 (19, (0, (1, 275)) :: (1, (0, y2)) :: tl20, [(0, 1)], vl23) r' v' := hM
            rcases hM.or (fun _ _ q1 q2 => e_Pn.if1 eAlk rfl q1 q2) with ⟨h59, hM⟩ | ⟨h59, hM⟩
            · replace h59 : (1 : Int) = 0 := h59
              exfalso; omega
            · replace h59 : (1 : Int) ≠ 0 := by have q : ¬ ((1 : Int) = 0) := h59; omega
              replace hM := hM.st (t' := (26, (0, (1, 275)) :: (1, (0, y2)) :: tl20, [(0, y2), (0, 22), (1, 275)], vl23)) (fun _ _ q => e_Pn.run eAlk 3 rfl q)
              obtain ⟨dc60, r61, v62, hc63, hM⟩ := hM.ca rfl
              obtain ⟨⟨z64, rfl⟩, v62f⟩ := hc63.pn (fun nq => x_336 hj21.1.2.2.2.2.1)
              have v62m := mfr.rf v62f hj21.1.2.2.2.2.1
              replace hM : e_Rn 20 elay ecode eI d' 339 (29, (0, (1, 275)) :: (1, (0, y2)) :: tl20, [(0, z64)], v62) r' v' := hM
              replace hM := hM.st (t' := (31, (1, (0, z64)) :: (0, (1, 275)) :: List.filter (e_flt 0 1) tl20, [(1, 275)], v62)) (fun _ _ q => e_Pn.run eAlk 2 rfl q)
              have e66a : w47 1 11 = w47 1 11 := rfl
              have e66b : v62 275 83 = vl23 275 83 := (v62f 275 83 (by unfold mEm; omega))
              have e66c : w47 1 13 = w47 1 13 := rfl
              have e66d : v62 275 82 = vl23 275 82 := (v62f 275 82 (by unfold mEm; omega))
              have e66f : w47 1 12 = w47 1 12 := rfl
              have e66e : v62 275 80 = vl23 275 80 := (v62f 275 80 (by unfold mEm; omega))
              have s65 := st.gen (o' := 0) (l' := w 1 13) (m' := v 275 82) (t' := w 1 12) (b' := 0) s50 (e_fr.refl w47) (e_fr.trans (e_fr.refl vl23) (e_fr.mono v62f (fun c k q => by unfold mEm at q; unfold mGs; omega))) (by omega) (by omega) (by omega) (by omega)
              have q67 := st.nums s65
              obtain ⟨dc68, r69, v70, hc71, hM⟩ := hM.ca rfl
              refine e_Pn.callA rfl (fun nq dq => t_123b s65.1.1 s65.1.2.1.1 s65.1.2.1.2.1.2.1 (st.nx s65) (d' := dc68) hc71) (fun r72 w73 h74 => ?_)
              obtain ⟨rfl, rfl, h74⟩ := h74
              have s75 := st.ad (k := 2) s65 h74 (st.len2 s65 (by omega)) (by omega)
              have s75n := h74.2.2.2.1
              have s75m := st.len2 s65 (by omega)
              have q76 := st.nums s75
              show e_Pn 20 elay kcode eI nn18 d 158 (37, (2, (0, z49)) :: (0, (1, 1)) :: (1, (0, y1)) :: List.filter (e_flt 0 2) tl19, [], w73) _
              replace hM : e_Rn 20 elay ecode eI d' 339 (34, (1, (0, z64)) :: (0, (1, 275)) :: List.filter (e_flt 0 1) tl20, [], v70) r' v' := hM
              refine e_Pn.run (t' := (38, (2, (0, z49)) :: (0, (1, 1)) :: (1, (0, y1)) :: List.filter (e_flt 0 2) tl19, [(1, 1)], w73)) kAlk 1 rfl ?_
              replace hM := hM.st (t' := (35, (1, (0, z64)) :: (0, (1, 275)) :: List.filter (e_flt 0 1) tl20, [(1, 275)], v70)) (fun _ _ q => e_Pn.run eAlk 1 rfl q)
              obtain ⟨dc77, r78, v79, hc80, hM⟩ := hM.ca rfl
              have uhc80 := hc80.pn (fun nq => uE_all nq 340 (by decide) _ _ s75.1.2.2.2.2.1)
              have z84 : stE N cd w73 v70 := st.zE s75 (by omega) (by omega)
              refine e_Pn.callB rfl (fun k9 hk9 d9 => e_Pn.and (ihG k9 (by omega) 159 340 (by decide) _ _ _ _ _ _ z84 hc80) (kE_all k9 159 (by decide) d9 _ _ s75.1.2.2.2.1)) (fun r81 w82 h83 => ?_)
              obtain ⟨⟨rfl, rfl, h83⟩, -, h83k⟩ := h83
              rcases h83.symm with h83 | ⟨h83, h83p⟩
              · skip
                replace hM : e_Rn 20 elay ecode eI d' 339 (38, (1, (0, z64)) :: (0, (1, 275)) :: List.filter (e_flt 0 1) tl20, [], v79) r' v' := hM
                obtain ⟨rfl, m85⟩ := (e_Rn.le eAlk [0, 1] rfl rfl hM).pn (fun nq => v_339_38 (uhc80.2.rf s75.1.2.2.2.2.1) _ z64 v79 mq.r)
                show e_Pn 20 elay kcode eI nn18 d 158 (41, (2, (0, z49)) :: (0, (1, 1)) :: (1, (0, y1)) :: List.filter (e_flt 0 2) tl19, [], w82) _
                refine e_Pn.ord kAlk [0, 1, 2] rfl rfl ((v_158_41 (h83k.rf s75.1.2.2.2.1) _ y1 z49 w82 kq.r).imp (fun r87 w88 k86 => ?_))
                obtain ⟨rfl, k86⟩ := k86
                exact ⟨rfl, rfl, Or.inr (rpF.tail h83 k86 m85)⟩
              have s89 := st.re (l' := w 1 13) (m' := v 275 82) (t' := w 1 12) (st.tr s75 h83) (Int.le_refl _) rfl (by omega) (by omega) (by omega)
              have q90 := st.nums s89
              show e_Pn 20 elay kcode eI nn18 d 158 (41, (2, (0, z49)) :: (0, (1, 1)) :: (1, (0, y1)) :: List.filter (e_flt 0 2) tl19, [], w82) _
              replace hM : e_Rn 20 elay ecode eI d' 339 (38, (1, (0, z64)) :: (0, (1, 275)) :: List.filter (e_flt 0 1) tl20, [], v79) r' v' := hM
              refine e_Pn.run (t' := (42, (2, (0, z49)) :: (0, (1, 1)) :: (1, (0, y1)) :: List.filter (e_flt 0 2) tl19, [(1, 1)], w82)) kAlk 1 rfl ?_
              refine e_Pn.getr (z := cd) kAlk rfl rfl s89.1.2.2.2.1.2.1 (by omega) ?_
              refine e_Pn.run (t' := (48, (2, (0, z49)) :: (0, (1, 1)) :: (1, (0, y1)) :: List.filter (e_flt 0 2) tl19, [(0, 0), (0, 11), (1, cd)], w82)) kAlk 2 rfl ?_
              refine e_Pn.callA rfl (fun nq dq => l_21 s89.1.2.2.2.1 (op := 11) (od := 0) (by omega) (by omega) s89.1.2.2.2.2.2.1) (fun r91 w92 h93 => ?_)
              obtain ⟨z94, rfl, w92f, w92q⟩ := h93
              have w92k := kRw.em s89.1.2.2.2.1 w92f
              have w92l := (emQ.len w92q s89.1.2.2.2.2.2.1).1
              have w92e : w92 1 5 = w82 1 5 ∧ w92 1 6 = w82 1 6 ∧ w92 1 8 = w82 1 8 := ⟨w92f 1 5 (by unfold kEm; omega), w92f 1 6 (by unfold kEm; omega), w92f 1 8 (by unfold kEm; omega)⟩
              have s95 := st.em s89 w92f w92q (by omega) (by unfold isCl3; omega)
              have q96 := st.nums s95
              have z94r : 0 ≤ z94 ∧ z94 ≤ 4000 := emQ.z w92q s89.1.2.2.2.2.2.1
              show e_Pn 20 elay kcode eI nn18 d 158 (51, (2, (0, z49)) :: (0, (1, 1)) :: (1, (0, y1)) :: List.filter (e_flt 0 2) tl19, [(0, z94)], w92) _
              refine e_Pn.run (t' := (53, (2, (0, z49)) :: (0, (1, 1)) :: (1, (0, y1)) :: List.filter (e_flt 0 2) tl19, [(1, 1)], w92)) kAlk 2 rfl ?_
              refine e_Pn.getr (z := cd) kAlk rfl rfl ((w92f 1 3 (by unfold kEm; omega)).trans s89.1.2.2.2.1.2.1) (by omega) ?_
              refine e_Pn.run (t' := (58, (2, (0, z49)) :: (0, (1, 1)) :: (1, (0, y1)) :: List.filter (e_flt 0 2) tl19, [(1, 1), (0, z49), (1, cd)], w92)) kAlk 2 rfl ?_
              refine e_Pn.getr (z := cd) kAlk rfl rfl ((w92f 1 3 (by unfold kEm; omega)).trans s89.1.2.2.2.1.2.1) (by omega) ?_
              refine e_Pn.getf (z := w92 cd 0) kAlk rfl rfl rfl (fun b97 => ?_)
              refine e_Pn.callA rfl (fun nq dq => l_22 w92k (x := z49) (od := w92 cd 0) (by omega)) (fun r98 w99 h100 => ?_)
              obtain ⟨rfl, w99f, w99q⟩ := h100
              have w99k := kRw.em w92k (w99f.mono (fun _ _ q => Or.inr q))
              have w99l : 0 ≤ w99 cd 0 ∧ w99 cd 0 ≤ 4000 := by rw [w99f cd 0 (by unfold kPa; omega)]; exact w92l
              have w99e : w99 1 5 = w92 1 5 ∧ w99 1 6 = w92 1 6 ∧ w99 1 8 = w92 1 8 := ⟨w99f 1 5 (by unfold kPa; omega), w99f 1 6 (by unfold kPa; omega), w99f 1 8 (by unfold kPa; omega)⟩
              have pl102 := plcQ.fr ps50 (h74.2.2.2.2.1 cd 0 (by unfold kRa; omega)) (fun i => h74.2.2.2.2.1 (cd + 2) i (by unfold kRa; omega))
              have pl103 := plcQ.st pl102 h83
              have pl104 := plcQ.em pl103 w92q
              have s101 := st.pa s95 w99f w99q pl104 (by unfold isCl3; omega)
              have q105 := st.nums s101
              show e_Pn 20 elay kcode eI nn18 d 158 (67, (2, (0, z49)) :: (0, (1, 1)) :: (1, (0, y1)) :: List.filter (e_flt 0 2) tl19, [], w99) _
              refine e_Pn.inc (z := y1 + 1) kAlk rfl rfl (by omega) (by omega) ?_
              show e_Pn 20 elay kcode eI nn18 d 158 (70, (1, (0, y1 + 1)) :: (2, (0, z49)) :: (0, (1, 1)) :: List.filter (e_flt 0 1) (List.filter (e_flt 0 2) tl19), [], w99) _
              refine e_Pn.run (t' := (6, (1, (0, y1 + 1)) :: (2, (0, z49)) :: (0, (1, 1)) :: List.filter (e_flt 0 1) (List.filter (e_flt 0 2) tl19), [], w99)) kAlk 1 rfl ?_
              replace hM := hM.st (t' := (6, (1, (0, z64)) :: (0, (1, 275)) :: List.filter (e_flt 0 1) tl20, [], v79)) (fun _ _ q => e_Pn.run eAlk 1 rfl q)
              exact e_Pn.ord kAlk [0, 1] rfl rfl (ih17 (by omega) _ _ (y1 + 1) z64 w99 v79 ⟨(st.re s101 (by omega) (by omega) (by omega) (by omega) (by omega)), (by omega), (by omega)⟩ (e_Rn.le eAlk [0, 1] rfl rfl hM))
  exact e_Pn.ord kAlk [0, 1] rfl rfl (hL16 n (Nat.le_refl _) _ _ 0 (-1) w7 v4 ⟨(st.re s14 (by omega) (by omega) (by omega) (by omega) (by omega)), (by omega), (by omega)⟩ (e_Rn.le eAlk [0, 1] rfl rfl hM))
set_option maxHeartbeats 4000000 in
theorem e_159 {n : Nat} {N cd : Int} {w v : eW} (hz : stE N cd w v) (ihG : ∀ k, k < n → eEg k) {d d' : Nat} {r' : List eV} {v' : eW} (hM : e_Rn 20 elay ecode eI d' 340 (0, [(0, (1, 275))], [], v) r' v') : e_Pn 20 elay kcode eI n d 159 (0, [(0, (1, 1))], [], w) (fun r w' => r = [] ∧ r' = [] ∧ ((st N cd w v w' v' 0 0 0 (-1) (w 1 13) (v 275 82) (w 1 12) 2 ∧ w 1 6 < w' 1 6) ∨ rpF w' v')) := by
  have h0 := hz.st (ka := 2)
  have hm := hz.1.2.2.2.1.1.m
  have hn := hz.1.2.2.2.1.1.n
  have hzo := hz.2.2.2
  have q1 := st.nums h0
  refine e_Pn.run (t' := (1, [(0, (1, 1))], [(1, 1)], w)) kAlk 1 rfl ?_
  replace hM := hM.st (t' := (1, [(0, (1, 275))], [(1, 275)], v)) (fun _ _ q => e_Pn.run eAlk 1 rfl q)
  obtain ⟨dc2, r3, v4, hc5, hM⟩ := hM.ca rfl
  have uhc5 := hc5.pn (fun nq => uE_all nq 342 (by decide) _ _ h0.1.2.2.2.2.1)
  have z9 : stE N cd w v := st.zE h0 (by omega) (by omega)
  refine e_Pn.callB rfl (fun k9 hk9 d9 => e_Pn.and (ihG k9 (by omega) 160 342 (by decide) _ _ _ _ _ _ z9 hc5) (kE_all k9 160 (by decide) d9 _ _ h0.1.2.2.2.1)) (fun r6 w7 h8 => ?_)
  obtain ⟨⟨rfl, rfl, h8⟩, -, h8k⟩ := h8
  rcases h8.symm with h8 | ⟨h8, h8p⟩
  · skip
    replace hM : e_Rn 20 elay ecode eI d' 340 (4, [(0, (1, 275))], [], v4) r' v' := hM
    obtain ⟨rfl, m10⟩ := (e_Rn.le eAlk [0] rfl rfl hM).pn (fun nq => v_340_4 (uhc5.2.rf h0.1.2.2.2.2.1) _  v4 mq.r)
    show e_Pn 20 elay kcode eI n d 159 (4, [(0, (1, 1))], [], w7) _
    refine e_Pn.ord kAlk [0] rfl rfl ((v_159_4 (h8k.rf h0.1.2.2.2.1) _  w7 kq.r).imp (fun r12 w13 k11 => ?_))
    obtain ⟨rfl, k11⟩ := k11
    exact ⟨rfl, rfl, Or.inr (rpF.tail h8 k11 m10)⟩
  have s14 := st.re (l' := w 1 13) (m' := v 275 82) (t' := w 1 12) (st.tr h0 h8) (Int.le_refl _) rfl (by omega) (by omega) (by omega)
  have q15 := st.nums s14
  show e_Pn 20 elay kcode eI n d 159 (4, [(0, (1, 1))], [], w7) _
  replace hM : e_Rn 20 elay ecode eI d' 340 (4, [(0, (1, 275))], [], v4) r' v' := hM
  refine e_Pn.run (t' := (6, [(1, (0, 0)), (0, (1, 1))], [], w7)) kAlk 2 rfl ?_
  replace hM := hM.st (t' := (6, [(1, (0, (-1))), (0, (1, 275))], [], v4)) (fun _ _ q => e_Pn.run eAlk 2 rfl q)
  have hL16 : ∀ nn18 : Nat, nn18 ≤ n → ∀ (tl19 tl20 : eL) (y1 : Int) (y2 : Int) (wl22 vl23 : eW), st N cd w v wl22 vl23 0 0 0 (-1) (w 1 13) (v 275 82) (w 1 12) 2 ∧ (0 ≤ y1 ∧ y1 + 1 ≤ wl22 1 6) ∧ (w 1 6 < wl22 1 6) → e_Rn 20 elay ecode eI d' 340 (6, (0, (1, 275)) :: (1, (0, y2)) :: tl20, [], vl23) r' v' → e_Pn 20 elay kcode eI nn18 d 159 (6, (0, (1, 1)) :: (1, (0, y1)) :: tl19, [], wl22) (fun r w' => r = [] ∧ r' = [] ∧ ((st N cd w v w' v' 0 0 0 (-1) (w 1 13) (v 275 82) (w 1 12) 2 ∧ w 1 6 < w' 1 6) ∨ rpF w' v')) := by
    intro nn18
    induction nn18 with
    | zero => intro _ tl19 tl20 y1 y2 wl22 vl23 _ _; exact e_Pn.zero
    | succ nn18 ih17 =>
      intro hn tl19 tl20 y1 y2 wl22 vl23 hj21 hM
      obtain ⟨hj21, j24, j25⟩ := hj21
      have q26 := st.nums hj21
      refine e_Pn.runS (t' := (10, (0, (1, 1)) :: (1, (0, y1)) :: tl19, [(0, 4000), (0, y1)], wl22)) kAlk 1 rfl ?_
      refine e_Pn.if2 kAlk rfl (fun h27 => ?_) (fun h27 => ?_)
      · replace h27 : (y1 : Int) ≥ 4000 := h27
        exfalso; omega
      · replace h27 : (y1 : Int) < 4000 := by have q : ¬ ((y1 : Int) ≥ 4000) := h27; omega
        refine e_Pn.run (t' := (14, (0, (1, 1)) :: (1, (0, y1)) :: tl19, [(1, 1)], wl22)) kAlk 1 rfl ?_
        refine e_Pn.getf (z := wl22 1 5) kAlk rfl rfl rfl (fun b28 => ?_)
        refine e_Pn.run (t' := (19, (0, (1, 1)) :: (1, (0, y1)) :: tl19, [(0, 46), (0, wl22 1 5)], wl22)) kAlk 1 rfl ?_
        refine e_Pn.if2 kAlk rfl (fun h29 => ?_) (fun h29 => ?_)
        · replace h29 : (wl22 1 5 : Int) ≠ 46 := h29
          replace hM := hM.st (t' := (7, (0, (1, 275)) :: (1, (0, y2)) :: tl20, [(1, 275)], vl23)) (fun _ _ q => e_Pn.run eAlk 1 rfl q)
          obtain ⟨b30, hM⟩ := hM.of (fun _ _ q => e_Pn.getf (z := 0) eAlk rfl rfl hj21.1.2.1.1.2 q)
          rcases hM.or (fun _ _ q1 q2 => e_Pn.if1 eAlk rfl q1 q2) with ⟨h31, hM⟩ | ⟨h31, hM⟩
          · replace h31 : (0 : Int) ≠ 0 := h31
            exfalso; omega
          · replace h31 : (0 : Int) = 0 := by have q : ¬ ((0 : Int) ≠ 0) := h31; omega
            replace hM := hM.st (t' := (16, (0, (1, 275)) :: (1, (0, y2)) :: tl20, [(0, 25), (1, 275)], vl23)) (fun _ _ q => e_Pn.run eAlk 2 rfl q)
            obtain ⟨dc32, r33, v34, hc35, hM⟩ := hM.ca rfl
            obtain ⟨z36, rfl, rfl, z36q⟩ := hc35.pn (fun nq => l_332)
            replace z36q := isS (kM_key (k := 25) hj21.1.2.1.2.2.1 (by decide)) rfl rfl z36q
            obtain rfl : z36 = 0 := by omega
            clear z36q
            replace hM : e_Rn 20 elay ecode eI d' 340 (19, (0, (1, 275)) :: (1, (0, y2)) :: tl20, [(0, 0)], vl23) r' v' := hM
            rcases hM.or (fun _ _ q1 q2 => e_Pn.if1 eAlk rfl q1 q2) with ⟨h37, hM⟩ | ⟨h37, hM⟩
            · replace h37 : (0 : Int) = 0 := h37
              replace hM := hM.st (t' := (43, (0, (1, 275)) :: (1, (0, y2)) :: tl20, [(0, y2), (1, 275)], vl23)) (fun _ _ q => e_Pn.run eAlk 2 rfl q)
              obtain ⟨dc38, r39, v40, hc41, hM⟩ := hM.ca rfl
              obtain ⟨rfl, v40f⟩ := hc41.pn (fun nq => x_341 hj21.1.2.2.2.2.1)
              have v40m := mfr.rf v40f hj21.1.2.2.2.2.1
              replace hM : e_Rn 20 elay ecode eI d' 340 (46, (0, (1, 275)) :: (1, (0, y2)) :: tl20, [], v40) r' v' := hM
              have e44a : wl22 1 11 = wl22 1 11 := rfl
              have e44b : v40 275 83 = vl23 275 83 := (v40f 275 83 (by unfold mEm; omega))
              have e44c : wl22 1 13 = wl22 1 13 := rfl
              have e44d : v40 275 82 = vl23 275 82 := (v40f 275 82 (by unfold mEm; omega))
              have e44f : wl22 1 12 = wl22 1 12 := rfl
              have e44e : v40 275 80 = vl23 275 80 := (v40f 275 80 (by unfold mEm; omega))
              have s43 := st.gen (o' := 0) (l' := w 1 13) (m' := v 275 82) (t' := w 1 12) (b' := 0) hj21 (e_fr.refl wl22) (e_fr.trans (e_fr.refl vl23) (e_fr.mono v40f (fun c k q => by unfold mEm at q; unfold mGs; omega))) (by omega) (by omega) (by omega) (by omega)
              have q45 := st.nums s43
              obtain ⟨rfl, rfl⟩ := hM.re0 rfl
              refine e_Pn.ret0 rfl ?_
              exact ⟨rfl, rfl, Or.inl ⟨st.re s43 (by omega) (by omega) (by omega) (by omega) (by omega), by omega⟩⟩
            · replace h37 : (0 : Int) ≠ 0 := by have q : ¬ ((0 : Int) = 0) := h37; omega
              exfalso; omega
        · replace h29 : (wl22 1 5 : Int) = 46 := by have q : ¬ ((wl22 1 5 : Int) ≠ 46) := h29; omega
          refine e_Pn.run (t' := (23, (0, (1, 1)) :: (1, (0, y1)) :: tl19, [(1, 1)], wl22)) kAlk 1 rfl ?_
          refine e_Pn.getr (z := cd) kAlk rfl rfl hj21.1.2.2.2.1.2.1 (by omega) ?_
          refine e_Pn.run (t' := (29, (0, (1, 1)) :: (1, (0, y1)) :: tl19, [(0, 0), (0, 13), (1, cd)], wl22)) kAlk 2 rfl ?_
          refine e_Pn.callA rfl (fun nq dq => l_21 hj21.1.2.2.2.1 (op := 13) (od := 0) (by omega) (by omega) hj21.1.2.2.2.2.2.1) (fun r46 w47 h48 => ?_)
          obtain ⟨z49, rfl, w47f, w47q⟩ := h48
          have w47k := kRw.em hj21.1.2.2.2.1 w47f
          have w47l := (emQ.len w47q hj21.1.2.2.2.2.2.1).1
          have w47e : w47 1 5 = wl22 1 5 ∧ w47 1 6 = wl22 1 6 ∧ w47 1 8 = wl22 1 8 := ⟨w47f 1 5 (by unfold kEm; omega), w47f 1 6 (by unfold kEm; omega), w47f 1 8 (by unfold kEm; omega)⟩
          have s50 := st.em hj21 w47f w47q (by omega) (by unfold isCl3; omega)
          have ps50 := plcQ.mk hj21 w47q (by omega)
          have q51 := st.nums s50
          have z49r : 0 ≤ z49 ∧ z49 ≤ 4000 := emQ.z w47q hj21.1.2.2.2.2.2.1
          show e_Pn 20 elay kcode eI nn18 d 159 (32, (0, (1, 1)) :: (1, (0, y1)) :: tl19, [(0, z49)], w47) _
          refine e_Pn.run (t' := (34, (2, (0, z49)) :: (0, (1, 1)) :: (1, (0, y1)) :: List.filter (e_flt 0 2) tl19, [(1, 1)], w47)) kAlk 2 rfl ?_
          replace hM := hM.st (t' := (7, (0, (1, 275)) :: (1, (0, y2)) :: tl20, [(1, 275)], vl23)) (fun _ _ q => e_Pn.run eAlk 1 rfl q)
          obtain ⟨b52, hM⟩ := hM.of (fun _ _ q => e_Pn.getf (z := 0) eAlk rfl rfl hj21.1.2.1.1.2 q)
          rcases hM.or (fun _ _ q1 q2 => e_Pn.if1 eAlk rfl q1 q2) with ⟨h53, hM⟩ | ⟨h53, hM⟩
          · replace h53 : (0 : Int) ≠ 0 := h53
            exfalso; omega
          · replace h53 : (0 : Int) = 0 := by have q : ¬ ((0 : Int) ≠ 0) := h53; omega
            replace hM := hM.st (t' := (16, (0, (1, 275)) :: (1, (0, y2)) :: tl20, [(0, 25), (1, 275)], vl23)) (fun _ _ q => e_Pn.run eAlk 2 rfl q)
            obtain ⟨dc54, r55, v56, hc57, hM⟩ := hM.ca rfl
            obtain ⟨z58, rfl, rfl, z58q⟩ := hc57.pn (fun nq => l_332)
            replace z58q := isS (kM_key (k := 25) hj21.1.2.1.2.2.1 (by decide)) rfl rfl z58q
            obtain rfl : z58 = 1 := by omega
            clear z58q
            replace hM : e_Rn 20 elay ecode eI d' 340 (19, (0, (1, 275)) :: (1, (0, y2)) :: tl20, [(0, 1)], vl23) r' v' := hM
            rcases hM.or (fun _ _ q1 q2 => e_Pn.if1 eAlk rfl q1 q2) with ⟨h59, hM⟩ | ⟨h59, hM⟩
            · replace h59 : (1 : Int) = 0 := h59
              exfalso; omega
            · replace h59 : (1 : Int) ≠ 0 := by have q : ¬ ((1 : Int) = 0) := h59; omega
              replace hM := hM.st (t' := (26, (0, (1, 275)) :: (1, (0, y2)) :: tl20, [(0, y2), (0, 23), (1, 275)], vl23)) (fun _ _ q => e_Pn.run eAlk 3 rfl q)
              obtain ⟨dc60, r61, v62, hc63, hM⟩ := hM.ca rfl
              obtain ⟨⟨z64, rfl⟩, v62f⟩ := hc63.pn (fun nq => x_336 hj21.1.2.2.2.2.1)
              have v62m := mfr.rf v62f hj21.1.2.2.2.2.1
              replace hM : e_Rn 20 elay ecode eI d' 340 (29, (0, (1, 275)) :: (1, (0, y2)) :: tl20, [(0, z64)], v62) r' v' := hM
              replace hM := hM.st (t' := (31, (1, (0, z64)) :: (0, (1, 275)) :: List.filter (e_flt 0 1) tl20, [(1, 275)], v62)) (fun _ _ q => e_Pn.run eAlk 2 rfl q)
              have e66a : w47 1 11 = w47 1 11 := rfl
              have e66b : v62 275 83 = vl23 275 83 := (v62f 275 83 (by unfold mEm; omega))
              have e66c : w47 1 13 = w47 1 13 := rfl
              have e66d : v62 275 82 = vl23 275 82 := (v62f 275 82 (by unfold mEm; omega))
              have e66f : w47 1 12 = w47 1 12 := rfl
              have e66e : v62 275 80 = vl23 275 80 := (v62f 275 80 (by unfold mEm; omega))
              have s65 := st.gen (o' := 0) (l' := w 1 13) (m' := v 275 82) (t' := w 1 12) (b' := 0) s50 (e_fr.refl w47) (e_fr.trans (e_fr.refl vl23) (e_fr.mono v62f (fun c k q => by unfold mEm at q; unfold mGs; omega))) (by omega) (by omega) (by omega) (by omega)
              have q67 := st.nums s65
              obtain ⟨dc68, r69, v70, hc71, hM⟩ := hM.ca rfl
              refine e_Pn.callA rfl (fun nq dq => t_123b s65.1.1 s65.1.2.1.1 s65.1.2.1.2.1.2.1 (st.nx s65) (d' := dc68) hc71) (fun r72 w73 h74 => ?_)
              obtain ⟨rfl, rfl, h74⟩ := h74
              have s75 := st.ad (k := 2) s65 h74 (st.len2 s65 (by omega)) (by omega)
              have s75n := h74.2.2.2.1
              have s75m := st.len2 s65 (by omega)
              have q76 := st.nums s75
              show e_Pn 20 elay kcode eI nn18 d 159 (37, (2, (0, z49)) :: (0, (1, 1)) :: (1, (0, y1)) :: List.filter (e_flt 0 2) tl19, [], w73) _
              replace hM : e_Rn 20 elay ecode eI d' 340 (34, (1, (0, z64)) :: (0, (1, 275)) :: List.filter (e_flt 0 1) tl20, [], v70) r' v' := hM
              refine e_Pn.run (t' := (38, (2, (0, z49)) :: (0, (1, 1)) :: (1, (0, y1)) :: List.filter (e_flt 0 2) tl19, [(1, 1)], w73)) kAlk 1 rfl ?_
              replace hM := hM.st (t' := (35, (1, (0, z64)) :: (0, (1, 275)) :: List.filter (e_flt 0 1) tl20, [(1, 275)], v70)) (fun _ _ q => e_Pn.run eAlk 1 rfl q)
              obtain ⟨dc77, r78, v79, hc80, hM⟩ := hM.ca rfl
              have uhc80 := hc80.pn (fun nq => uE_all nq 342 (by decide) _ _ s75.1.2.2.2.2.1)
              have z84 : stE N cd w73 v70 := st.zE s75 (by omega) (by omega)
              refine e_Pn.callB rfl (fun k9 hk9 d9 => e_Pn.and (ihG k9 (by omega) 160 342 (by decide) _ _ _ _ _ _ z84 hc80) (kE_all k9 160 (by decide) d9 _ _ s75.1.2.2.2.1)) (fun r81 w82 h83 => ?_)
              obtain ⟨⟨rfl, rfl, h83⟩, -, h83k⟩ := h83
              rcases h83.symm with h83 | ⟨h83, h83p⟩
              · skip
                replace hM : e_Rn 20 elay ecode eI d' 340 (38, (1, (0, z64)) :: (0, (1, 275)) :: List.filter (e_flt 0 1) tl20, [], v79) r' v' := hM
                obtain ⟨rfl, m85⟩ := (e_Rn.le eAlk [0, 1] rfl rfl hM).pn (fun nq => v_340_38 (uhc80.2.rf s75.1.2.2.2.2.1) _ z64 v79 mq.r)
                show e_Pn 20 elay kcode eI nn18 d 159 (41, (2, (0, z49)) :: (0, (1, 1)) :: (1, (0, y1)) :: List.filter (e_flt 0 2) tl19, [], w82) _
                refine e_Pn.ord kAlk [0, 1, 2] rfl rfl ((v_159_41 (h83k.rf s75.1.2.2.2.1) _ y1 z49 w82 kq.r).imp (fun r87 w88 k86 => ?_))
                obtain ⟨rfl, k86⟩ := k86
                exact ⟨rfl, rfl, Or.inr (rpF.tail h83 k86 m85)⟩
              have s89 := st.re (l' := w 1 13) (m' := v 275 82) (t' := w 1 12) (st.tr s75 h83) (Int.le_refl _) rfl (by omega) (by omega) (by omega)
              have q90 := st.nums s89
              show e_Pn 20 elay kcode eI nn18 d 159 (41, (2, (0, z49)) :: (0, (1, 1)) :: (1, (0, y1)) :: List.filter (e_flt 0 2) tl19, [], w82) _
              replace hM : e_Rn 20 elay ecode eI d' 340 (38, (1, (0, z64)) :: (0, (1, 275)) :: List.filter (e_flt 0 1) tl20, [], v79) r' v' := hM
              refine e_Pn.run (t' := (42, (2, (0, z49)) :: (0, (1, 1)) :: (1, (0, y1)) :: List.filter (e_flt 0 2) tl19, [(1, 1)], w82)) kAlk 1 rfl ?_
              refine e_Pn.getr (z := cd) kAlk rfl rfl s89.1.2.2.2.1.2.1 (by omega) ?_
              refine e_Pn.run (t' := (48, (2, (0, z49)) :: (0, (1, 1)) :: (1, (0, y1)) :: List.filter (e_flt 0 2) tl19, [(0, 0), (0, 11), (1, cd)], w82)) kAlk 2 rfl ?_
              refine e_Pn.callA rfl (fun nq dq => l_21 s89.1.2.2.2.1 (op := 11) (od := 0) (by omega) (by omega) s89.1.2.2.2.2.2.1) (fun r91 w92 h93 => ?_)
              obtain ⟨z94, rfl, w92f, w92q⟩ := h93
              have w92k := kRw.em s89.1.2.2.2.1 w92f
              have w92l := (emQ.len w92q s89.1.2.2.2.2.2.1).1
              have w92e : w92 1 5 = w82 1 5 ∧ w92 1 6 = w82 1 6 ∧ w92 1 8 = w82 1 8 := ⟨w92f 1 5 (by unfold kEm; omega), w92f 1 6 (by unfold kEm; omega), w92f 1 8 (by unfold kEm; omega)⟩
              have s95 := st.em s89 w92f w92q (by omega) (by unfold isCl3; omega)
              have q96 := st.nums s95
              have z94r : 0 ≤ z94 ∧ z94 ≤ 4000 := emQ.z w92q s89.1.2.2.2.2.2.1
              show e_Pn 20 elay kcode eI nn18 d 159 (51, (2, (0, z49)) :: (0, (1, 1)) :: (1, (0, y1)) :: List.filter (e_flt 0 2) tl19, [(0, z94)], w92) _
              refine e_Pn.run (t' := (53, (2, (0, z49)) :: (0, (1, 1)) :: (1, (0, y1)) :: List.filter (e_flt 0 2) tl19, [(1, 1)], w92)) kAlk 2 rfl ?_
              refine e_Pn.getr (z := cd) kAlk rfl rfl ((w92f 1 3 (by unfold kEm; omega)).trans s89.1.2.2.2.1.2.1) (by omega) ?_
              refine e_Pn.run (t' := (58, (2, (0, z49)) :: (0, (1, 1)) :: (1, (0, y1)) :: List.filter (e_flt 0 2) tl19, [(1, 1), (0, z49), (1, cd)], w92)) kAlk 2 rfl ?_
              refine e_Pn.getr (z := cd) kAlk rfl rfl ((w92f 1 3 (by unfold kEm; omega)).trans s89.1.2.2.2.1.2.1) (by omega) ?_
              refine e_Pn.getf (z := w92 cd 0) kAlk rfl rfl rfl (fun b97 => ?_)
              refine e_Pn.callA rfl (fun nq dq => l_22 w92k (x := z49) (od := w92 cd 0) (by omega)) (fun r98 w99 h100 => ?_)
              obtain ⟨rfl, w99f, w99q⟩ := h100
              have w99k := kRw.em w92k (w99f.mono (fun _ _ q => Or.inr q))
              have w99l : 0 ≤ w99 cd 0 ∧ w99 cd 0 ≤ 4000 := by rw [w99f cd 0 (by unfold kPa; omega)]; exact w92l
              have w99e : w99 1 5 = w92 1 5 ∧ w99 1 6 = w92 1 6 ∧ w99 1 8 = w92 1 8 := ⟨w99f 1 5 (by unfold kPa; omega), w99f 1 6 (by unfold kPa; omega), w99f 1 8 (by unfold kPa; omega)⟩
              have pl102 := plcQ.fr ps50 (h74.2.2.2.2.1 cd 0 (by unfold kRa; omega)) (fun i => h74.2.2.2.2.1 (cd + 2) i (by unfold kRa; omega))
              have pl103 := plcQ.st pl102 h83
              have pl104 := plcQ.em pl103 w92q
              have s101 := st.pa s95 w99f w99q pl104 (by unfold isCl3; omega)
              have q105 := st.nums s101
              show e_Pn 20 elay kcode eI nn18 d 159 (67, (2, (0, z49)) :: (0, (1, 1)) :: (1, (0, y1)) :: List.filter (e_flt 0 2) tl19, [], w99) _
              refine e_Pn.inc (z := y1 + 1) kAlk rfl rfl (by omega) (by omega) ?_
              show e_Pn 20 elay kcode eI nn18 d 159 (70, (1, (0, y1 + 1)) :: (2, (0, z49)) :: (0, (1, 1)) :: List.filter (e_flt 0 1) (List.filter (e_flt 0 2) tl19), [], w99) _
              refine e_Pn.run (t' := (6, (1, (0, y1 + 1)) :: (2, (0, z49)) :: (0, (1, 1)) :: List.filter (e_flt 0 1) (List.filter (e_flt 0 2) tl19), [], w99)) kAlk 1 rfl ?_
              replace hM := hM.st (t' := (6, (1, (0, z64)) :: (0, (1, 275)) :: List.filter (e_flt 0 1) tl20, [], v79)) (fun _ _ q => e_Pn.run eAlk 1 rfl q)
              exact e_Pn.ord kAlk [0, 1] rfl rfl (ih17 (by omega) _ _ (y1 + 1) z64 w99 v79 ⟨(st.re s101 (by omega) (by omega) (by omega) (by omega) (by omega)), (by omega), (by omega)⟩ (e_Rn.le eAlk [0, 1] rfl rfl hM))
  exact e_Pn.ord kAlk [0, 1] rfl rfl (hL16 n (Nat.le_refl _) _ _ 0 (-1) w7 v4 ⟨(st.re s14 (by omega) (by omega) (by omega) (by omega) (by omega)), (by omega), (by omega)⟩ (e_Rn.le eAlk [0, 1] rfl rfl hM))
set_option maxHeartbeats 4000000 in
theorem e_160 {n : Nat} {N cd : Int} {w v : eW} (hz : stE N cd w v) (ihG : ∀ k, k < n → eEg k) {d d' : Nat} {r' : List eV} {v' : eW} (hM : e_Rn 20 elay ecode eI d' 342 (0, [(0, (1, 275))], [], v) r' v') : e_Pn 20 elay kcode eI n d 160 (0, [(0, (1, 1))], [], w) (fun r w' => r = [] ∧ r' = [] ∧ ((st N cd w v w' v' 0 0 0 (-1) (w 1 13) (v 275 82) (w 1 12) 2 ∧ w 1 6 < w' 1 6) ∨ rpF w' v')) := by
  have h0 := hz.st (ka := 2)
  have hm := hz.1.2.2.2.1.1.m
  have hn := hz.1.2.2.2.1.1.n
  have hzo := hz.2.2.2
  have q1 := st.nums h0
  refine e_Pn.run (t' := (1, [(0, (1, 1))], [(1, 1)], w)) kAlk 1 rfl ?_
  refine e_Pn.getf (z := w 1 5) kAlk rfl rfl rfl (fun b2 => ?_)
  refine e_Pn.run (t' := (6, [(0, (1, 1))], [(0, 47), (0, w 1 5)], w)) kAlk 1 rfl ?_
  refine e_Pn.if2 kAlk rfl (fun h3 => ?_) (fun h3 => ?_)
  · replace h3 : (w 1 5 : Int) ≠ 47 := h3
    refine e_Pn.run (t' := (48, [(0, (1, 1))], [(1, 1)], w)) kAlk 1 rfl ?_
    replace hM := hM.st (t' := (1, [(0, (1, 275))], [(1, 275)], v)) (fun _ _ q => e_Pn.run eAlk 1 rfl q)
    obtain ⟨b4, hM⟩ := hM.of (fun _ _ q => e_Pn.getf (z := 0) eAlk rfl rfl h0.1.2.1.1.2 q)
    rcases hM.or (fun _ _ q1 q2 => e_Pn.if1 eAlk rfl q1 q2) with ⟨h5, hM⟩ | ⟨h5, hM⟩
    · replace h5 : (0 : Int) ≠ 0 := h5
      exfalso; omega
    · replace h5 : (0 : Int) = 0 := by have q : ¬ ((0 : Int) ≠ 0) := h5; omega
      replace hM := hM.st (t' := (10, [(0, (1, 275))], [(0, 26), (1, 275)], v)) (fun _ _ q => e_Pn.run eAlk 2 rfl q)
      obtain ⟨dc6, r7, v8, hc9, hM⟩ := hM.ca rfl
      obtain ⟨z10, rfl, rfl, z10q⟩ := hc9.pn (fun nq => l_332)
      replace z10q := isS (kM_key (k := 26) h0.1.2.1.2.2.1 (by decide)) rfl rfl z10q
      obtain rfl : z10 = 0 := by omega
      clear z10q
      replace hM : e_Rn 20 elay ecode eI d' 342 (13, [(0, (1, 275))], [(0, 0)], v) r' v' := hM
      rcases hM.or (fun _ _ q1 q2 => e_Pn.if1 eAlk rfl q1 q2) with ⟨h11, hM⟩ | ⟨h11, hM⟩
      · replace h11 : (0 : Int) = 0 := h11
        replace hM := hM.st (t' := (48, [(0, (1, 275))], [(1, 275)], v)) (fun _ _ q => e_Pn.run eAlk 1 rfl q)
        obtain ⟨dc12, r13, v14, hc15, hM⟩ := hM.ca rfl
        have uhc15 := hc15.pn (fun nq => uE_all nq 343 (by decide) _ _ h0.1.2.2.2.2.1)
        have z19 : stE N cd w v := st.zE h0 (by omega) (by omega)
        refine e_Pn.callB rfl (fun k9 hk9 d9 => e_Pn.and (ihG k9 (by omega) 162 343 (by decide) _ _ _ _ _ _ z19 hc15) (kE_all k9 162 (by decide) d9 _ _ h0.1.2.2.2.1)) (fun r16 w17 h18 => ?_)
        obtain ⟨⟨rfl, rfl, h18⟩, -, h18k⟩ := h18
        rcases h18.symm with h18 | ⟨h18, h18p⟩
        · skip
          replace hM : e_Rn 20 elay ecode eI d' 342 (51, [(0, (1, 275))], [], v14) r' v' := hM
          obtain ⟨rfl, m20⟩ := (e_Rn.le eAlk [0] rfl rfl hM).pn (fun nq => v_342_51 (uhc15.2.rf h0.1.2.2.2.2.1) _  v14 mq.r)
          show e_Pn 20 elay kcode eI n d 160 (51, [(0, (1, 1))], [], w17) _
          refine e_Pn.ord kAlk [0] rfl rfl ((v_160_51 (h18k.rf h0.1.2.2.2.1) _  w17 kq.r).imp (fun r22 w23 k21 => ?_))
          obtain ⟨rfl, k21⟩ := k21
          exact ⟨rfl, rfl, Or.inr (rpF.tail h18 k21 m20)⟩
        have s24 := st.re (l' := w 1 13) (m' := v 275 82) (t' := w 1 12) (st.tr h0 h18) (Int.le_refl _) rfl (by omega) (by omega) (by omega)
        have q25 := st.nums s24
        show e_Pn 20 elay kcode eI n d 160 (51, [(0, (1, 1))], [], w17) _
        replace hM : e_Rn 20 elay ecode eI d' 342 (51, [(0, (1, 275))], [], v14) r' v' := hM
        refine e_Pn.run (t' := (52, [(0, (1, 1))], [(1, 1)], w17)) kAlk 1 rfl ?_
        refine e_Pn.callI rfl (fun nq26 dq27 => ?_)
        show e_Pn 20 elay kcode eI nq26 dq27 161 (0, [(0, (1, 1))], [], w17) _
        refine e_Pn.run (t' := (1, [(0, (1, 1))], [(1, 1)], w17)) kAlk 1 rfl ?_
        refine e_Pn.getf (z := w17 1 5) kAlk rfl rfl rfl (fun b28 => ?_)
        have hs30 : ∀ x : Int, 0 ≤ x ∧ x ≤ 53 → (x = 0 ∨ x = 1 ∨ x = 2 ∨ x = 3 ∨ x = 4 ∨ x = 8 ∨ x = 9 ∨ x = 10 ∨ x = 11 ∨ x = 12 ∨ x = 16 ∨ x = 17 ∨ x = 18 ∨ x = 19 ∨ x = 20 ∨ x = 21 ∨ x = 22 ∨ x = 23 ∨ x = 24 ∨ x = 25 ∨ x = 26 ∨ x = 27 ∨ x = 28 ∨ x = 29 ∨ x = 30 ∨ x = 31 ∨ x = 32 ∨ x = 33 ∨ x = 34 ∨ x = 35 ∨ x = 36 ∨ x = 37 ∨ x = 38 ∨ x = 39 ∨ x = 40 ∨ x = 41 ∨ x = 42 ∨ x = 43 ∨ x = 44 ∨ x = 45 ∨ x = 46 ∨ x = 47 ∨ x = 48 ∨ x = 49 ∨ x = 50 ∨ x = 51 ∨ x = 52 ∨ x = 53) ∨ (x = 5) ∨ (x = 6) ∨ (x = 7) ∨ (x = 13) ∨ (x = 14) ∨ (x = 15) := fun x h => by omega
        obtain h29 | h29 | h29 | h29 | h29 | h29 | h29 := hs30 (w17 1 5) (by omega)
        · refine e_Pn.sw (tg := 82) kAlk rfl (by rcases h29 with h29 | h29 | h29 | h29 | h29 | h29 | h29 | h29 | h29 | h29 | h29 | h29 | h29 | h29 | h29 | h29 | h29 | h29 | h29 | h29 | h29 | h29 | h29 | h29 | h29 | h29 | h29 | h29 | h29 | h29 | h29 | h29 | h29 | h29 | h29 | h29 | h29 | h29 | h29 | h29 | h29 | h29 | h29 | h29 | h29 | h29 | h29 | h29 <;> (rw [h29]; rfl)) ?_
          have t31 : (w17 1 5 : Int) ≠ 5 := by omega
          have t32 : (w17 1 5 : Int) ≠ 6 := by omega
          have t33 : (w17 1 5 : Int) ≠ 7 := by omega
          have t34 : (w17 1 5 : Int) ≠ 13 := by omega
          have t35 : (w17 1 5 : Int) ≠ 14 := by omega
          have t36 : (w17 1 5 : Int) ≠ 15 := by omega
          clear h29
          refine e_Pn.run (t' := (84, [(0, (1, 1))], [(0, 49)], w17)) kAlk 1 rfl ?_
          refine e_Pn.ret1 rfl ?_
          show e_Pn 20 elay kcode eI n d 160 (55, [(0, (1, 1))], [(0, 49)], w17) _
          refine e_Pn.run (t' := (59, [(1, (0, 49)), (0, (1, 1))], [(0, 49), (0, 49)], w17)) kAlk 3 rfl ?_
          refine e_Pn.if2 kAlk rfl (fun h37 => ?_) (fun h37 => ?_)
          · replace h37 : (49 : Int) ≠ 49 := h37
            exfalso; omega
          · replace h37 : (49 : Int) = 49 := by have q : ¬ ((49 : Int) ≠ 49) := h37; omega
            replace hM := hM.st (t' := (52, [(0, (1, 275))], [(1, 275)], v14)) (fun _ _ q => e_Pn.run eAlk 1 rfl q)
            obtain ⟨b38, hM⟩ := hM.of (fun _ _ q => e_Pn.getf (z := 0) eAlk rfl rfl s24.1.2.1.1.2 q)
            rcases hM.or (fun _ _ q1 q2 => e_Pn.if1 eAlk rfl q1 q2) with ⟨h39, hM⟩ | ⟨h39, hM⟩
            · replace h39 : (0 : Int) ≠ 0 := h39
              exfalso; omega
            · replace h39 : (0 : Int) = 0 := by have q : ¬ ((0 : Int) ≠ 0) := h39; omega
              replace hM := hM.st (t' := (59, [(0, (1, 275))], [(1, 275)], v14)) (fun _ _ q => e_Pn.run eAlk 1 rfl q)
              obtain ⟨b40, hM⟩ := hM.of (fun _ _ q => e_Pn.getf (z := v14 275 84) eAlk rfl rfl rfl q)
              replace hM := hM.st (t' := (63, [(0, (1, 275))], [(0, 3), (0, v14 275 84)], v14)) (fun _ _ q => e_Pn.run eAlk 1 rfl q)
              rcases hM.or (fun _ _ q1 q2 => e_Pn.if2 eAlk rfl q1 q2) with ⟨h41, hM⟩ | ⟨h41, hM⟩
              · replace h41 : (v14 275 84 : Int) = 3 := h41
                replace hM := hM.st (t' := (71, [(0, (1, 275))], [(1, 275)], v14)) (fun _ _ q => e_Pn.run eAlk 1 rfl q)
                obtain ⟨b42, hM⟩ := hM.of (fun _ _ q => e_Pn.getf (z := v14 275 85) eAlk rfl rfl rfl q)
                replace hM := hM.st (t' := (76, [(0, (1, 275))], [(0, 61), (0, v14 275 85)], v14)) (fun _ _ q => e_Pn.run eAlk 1 rfl q)
                rcases hM.or (fun _ _ q1 q2 => e_Pn.if2 eAlk rfl q1 q2) with ⟨h43, hM⟩ | ⟨h43, hM⟩
                · replace h43 : (v14 275 85 : Int) ≠ 61 := h43
                  replace hM := hM.st (t' := (85, [(0, (1, 275))], [(1, 275)], v14)) (fun _ _ q => e_Pn.run eAlk 1 rfl q)
                  obtain ⟨b44, hM⟩ := hM.of (fun _ _ q => e_Pn.getf (z := v14 275 85) eAlk rfl rfl rfl q)
                  replace hM := hM.st (t' := (90, [(0, (1, 275))], [(0, 110), (0, v14 275 85)], v14)) (fun _ _ q => e_Pn.run eAlk 1 rfl q)
                  rcases hM.or (fun _ _ q1 q2 => e_Pn.if2 eAlk rfl q1 q2) with ⟨h45, hM⟩ | ⟨h45, hM⟩
                  · replace h45 : (v14 275 85 : Int) ≠ 110 := h45
                    replace hM := hM.st (t' := (99, [(0, (1, 275))], [(1, 275)], v14)) (fun _ _ q => e_Pn.run eAlk 1 rfl q)
                    obtain ⟨b46, hM⟩ := hM.of (fun _ _ q => e_Pn.getf (z := v14 275 85) eAlk rfl rfl rfl q)
                    replace hM := hM.st (t' := (104, [(0, (1, 275))], [(0, 60), (0, v14 275 85)], v14)) (fun _ _ q => e_Pn.run eAlk 1 rfl q)
                    rcases hM.or (fun _ _ q1 q2 => e_Pn.if2 eAlk rfl q1 q2) with ⟨h47, hM⟩ | ⟨h47, hM⟩
                    · replace h47 : (v14 275 85 : Int) ≠ 60 := h47
                      replace hM := hM.st (t' := (113, [(0, (1, 275))], [(1, 275)], v14)) (fun _ _ q => e_Pn.run eAlk 1 rfl q)
                      obtain ⟨b48, hM⟩ := hM.of (fun _ _ q => e_Pn.getf (z := v14 275 85) eAlk rfl rfl rfl q)
                      replace hM := hM.st (t' := (118, [(0, (1, 275))], [(0, 108), (0, v14 275 85)], v14)) (fun _ _ q => e_Pn.run eAlk 1 rfl q)
                      rcases hM.or (fun _ _ q1 q2 => e_Pn.if2 eAlk rfl q1 q2) with ⟨h49, hM⟩ | ⟨h49, hM⟩
                      · replace h49 : (v14 275 85 : Int) ≠ 108 := h49
                        replace hM := hM.st (t' := (127, [(0, (1, 275))], [(1, 275)], v14)) (fun _ _ q => e_Pn.run eAlk 1 rfl q)
                        obtain ⟨b50, hM⟩ := hM.of (fun _ _ q => e_Pn.getf (z := v14 275 85) eAlk rfl rfl rfl q)
                        replace hM := hM.st (t' := (132, [(0, (1, 275))], [(0, 62), (0, v14 275 85)], v14)) (fun _ _ q => e_Pn.run eAlk 1 rfl q)
                        rcases hM.or (fun _ _ q1 q2 => e_Pn.if2 eAlk rfl q1 q2) with ⟨h51, hM⟩ | ⟨h51, hM⟩
                        · replace h51 : (v14 275 85 : Int) ≠ 62 := h51
                          replace hM := hM.st (t' := (141, [(0, (1, 275))], [(1, 275)], v14)) (fun _ _ q => e_Pn.run eAlk 1 rfl q)
                          obtain ⟨b52, hM⟩ := hM.of (fun _ _ q => e_Pn.getf (z := v14 275 85) eAlk rfl rfl rfl q)
                          replace hM := hM.st (t' := (146, [(0, (1, 275))], [(0, 103), (0, v14 275 85)], v14)) (fun _ _ q => e_Pn.run eAlk 1 rfl q)
                          rcases hM.or (fun _ _ q1 q2 => e_Pn.if2 eAlk rfl q1 q2) with ⟨h53, hM⟩ | ⟨h53, hM⟩
                          · replace h53 : (v14 275 85 : Int) ≠ 103 := h53
                            replace hM := hM.st (t' := (157, [(1, (0, 0)), (0, (1, 275))], [(0, 0)], v14)) (fun _ _ q => e_Pn.run eAlk 3 rfl q)
                            rcases hM.or (fun _ _ q1 q2 => e_Pn.if1 eAlk rfl q1 q2) with ⟨h54, hM⟩ | ⟨h54, hM⟩
                            · replace h54 : (0 : Int) = 0 := h54
                              obtain ⟨rfl, rfl⟩ := hM.re0 rfl
                              refine e_Pn.ret0 rfl ?_
                              exact ⟨rfl, rfl, Or.inl ⟨st.re s24 (by omega) (by omega) (by omega) (by omega) (by omega), by omega⟩⟩
                            · replace h54 : (0 : Int) ≠ 0 := by have q : ¬ ((0 : Int) = 0) := h54; omega
                              exfalso; omega
                          · replace h53 : (v14 275 85 : Int) = 103 := by have q : ¬ ((v14 275 85 : Int) ≠ 103) := h53; omega
                            exact (kM_no s24.1.2.1.2.2.1 (fun a b => decide ((a : Int) ≠ 5) && decide ((a : Int) ≠ 6) && decide ((a : Int) ≠ 7) && decide ((a : Int) ≠ 13) && decide ((a : Int) ≠ 14) && decide ((a : Int) ≠ 15) && decide ((b : Int) = 3)) (fun a b c => decide ((c : Int) ≠ 61) && decide ((c : Int) ≠ 110) && decide ((c : Int) ≠ 60) && decide ((c : Int) ≠ 108) && decide ((c : Int) ≠ 62) && decide ((c : Int) = 103)) (by decide) (by decide) (by simp only [Bool.and_eq_true, decide_eq_true_eq]; exact ⟨⟨⟨⟨⟨⟨t31, t32⟩, t33⟩, t34⟩, t35⟩, t36⟩, h41⟩) (by simp only [Bool.and_eq_true, decide_eq_true_eq]; exact ⟨⟨⟨⟨⟨h43, h45⟩, h47⟩, h49⟩, h51⟩, h53⟩)).elim
                        · replace h51 : (v14 275 85 : Int) = 62 := by have q : ¬ ((v14 275 85 : Int) ≠ 62) := h51; omega
                          exact (kM_no s24.1.2.1.2.2.1 (fun a b => decide ((a : Int) ≠ 5) && decide ((a : Int) ≠ 6) && decide ((a : Int) ≠ 7) && decide ((a : Int) ≠ 13) && decide ((a : Int) ≠ 14) && decide ((a : Int) ≠ 15) && decide ((b : Int) = 3)) (fun a b c => decide ((c : Int) ≠ 61) && decide ((c : Int) ≠ 110) && decide ((c : Int) ≠ 60) && decide ((c : Int) ≠ 108) && decide ((c : Int) = 62)) (by decide) (by decide) (by simp only [Bool.and_eq_true, decide_eq_true_eq]; exact ⟨⟨⟨⟨⟨⟨t31, t32⟩, t33⟩, t34⟩, t35⟩, t36⟩, h41⟩) (by simp only [Bool.and_eq_true, decide_eq_true_eq]; exact ⟨⟨⟨⟨h43, h45⟩, h47⟩, h49⟩, h51⟩)).elim
                      · replace h49 : (v14 275 85 : Int) = 108 := by have q : ¬ ((v14 275 85 : Int) ≠ 108) := h49; omega
                        exact (kM_no s24.1.2.1.2.2.1 (fun a b => decide ((a : Int) ≠ 5) && decide ((a : Int) ≠ 6) && decide ((a : Int) ≠ 7) && decide ((a : Int) ≠ 13) && decide ((a : Int) ≠ 14) && decide ((a : Int) ≠ 15) && decide ((b : Int) = 3)) (fun a b c => decide ((c : Int) ≠ 61) && decide ((c : Int) ≠ 110) && decide ((c : Int) ≠ 60) && decide ((c : Int) = 108)) (by decide) (by decide) (by simp only [Bool.and_eq_true, decide_eq_true_eq]; exact ⟨⟨⟨⟨⟨⟨t31, t32⟩, t33⟩, t34⟩, t35⟩, t36⟩, h41⟩) (by simp only [Bool.and_eq_true, decide_eq_true_eq]; exact ⟨⟨⟨h43, h45⟩, h47⟩, h49⟩)).elim
                    · replace h47 : (v14 275 85 : Int) = 60 := by have q : ¬ ((v14 275 85 : Int) ≠ 60) := h47; omega
                      exact (kM_no s24.1.2.1.2.2.1 (fun a b => decide ((a : Int) ≠ 5) && decide ((a : Int) ≠ 6) && decide ((a : Int) ≠ 7) && decide ((a : Int) ≠ 13) && decide ((a : Int) ≠ 14) && decide ((a : Int) ≠ 15) && decide ((b : Int) = 3)) (fun a b c => decide ((c : Int) ≠ 61) && decide ((c : Int) ≠ 110) && decide ((c : Int) = 60)) (by decide) (by decide) (by simp only [Bool.and_eq_true, decide_eq_true_eq]; exact ⟨⟨⟨⟨⟨⟨t31, t32⟩, t33⟩, t34⟩, t35⟩, t36⟩, h41⟩) (by simp only [Bool.and_eq_true, decide_eq_true_eq]; exact ⟨⟨h43, h45⟩, h47⟩)).elim
                  · replace h45 : (v14 275 85 : Int) = 110 := by have q : ¬ ((v14 275 85 : Int) ≠ 110) := h45; omega
                    exact (kM_no s24.1.2.1.2.2.1 (fun a b => decide ((a : Int) ≠ 5) && decide ((a : Int) ≠ 6) && decide ((a : Int) ≠ 7) && decide ((a : Int) ≠ 13) && decide ((a : Int) ≠ 14) && decide ((a : Int) ≠ 15) && decide ((b : Int) = 3)) (fun a b c => decide ((c : Int) ≠ 61) && decide ((c : Int) = 110)) (by decide) (by decide) (by simp only [Bool.and_eq_true, decide_eq_true_eq]; exact ⟨⟨⟨⟨⟨⟨t31, t32⟩, t33⟩, t34⟩, t35⟩, t36⟩, h41⟩) (by simp only [Bool.and_eq_true, decide_eq_true_eq]; exact ⟨h43, h45⟩)).elim
                · replace h43 : (v14 275 85 : Int) = 61 := by have q : ¬ ((v14 275 85 : Int) ≠ 61) := h43; omega
                  exact (kM_no s24.1.2.1.2.2.1 (fun a b => decide ((a : Int) ≠ 5) && decide ((a : Int) ≠ 6) && decide ((a : Int) ≠ 7) && decide ((a : Int) ≠ 13) && decide ((a : Int) ≠ 14) && decide ((a : Int) ≠ 15) && decide ((b : Int) = 3)) (fun a b c => decide ((c : Int) = 61)) (by decide) (by decide) (by simp only [Bool.and_eq_true, decide_eq_true_eq]; exact ⟨⟨⟨⟨⟨⟨t31, t32⟩, t33⟩, t34⟩, t35⟩, t36⟩, h41⟩) (decide_eq_true h43)).elim
              · replace h41 : (v14 275 84 : Int) ≠ 3 := by have q : ¬ ((v14 275 84 : Int) = 3) := h41; omega
                replace hM := hM.st (t' := (157, [(1, (0, 0)), (0, (1, 275))], [(0, 0)], v14)) (fun _ _ q => e_Pn.run eAlk 4 rfl q)
                rcases hM.or (fun _ _ q1 q2 => e_Pn.if1 eAlk rfl q1 q2) with ⟨h55, hM⟩ | ⟨h55, hM⟩
                · replace h55 : (0 : Int) = 0 := h55
                  obtain ⟨rfl, rfl⟩ := hM.re0 rfl
                  refine e_Pn.ret0 rfl ?_
                  exact ⟨rfl, rfl, Or.inl ⟨st.re s24 (by omega) (by omega) (by omega) (by omega) (by omega), by omega⟩⟩
                · replace h55 : (0 : Int) ≠ 0 := by have q : ¬ ((0 : Int) = 0) := h55; omega
                  exfalso; omega
        · refine e_Pn.sw (tg := 67) kAlk rfl (by rw [h29]; rfl) ?_
          replace h29 : (w17 1 5 : Int) = 5 := h29
          refine e_Pn.run (t' := (69, [(0, (1, 1))], [(0, 20)], w17)) kAlk 1 rfl ?_
          refine e_Pn.ret1 rfl ?_
          show e_Pn 20 elay kcode eI n d 160 (55, [(0, (1, 1))], [(0, 20)], w17) _
          refine e_Pn.run (t' := (59, [(1, (0, 20)), (0, (1, 1))], [(0, 49), (0, 20)], w17)) kAlk 3 rfl ?_
          refine e_Pn.if2 kAlk rfl (fun h56 => ?_) (fun h56 => ?_)
          · replace h56 : (20 : Int) ≠ 49 := h56
            refine e_Pn.run (t' := (64, [(1, (0, 20)), (0, (1, 1))], [(1, 1)], w17)) kAlk 1 rfl ?_
            replace hM := hM.st (t' := (52, [(0, (1, 275))], [(1, 275)], v14)) (fun _ _ q => e_Pn.run eAlk 1 rfl q)
            obtain ⟨b57, hM⟩ := hM.of (fun _ _ q => e_Pn.getf (z := 0) eAlk rfl rfl s24.1.2.1.1.2 q)
            rcases hM.or (fun _ _ q1 q2 => e_Pn.if1 eAlk rfl q1 q2) with ⟨h58, hM⟩ | ⟨h58, hM⟩
            · replace h58 : (0 : Int) ≠ 0 := h58
              exfalso; omega
            · replace h58 : (0 : Int) = 0 := by have q : ¬ ((0 : Int) ≠ 0) := h58; omega
              replace hM := hM.st (t' := (59, [(0, (1, 275))], [(1, 275)], v14)) (fun _ _ q => e_Pn.run eAlk 1 rfl q)
              obtain ⟨b59, hM⟩ := hM.of (fun _ _ q => e_Pn.getf (z := 3) eAlk rfl rfl ((kM_s110 s24.1.2.1.2.2.1).mpr (by omega)).1 q)
              replace hM := hM.st (t' := (63, [(0, (1, 275))], [(0, 3), (0, 3)], v14)) (fun _ _ q => e_Pn.run eAlk 1 rfl q)
              rcases hM.or (fun _ _ q1 q2 => e_Pn.if2 eAlk rfl q1 q2) with ⟨h60, hM⟩ | ⟨h60, hM⟩
              · replace h60 : (3 : Int) = 3 := h60
                replace hM := hM.st (t' := (71, [(0, (1, 275))], [(1, 275)], v14)) (fun _ _ q => e_Pn.run eAlk 1 rfl q)
                obtain ⟨b61, hM⟩ := hM.of (fun _ _ q => e_Pn.getf (z := 110) eAlk rfl rfl ((kM_s110 s24.1.2.1.2.2.1).mpr (by omega)).2 q)
                replace hM := hM.st (t' := (76, [(0, (1, 275))], [(0, 61), (0, 110)], v14)) (fun _ _ q => e_Pn.run eAlk 1 rfl q)
                rcases hM.or (fun _ _ q1 q2 => e_Pn.if2 eAlk rfl q1 q2) with ⟨h62, hM⟩ | ⟨h62, hM⟩
                · replace h62 : (110 : Int) ≠ 61 := h62
                  replace hM := hM.st (t' := (85, [(0, (1, 275))], [(1, 275)], v14)) (fun _ _ q => e_Pn.run eAlk 1 rfl q)
                  obtain ⟨b63, hM⟩ := hM.of (fun _ _ q => e_Pn.getf (z := 110) eAlk rfl rfl ((kM_s110 s24.1.2.1.2.2.1).mpr (by omega)).2 q)
                  replace hM := hM.st (t' := (90, [(0, (1, 275))], [(0, 110), (0, 110)], v14)) (fun _ _ q => e_Pn.run eAlk 1 rfl q)
                  rcases hM.or (fun _ _ q1 q2 => e_Pn.if2 eAlk rfl q1 q2) with ⟨h64, hM⟩ | ⟨h64, hM⟩
                  · replace h64 : (110 : Int) ≠ 110 := h64
                    exfalso; omega
                  · replace h64 : (110 : Int) = 110 := by have q : ¬ ((110 : Int) ≠ 110) := h64; omega
                    replace hM := hM.st (t' := (157, [(1, (0, 16)), (0, (1, 275))], [(0, 16)], v14)) (fun _ _ q => e_Pn.run eAlk 4 rfl q)
                    rcases hM.or (fun _ _ q1 q2 => e_Pn.if1 eAlk rfl q1 q2) with ⟨h65, hM⟩ | ⟨h65, hM⟩
                    · replace h65 : (16 : Int) = 0 := h65
                      exfalso; omega
                    · replace h65 : (16 : Int) ≠ 0 := by have q : ¬ ((16 : Int) = 0) := h65; omega
                      replace hM := hM.st (t' := (161, [(1, (0, 16)), (0, (1, 275))], [(1, 275)], v14)) (fun _ _ q => e_Pn.run eAlk 1 rfl q)
                      obtain ⟨dc66, r67, v68, hc69, hM⟩ := hM.ca rfl
                      refine e_Pn.callA rfl (fun nq dq => t_123b s24.1.1 s24.1.2.1.1 s24.1.2.1.2.1.2.1 (st.nx s24) (d' := dc66) hc69) (fun r70 w71 h72 => ?_)
                      obtain ⟨rfl, rfl, h72⟩ := h72
                      have s73 := st.ad (k := 1) s24 h72 (st.len1 s24 (by omega)) (by omega)
                      have s73n := h72.2.2.2.1
                      have s73m := st.len1 s24 (by omega)
                      have q74 := st.nums s73
                      show e_Pn 20 elay kcode eI n d 160 (67, [(1, (0, 20)), (0, (1, 1))], [], w71) _
                      replace hM : e_Rn 20 elay ecode eI d' 342 (164, [(1, (0, 16)), (0, (1, 275))], [], v68) r' v' := hM
                      refine e_Pn.run (t' := (68, [(1, (0, 20)), (0, (1, 1))], [(1, 1)], w71)) kAlk 1 rfl ?_
                      replace hM := hM.st (t' := (165, [(1, (0, 16)), (0, (1, 275))], [(1, 275)], v68)) (fun _ _ q => e_Pn.run eAlk 1 rfl q)
                      obtain ⟨dc75, r76, v77, hc78, hM⟩ := hM.ca rfl
                      have uhc78 := hc78.pn (fun nq => uE_all nq 343 (by decide) _ _ s73.1.2.2.2.2.1)
                      have z82 : stE N cd w71 v68 := st.zE s73 (by omega) (by omega)
                      refine e_Pn.callB rfl (fun k9 hk9 d9 => e_Pn.and (ihG k9 (by omega) 162 343 (by decide) _ _ _ _ _ _ z82 hc78) (kE_all k9 162 (by decide) d9 _ _ s73.1.2.2.2.1)) (fun r79 w80 h81 => ?_)
                      obtain ⟨⟨rfl, rfl, h81⟩, -, h81k⟩ := h81
                      rcases h81.symm with h81 | ⟨h81, h81p⟩
                      · skip
                        replace hM : e_Rn 20 elay ecode eI d' 342 (168, [(1, (0, 16)), (0, (1, 275))], [], v77) r' v' := hM
                        obtain ⟨rfl, m83⟩ := (e_Rn.le eAlk [0, 1] rfl rfl hM).pn (fun nq => v_342_168 (uhc78.2.rf s73.1.2.2.2.2.1) _ 16 v77 mq.r)
                        show e_Pn 20 elay kcode eI n d 160 (71, [(1, (0, 20)), (0, (1, 1))], [], w80) _
                        refine e_Pn.ord kAlk [0, 1] rfl rfl ((v_160_71 (h81k.rf s73.1.2.2.2.1) _ 20 w80 kq.r).imp (fun r85 w86 k84 => ?_))
                        obtain ⟨rfl, k84⟩ := k84
                        exact ⟨rfl, rfl, Or.inr (rpF.tail h81 k84 m83)⟩
                      have s87 := st.re (l' := w 1 13) (m' := v 275 82) (t' := w 1 12) (st.tr s73 h81) (Int.le_refl _) rfl (by omega) (by omega) (by omega)
                      have q88 := st.nums s87
                      show e_Pn 20 elay kcode eI n d 160 (71, [(1, (0, 20)), (0, (1, 1))], [], w80) _
                      replace hM : e_Rn 20 elay ecode eI d' 342 (168, [(1, (0, 16)), (0, (1, 275))], [], v77) r' v' := hM
                      refine e_Pn.run (t' := (72, [(1, (0, 20)), (0, (1, 1))], [(1, 1)], w80)) kAlk 1 rfl ?_
                      refine e_Pn.getr (z := cd) kAlk rfl rfl s87.1.2.2.2.1.2.1 (by omega) ?_
                      refine e_Pn.run (t' := (77, [(1, (0, 20)), (0, (1, 1))], [(0, 0), (0, 20), (1, cd)], w80)) kAlk 2 rfl ?_
                      refine e_Pn.callA rfl (fun nq dq => l_21 s87.1.2.2.2.1 (op := 20) (od := 0) (by omega) (by omega) s87.1.2.2.2.2.2.1) (fun r89 w90 h91 => ?_)
                      obtain ⟨z92, rfl, w90f, w90q⟩ := h91
                      have w90k := kRw.em s87.1.2.2.2.1 w90f
                      have w90l := (emQ.len w90q s87.1.2.2.2.2.2.1).1
                      have w90e : w90 1 5 = w80 1 5 ∧ w90 1 6 = w80 1 6 ∧ w90 1 8 = w80 1 8 := ⟨w90f 1 5 (by unfold kEm; omega), w90f 1 6 (by unfold kEm; omega), w90f 1 8 (by unfold kEm; omega)⟩
                      have s93 := st.em s87 w90f w90q (by omega) (by unfold isCl3; omega)
                      have q94 := st.nums s93
                      have z92r : 0 ≤ z92 ∧ z92 ≤ 4000 := emQ.z w90q s87.1.2.2.2.2.2.1
                      show e_Pn 20 elay kcode eI n d 160 (80, [(1, (0, 20)), (0, (1, 1))], [(0, z92)], w90) _
                      refine e_Pn.run (t' := (81, [(1, (0, 20)), (0, (1, 1))], [], w90)) kAlk 1 rfl ?_
                      replace hM := hM.st (t' := (171, [(1, (0, 16)), (0, (1, 275))], [(0, 0), (0, 16), (1, 275)], v77)) (fun _ _ q => e_Pn.run eAlk 3 rfl q)
                      obtain ⟨dc95, r96, v97, hc98, hM⟩ := hM.ca rfl
                      obtain ⟨⟨z99, rfl⟩, v97f⟩ := hc98.pn (fun nq => x_336 s87.1.2.2.2.2.1)
                      have v97m := mfr.rf v97f s87.1.2.2.2.2.1
                      replace hM : e_Rn 20 elay ecode eI d' 342 (174, [(1, (0, 16)), (0, (1, 275))], [(0, z99)], v97) r' v' := hM
                      replace hM := hM.st (t' := (175, [(1, (0, 16)), (0, (1, 275))], [], v97)) (fun _ _ q => e_Pn.run eAlk 1 rfl q)
                      have e101a : w90 1 11 = w90 1 11 := rfl
                      have e101b : v97 275 83 = v77 275 83 := (v97f 275 83 (by unfold mEm; omega))
                      have e101c : w90 1 13 = w90 1 13 := rfl
                      have e101d : v97 275 82 = v77 275 82 := (v97f 275 82 (by unfold mEm; omega))
                      have e101f : w90 1 12 = w90 1 12 := rfl
                      have e101e : v97 275 80 = v77 275 80 := (v97f 275 80 (by unfold mEm; omega))
                      have s100 := st.gen (o' := 0) (l' := w 1 13) (m' := v 275 82) (t' := w 1 12) (b' := 0) s93 (e_fr.refl w90) (e_fr.trans (e_fr.refl v77) (e_fr.mono v97f (fun c k q => by unfold mEm at q; unfold mGs; omega))) (by omega) (by omega) (by omega) (by omega)
                      have q102 := st.nums s100
                      obtain ⟨rfl, rfl⟩ := hM.re0 rfl
                      refine e_Pn.ret0 rfl ?_
                      exact ⟨rfl, rfl, Or.inl ⟨st.re s100 (by omega) (by omega) (by omega) (by omega) (by omega), by omega⟩⟩
                · replace h62 : (110 : Int) = 61 := by have q : ¬ ((110 : Int) ≠ 61) := h62; omega
                  exfalso; omega
              · replace h60 : (3 : Int) ≠ 3 := by have q : ¬ ((3 : Int) = 3) := h60; omega
                exfalso; omega
          · replace h56 : (20 : Int) = 49 := by have q : ¬ ((20 : Int) ≠ 49) := h56; omega
            exfalso; omega
        · refine e_Pn.sw (tg := 73) kAlk rfl (by rw [h29]; rfl) ?_
          replace h29 : (w17 1 5 : Int) = 6 := h29
          refine e_Pn.run (t' := (75, [(0, (1, 1))], [(0, 22)], w17)) kAlk 1 rfl ?_
          refine e_Pn.ret1 rfl ?_
          show e_Pn 20 elay kcode eI n d 160 (55, [(0, (1, 1))], [(0, 22)], w17) _
          refine e_Pn.run (t' := (59, [(1, (0, 22)), (0, (1, 1))], [(0, 49), (0, 22)], w17)) kAlk 3 rfl ?_
          refine e_Pn.if2 kAlk rfl (fun h103 => ?_) (fun h103 => ?_)
          · replace h103 : (22 : Int) ≠ 49 := h103
            refine e_Pn.run (t' := (64, [(1, (0, 22)), (0, (1, 1))], [(1, 1)], w17)) kAlk 1 rfl ?_
            replace hM := hM.st (t' := (52, [(0, (1, 275))], [(1, 275)], v14)) (fun _ _ q => e_Pn.run eAlk 1 rfl q)
            obtain ⟨b104, hM⟩ := hM.of (fun _ _ q => e_Pn.getf (z := 0) eAlk rfl rfl s24.1.2.1.1.2 q)
            rcases hM.or (fun _ _ q1 q2 => e_Pn.if1 eAlk rfl q1 q2) with ⟨h105, hM⟩ | ⟨h105, hM⟩
            · replace h105 : (0 : Int) ≠ 0 := h105
              exfalso; omega
            · replace h105 : (0 : Int) = 0 := by have q : ¬ ((0 : Int) ≠ 0) := h105; omega
              replace hM := hM.st (t' := (59, [(0, (1, 275))], [(1, 275)], v14)) (fun _ _ q => e_Pn.run eAlk 1 rfl q)
              obtain ⟨b106, hM⟩ := hM.of (fun _ _ q => e_Pn.getf (z := 3) eAlk rfl rfl ((kM_s108 s24.1.2.1.2.2.1).mpr (by omega)).1 q)
              replace hM := hM.st (t' := (63, [(0, (1, 275))], [(0, 3), (0, 3)], v14)) (fun _ _ q => e_Pn.run eAlk 1 rfl q)
              rcases hM.or (fun _ _ q1 q2 => e_Pn.if2 eAlk rfl q1 q2) with ⟨h107, hM⟩ | ⟨h107, hM⟩
              · replace h107 : (3 : Int) = 3 := h107
                replace hM := hM.st (t' := (71, [(0, (1, 275))], [(1, 275)], v14)) (fun _ _ q => e_Pn.run eAlk 1 rfl q)
                obtain ⟨b108, hM⟩ := hM.of (fun _ _ q => e_Pn.getf (z := 108) eAlk rfl rfl ((kM_s108 s24.1.2.1.2.2.1).mpr (by omega)).2 q)
                replace hM := hM.st (t' := (76, [(0, (1, 275))], [(0, 61), (0, 108)], v14)) (fun _ _ q => e_Pn.run eAlk 1 rfl q)
                rcases hM.or (fun _ _ q1 q2 => e_Pn.if2 eAlk rfl q1 q2) with ⟨h109, hM⟩ | ⟨h109, hM⟩
                · replace h109 : (108 : Int) ≠ 61 := h109
                  replace hM := hM.st (t' := (85, [(0, (1, 275))], [(1, 275)], v14)) (fun _ _ q => e_Pn.run eAlk 1 rfl q)
                  obtain ⟨b110, hM⟩ := hM.of (fun _ _ q => e_Pn.getf (z := 108) eAlk rfl rfl ((kM_s108 s24.1.2.1.2.2.1).mpr (by omega)).2 q)
                  replace hM := hM.st (t' := (90, [(0, (1, 275))], [(0, 110), (0, 108)], v14)) (fun _ _ q => e_Pn.run eAlk 1 rfl q)
                  rcases hM.or (fun _ _ q1 q2 => e_Pn.if2 eAlk rfl q1 q2) with ⟨h111, hM⟩ | ⟨h111, hM⟩
                  · replace h111 : (108 : Int) ≠ 110 := h111
                    replace hM := hM.st (t' := (99, [(0, (1, 275))], [(1, 275)], v14)) (fun _ _ q => e_Pn.run eAlk 1 rfl q)
                    obtain ⟨b112, hM⟩ := hM.of (fun _ _ q => e_Pn.getf (z := 108) eAlk rfl rfl ((kM_s108 s24.1.2.1.2.2.1).mpr (by omega)).2 q)
                    replace hM := hM.st (t' := (104, [(0, (1, 275))], [(0, 60), (0, 108)], v14)) (fun _ _ q => e_Pn.run eAlk 1 rfl q)
                    rcases hM.or (fun _ _ q1 q2 => e_Pn.if2 eAlk rfl q1 q2) with ⟨h113, hM⟩ | ⟨h113, hM⟩
                    · replace h113 : (108 : Int) ≠ 60 := h113
                      replace hM := hM.st (t' := (113, [(0, (1, 275))], [(1, 275)], v14)) (fun _ _ q => e_Pn.run eAlk 1 rfl q)
                      obtain ⟨b114, hM⟩ := hM.of (fun _ _ q => e_Pn.getf (z := 108) eAlk rfl rfl ((kM_s108 s24.1.2.1.2.2.1).mpr (by omega)).2 q)
                      replace hM := hM.st (t' := (118, [(0, (1, 275))], [(0, 108), (0, 108)], v14)) (fun _ _ q => e_Pn.run eAlk 1 rfl q)
                      rcases hM.or (fun _ _ q1 q2 => e_Pn.if2 eAlk rfl q1 q2) with ⟨h115, hM⟩ | ⟨h115, hM⟩
                      · replace h115 : (108 : Int) ≠ 108 := h115
                        exfalso; omega
                      · replace h115 : (108 : Int) = 108 := by have q : ¬ ((108 : Int) ≠ 108) := h115; omega
                        replace hM := hM.st (t' := (157, [(1, (0, 18)), (0, (1, 275))], [(0, 18)], v14)) (fun _ _ q => e_Pn.run eAlk 4 rfl q)
                        rcases hM.or (fun _ _ q1 q2 => e_Pn.if1 eAlk rfl q1 q2) with ⟨h116, hM⟩ | ⟨h116, hM⟩
                        · replace h116 : (18 : Int) = 0 := h116
                          exfalso; omega
                        · replace h116 : (18 : Int) ≠ 0 := by have q : ¬ ((18 : Int) = 0) := h116; omega
                          replace hM := hM.st (t' := (161, [(1, (0, 18)), (0, (1, 275))], [(1, 275)], v14)) (fun _ _ q => e_Pn.run eAlk 1 rfl q)
                          obtain ⟨dc117, r118, v119, hc120, hM⟩ := hM.ca rfl
                          refine e_Pn.callA rfl (fun nq dq => t_123b s24.1.1 s24.1.2.1.1 s24.1.2.1.2.1.2.1 (st.nx s24) (d' := dc117) hc120) (fun r121 w122 h123 => ?_)
                          obtain ⟨rfl, rfl, h123⟩ := h123
                          have s124 := st.ad (k := 1) s24 h123 (st.len1 s24 (by omega)) (by omega)
                          have s124n := h123.2.2.2.1
                          have s124m := st.len1 s24 (by omega)
                          have q125 := st.nums s124
                          show e_Pn 20 elay kcode eI n d 160 (67, [(1, (0, 22)), (0, (1, 1))], [], w122) _
                          replace hM : e_Rn 20 elay ecode eI d' 342 (164, [(1, (0, 18)), (0, (1, 275))], [], v119) r' v' := hM
                          refine e_Pn.run (t' := (68, [(1, (0, 22)), (0, (1, 1))], [(1, 1)], w122)) kAlk 1 rfl ?_
                          replace hM := hM.st (t' := (165, [(1, (0, 18)), (0, (1, 275))], [(1, 275)], v119)) (fun _ _ q => e_Pn.run eAlk 1 rfl q)
                          obtain ⟨dc126, r127, v128, hc129, hM⟩ := hM.ca rfl
                          have uhc129 := hc129.pn (fun nq => uE_all nq 343 (by decide) _ _ s124.1.2.2.2.2.1)
                          have z133 : stE N cd w122 v119 := st.zE s124 (by omega) (by omega)
                          refine e_Pn.callB rfl (fun k9 hk9 d9 => e_Pn.and (ihG k9 (by omega) 162 343 (by decide) _ _ _ _ _ _ z133 hc129) (kE_all k9 162 (by decide) d9 _ _ s124.1.2.2.2.1)) (fun r130 w131 h132 => ?_)
                          obtain ⟨⟨rfl, rfl, h132⟩, -, h132k⟩ := h132
                          rcases h132.symm with h132 | ⟨h132, h132p⟩
                          · skip
                            replace hM : e_Rn 20 elay ecode eI d' 342 (168, [(1, (0, 18)), (0, (1, 275))], [], v128) r' v' := hM
                            obtain ⟨rfl, m134⟩ := (e_Rn.le eAlk [0, 1] rfl rfl hM).pn (fun nq => v_342_168 (uhc129.2.rf s124.1.2.2.2.2.1) _ 18 v128 mq.r)
                            show e_Pn 20 elay kcode eI n d 160 (71, [(1, (0, 22)), (0, (1, 1))], [], w131) _
                            refine e_Pn.ord kAlk [0, 1] rfl rfl ((v_160_71 (h132k.rf s124.1.2.2.2.1) _ 22 w131 kq.r).imp (fun r136 w137 k135 => ?_))
                            obtain ⟨rfl, k135⟩ := k135
                            exact ⟨rfl, rfl, Or.inr (rpF.tail h132 k135 m134)⟩
                          have s138 := st.re (l' := w 1 13) (m' := v 275 82) (t' := w 1 12) (st.tr s124 h132) (Int.le_refl _) rfl (by omega) (by omega) (by omega)
                          have q139 := st.nums s138
                          show e_Pn 20 elay kcode eI n d 160 (71, [(1, (0, 22)), (0, (1, 1))], [], w131) _
                          replace hM : e_Rn 20 elay ecode eI d' 342 (168, [(1, (0, 18)), (0, (1, 275))], [], v128) r' v' := hM
                          refine e_Pn.run (t' := (72, [(1, (0, 22)), (0, (1, 1))], [(1, 1)], w131)) kAlk 1 rfl ?_
                          refine e_Pn.getr (z := cd) kAlk rfl rfl s138.1.2.2.2.1.2.1 (by omega) ?_
                          refine e_Pn.run (t' := (77, [(1, (0, 22)), (0, (1, 1))], [(0, 0), (0, 22), (1, cd)], w131)) kAlk 2 rfl ?_
                          refine e_Pn.callA rfl (fun nq dq => l_21 s138.1.2.2.2.1 (op := 22) (od := 0) (by omega) (by omega) s138.1.2.2.2.2.2.1) (fun r140 w141 h142 => ?_)
                          obtain ⟨z143, rfl, w141f, w141q⟩ := h142
                          have w141k := kRw.em s138.1.2.2.2.1 w141f
                          have w141l := (emQ.len w141q s138.1.2.2.2.2.2.1).1
                          have w141e : w141 1 5 = w131 1 5 ∧ w141 1 6 = w131 1 6 ∧ w141 1 8 = w131 1 8 := ⟨w141f 1 5 (by unfold kEm; omega), w141f 1 6 (by unfold kEm; omega), w141f 1 8 (by unfold kEm; omega)⟩
                          have s144 := st.em s138 w141f w141q (by omega) (by unfold isCl3; omega)
                          have q145 := st.nums s144
                          have z143r : 0 ≤ z143 ∧ z143 ≤ 4000 := emQ.z w141q s138.1.2.2.2.2.2.1
                          show e_Pn 20 elay kcode eI n d 160 (80, [(1, (0, 22)), (0, (1, 1))], [(0, z143)], w141) _
                          refine e_Pn.run (t' := (81, [(1, (0, 22)), (0, (1, 1))], [], w141)) kAlk 1 rfl ?_
                          replace hM := hM.st (t' := (171, [(1, (0, 18)), (0, (1, 275))], [(0, 0), (0, 18), (1, 275)], v128)) (fun _ _ q => e_Pn.run eAlk 3 rfl q)
                          obtain ⟨dc146, r147, v148, hc149, hM⟩ := hM.ca rfl
                          obtain ⟨⟨z150, rfl⟩, v148f⟩ := hc149.pn (fun nq => x_336 s138.1.2.2.2.2.1)
                          have v148m := mfr.rf v148f s138.1.2.2.2.2.1
                          replace hM : e_Rn 20 elay ecode eI d' 342 (174, [(1, (0, 18)), (0, (1, 275))], [(0, z150)], v148) r' v' := hM
                          replace hM := hM.st (t' := (175, [(1, (0, 18)), (0, (1, 275))], [], v148)) (fun _ _ q => e_Pn.run eAlk 1 rfl q)
                          have e152a : w141 1 11 = w141 1 11 := rfl
                          have e152b : v148 275 83 = v128 275 83 := (v148f 275 83 (by unfold mEm; omega))
                          have e152c : w141 1 13 = w141 1 13 := rfl
                          have e152d : v148 275 82 = v128 275 82 := (v148f 275 82 (by unfold mEm; omega))
                          have e152f : w141 1 12 = w141 1 12 := rfl
                          have e152e : v148 275 80 = v128 275 80 := (v148f 275 80 (by unfold mEm; omega))
                          have s151 := st.gen (o' := 0) (l' := w 1 13) (m' := v 275 82) (t' := w 1 12) (b' := 0) s144 (e_fr.refl w141) (e_fr.trans (e_fr.refl v128) (e_fr.mono v148f (fun c k q => by unfold mEm at q; unfold mGs; omega))) (by omega) (by omega) (by omega) (by omega)
                          have q153 := st.nums s151
                          obtain ⟨rfl, rfl⟩ := hM.re0 rfl
                          refine e_Pn.ret0 rfl ?_
                          exact ⟨rfl, rfl, Or.inl ⟨st.re s151 (by omega) (by omega) (by omega) (by omega) (by omega), by omega⟩⟩
                    · replace h113 : (108 : Int) = 60 := by have q : ¬ ((108 : Int) ≠ 60) := h113; omega
                      exfalso; omega
                  · replace h111 : (108 : Int) = 110 := by have q : ¬ ((108 : Int) ≠ 110) := h111; omega
                    exfalso; omega
                · replace h109 : (108 : Int) = 61 := by have q : ¬ ((108 : Int) ≠ 61) := h109; omega
                  exfalso; omega
              · replace h107 : (3 : Int) ≠ 3 := by have q : ¬ ((3 : Int) = 3) := h107; omega
                exfalso; omega
          · replace h103 : (22 : Int) = 49 := by have q : ¬ ((22 : Int) ≠ 49) := h103; omega
            exfalso; omega
        · refine e_Pn.sw (tg := 79) kAlk rfl (by rw [h29]; rfl) ?_
          replace h29 : (w17 1 5 : Int) = 7 := h29
          refine e_Pn.run (t' := (81, [(0, (1, 1))], [(0, 24)], w17)) kAlk 1 rfl ?_
          refine e_Pn.ret1 rfl ?_
          show e_Pn 20 elay kcode eI n d 160 (55, [(0, (1, 1))], [(0, 24)], w17) _
          refine e_Pn.run (t' := (59, [(1, (0, 24)), (0, (1, 1))], [(0, 49), (0, 24)], w17)) kAlk 3 rfl ?_
          refine e_Pn.if2 kAlk rfl (fun h154 => ?_) (fun h154 => ?_)
          · replace h154 : (24 : Int) ≠ 49 := h154
            refine e_Pn.run (t' := (64, [(1, (0, 24)), (0, (1, 1))], [(1, 1)], w17)) kAlk 1 rfl ?_
            replace hM := hM.st (t' := (52, [(0, (1, 275))], [(1, 275)], v14)) (fun _ _ q => e_Pn.run eAlk 1 rfl q)
            obtain ⟨b155, hM⟩ := hM.of (fun _ _ q => e_Pn.getf (z := 0) eAlk rfl rfl s24.1.2.1.1.2 q)
            rcases hM.or (fun _ _ q1 q2 => e_Pn.if1 eAlk rfl q1 q2) with ⟨h156, hM⟩ | ⟨h156, hM⟩
            · replace h156 : (0 : Int) ≠ 0 := h156
              exfalso; omega
            · replace h156 : (0 : Int) = 0 := by have q : ¬ ((0 : Int) ≠ 0) := h156; omega
              replace hM := hM.st (t' := (59, [(0, (1, 275))], [(1, 275)], v14)) (fun _ _ q => e_Pn.run eAlk 1 rfl q)
              obtain ⟨b157, hM⟩ := hM.of (fun _ _ q => e_Pn.getf (z := 3) eAlk rfl rfl ((kM_s103 s24.1.2.1.2.2.1).mpr (by omega)).1 q)
              replace hM := hM.st (t' := (63, [(0, (1, 275))], [(0, 3), (0, 3)], v14)) (fun _ _ q => e_Pn.run eAlk 1 rfl q)
              rcases hM.or (fun _ _ q1 q2 => e_Pn.if2 eAlk rfl q1 q2) with ⟨h158, hM⟩ | ⟨h158, hM⟩
              · replace h158 : (3 : Int) = 3 := h158
                replace hM := hM.st (t' := (71, [(0, (1, 275))], [(1, 275)], v14)) (fun _ _ q => e_Pn.run eAlk 1 rfl q)
                obtain ⟨b159, hM⟩ := hM.of (fun _ _ q => e_Pn.getf (z := 103) eAlk rfl rfl ((kM_s103 s24.1.2.1.2.2.1).mpr (by omega)).2 q)
                replace hM := hM.st (t' := (76, [(0, (1, 275))], [(0, 61), (0, 103)], v14)) (fun _ _ q => e_Pn.run eAlk 1 rfl q)
                rcases hM.or (fun _ _ q1 q2 => e_Pn.if2 eAlk rfl q1 q2) with ⟨h160, hM⟩ | ⟨h160, hM⟩
                · replace h160 : (103 : Int) ≠ 61 := h160
                  replace hM := hM.st (t' := (85, [(0, (1, 275))], [(1, 275)], v14)) (fun _ _ q => e_Pn.run eAlk 1 rfl q)
                  obtain ⟨b161, hM⟩ := hM.of (fun _ _ q => e_Pn.getf (z := 103) eAlk rfl rfl ((kM_s103 s24.1.2.1.2.2.1).mpr (by omega)).2 q)
                  replace hM := hM.st (t' := (90, [(0, (1, 275))], [(0, 110), (0, 103)], v14)) (fun _ _ q => e_Pn.run eAlk 1 rfl q)
                  rcases hM.or (fun _ _ q1 q2 => e_Pn.if2 eAlk rfl q1 q2) with ⟨h162, hM⟩ | ⟨h162, hM⟩
                  · replace h162 : (103 : Int) ≠ 110 := h162
                    replace hM := hM.st (t' := (99, [(0, (1, 275))], [(1, 275)], v14)) (fun _ _ q => e_Pn.run eAlk 1 rfl q)
                    obtain ⟨b163, hM⟩ := hM.of (fun _ _ q => e_Pn.getf (z := 103) eAlk rfl rfl ((kM_s103 s24.1.2.1.2.2.1).mpr (by omega)).2 q)
                    replace hM := hM.st (t' := (104, [(0, (1, 275))], [(0, 60), (0, 103)], v14)) (fun _ _ q => e_Pn.run eAlk 1 rfl q)
                    rcases hM.or (fun _ _ q1 q2 => e_Pn.if2 eAlk rfl q1 q2) with ⟨h164, hM⟩ | ⟨h164, hM⟩
                    · replace h164 : (103 : Int) ≠ 60 := h164
                      replace hM := hM.st (t' := (113, [(0, (1, 275))], [(1, 275)], v14)) (fun _ _ q => e_Pn.run eAlk 1 rfl q)
                      obtain ⟨b165, hM⟩ := hM.of (fun _ _ q => e_Pn.getf (z := 103) eAlk rfl rfl ((kM_s103 s24.1.2.1.2.2.1).mpr (by omega)).2 q)
                      replace hM := hM.st (t' := (118, [(0, (1, 275))], [(0, 108), (0, 103)], v14)) (fun _ _ q => e_Pn.run eAlk 1 rfl q)
                      rcases hM.or (fun _ _ q1 q2 => e_Pn.if2 eAlk rfl q1 q2) with ⟨h166, hM⟩ | ⟨h166, hM⟩
                      · replace h166 : (103 : Int) ≠ 108 := h166
                        replace hM := hM.st (t' := (127, [(0, (1, 275))], [(1, 275)], v14)) (fun _ _ q => e_Pn.run eAlk 1 rfl q)
                        obtain ⟨b167, hM⟩ := hM.of (fun _ _ q => e_Pn.getf (z := 103) eAlk rfl rfl ((kM_s103 s24.1.2.1.2.2.1).mpr (by omega)).2 q)
                        replace hM := hM.st (t' := (132, [(0, (1, 275))], [(0, 62), (0, 103)], v14)) (fun _ _ q => e_Pn.run eAlk 1 rfl q)
                        rcases hM.or (fun _ _ q1 q2 => e_Pn.if2 eAlk rfl q1 q2) with ⟨h168, hM⟩ | ⟨h168, hM⟩
                        · replace h168 : (103 : Int) ≠ 62 := h168
                          replace hM := hM.st (t' := (141, [(0, (1, 275))], [(1, 275)], v14)) (fun _ _ q => e_Pn.run eAlk 1 rfl q)
                          obtain ⟨b169, hM⟩ := hM.of (fun _ _ q => e_Pn.getf (z := 103) eAlk rfl rfl ((kM_s103 s24.1.2.1.2.2.1).mpr (by omega)).2 q)
                          replace hM := hM.st (t' := (146, [(0, (1, 275))], [(0, 103), (0, 103)], v14)) (fun _ _ q => e_Pn.run eAlk 1 rfl q)
                          rcases hM.or (fun _ _ q1 q2 => e_Pn.if2 eAlk rfl q1 q2) with ⟨h170, hM⟩ | ⟨h170, hM⟩
                          · replace h170 : (103 : Int) ≠ 103 := h170
                            exfalso; omega
                          · replace h170 : (103 : Int) = 103 := by have q : ¬ ((103 : Int) ≠ 103) := h170; omega
                            replace hM := hM.st (t' := (157, [(1, (0, 20)), (0, (1, 275))], [(0, 20)], v14)) (fun _ _ q => e_Pn.run eAlk 4 rfl q)
                            rcases hM.or (fun _ _ q1 q2 => e_Pn.if1 eAlk rfl q1 q2) with ⟨h171, hM⟩ | ⟨h171, hM⟩
                            · replace h171 : (20 : Int) = 0 := h171
                              exfalso; omega
                            · replace h171 : (20 : Int) ≠ 0 := by have q : ¬ ((20 : Int) = 0) := h171; omega
                              replace hM := hM.st (t' := (161, [(1, (0, 20)), (0, (1, 275))], [(1, 275)], v14)) (fun _ _ q => e_Pn.run eAlk 1 rfl q)
                              obtain ⟨dc172, r173, v174, hc175, hM⟩ := hM.ca rfl
                              refine e_Pn.callA rfl (fun nq dq => t_123b s24.1.1 s24.1.2.1.1 s24.1.2.1.2.1.2.1 (st.nx s24) (d' := dc172) hc175) (fun r176 w177 h178 => ?_)
                              obtain ⟨rfl, rfl, h178⟩ := h178
                              have s179 := st.ad (k := 1) s24 h178 (st.len1 s24 (by omega)) (by omega)
                              have s179n := h178.2.2.2.1
                              have s179m := st.len1 s24 (by omega)
                              have q180 := st.nums s179
                              show e_Pn 20 elay kcode eI n d 160 (67, [(1, (0, 24)), (0, (1, 1))], [], w177) _
                              replace hM : e_Rn 20 elay ecode eI d' 342 (164, [(1, (0, 20)), (0, (1, 275))], [], v174) r' v' := hM
                              refine e_Pn.run (t' := (68, [(1, (0, 24)), (0, (1, 1))], [(1, 1)], w177)) kAlk 1 rfl ?_
                              replace hM := hM.st (t' := (165, [(1, (0, 20)), (0, (1, 275))], [(1, 275)], v174)) (fun _ _ q => e_Pn.run eAlk 1 rfl q)
                              obtain ⟨dc181, r182, v183, hc184, hM⟩ := hM.ca rfl
                              have uhc184 := hc184.pn (fun nq => uE_all nq 343 (by decide) _ _ s179.1.2.2.2.2.1)
                              have z188 : stE N cd w177 v174 := st.zE s179 (by omega) (by omega)
                              refine e_Pn.callB rfl (fun k9 hk9 d9 => e_Pn.and (ihG k9 (by omega) 162 343 (by decide) _ _ _ _ _ _ z188 hc184) (kE_all k9 162 (by decide) d9 _ _ s179.1.2.2.2.1)) (fun r185 w186 h187 => ?_)
                              obtain ⟨⟨rfl, rfl, h187⟩, -, h187k⟩ := h187
                              rcases h187.symm with h187 | ⟨h187, h187p⟩
                              · skip
                                replace hM : e_Rn 20 elay ecode eI d' 342 (168, [(1, (0, 20)), (0, (1, 275))], [], v183) r' v' := hM
                                obtain ⟨rfl, m189⟩ := (e_Rn.le eAlk [0, 1] rfl rfl hM).pn (fun nq => v_342_168 (uhc184.2.rf s179.1.2.2.2.2.1) _ 20 v183 mq.r)
                                show e_Pn 20 elay kcode eI n d 160 (71, [(1, (0, 24)), (0, (1, 1))], [], w186) _
                                refine e_Pn.ord kAlk [0, 1] rfl rfl ((v_160_71 (h187k.rf s179.1.2.2.2.1) _ 24 w186 kq.r).imp (fun r191 w192 k190 => ?_))
                                obtain ⟨rfl, k190⟩ := k190
                                exact ⟨rfl, rfl, Or.inr (rpF.tail h187 k190 m189)⟩
                              have s193 := st.re (l' := w 1 13) (m' := v 275 82) (t' := w 1 12) (st.tr s179 h187) (Int.le_refl _) rfl (by omega) (by omega) (by omega)
                              have q194 := st.nums s193
                              show e_Pn 20 elay kcode eI n d 160 (71, [(1, (0, 24)), (0, (1, 1))], [], w186) _
                              replace hM : e_Rn 20 elay ecode eI d' 342 (168, [(1, (0, 20)), (0, (1, 275))], [], v183) r' v' := hM
                              refine e_Pn.run (t' := (72, [(1, (0, 24)), (0, (1, 1))], [(1, 1)], w186)) kAlk 1 rfl ?_
                              refine e_Pn.getr (z := cd) kAlk rfl rfl s193.1.2.2.2.1.2.1 (by omega) ?_
                              refine e_Pn.run (t' := (77, [(1, (0, 24)), (0, (1, 1))], [(0, 0), (0, 24), (1, cd)], w186)) kAlk 2 rfl ?_
                              refine e_Pn.callA rfl (fun nq dq => l_21 s193.1.2.2.2.1 (op := 24) (od := 0) (by omega) (by omega) s193.1.2.2.2.2.2.1) (fun r195 w196 h197 => ?_)
                              obtain ⟨z198, rfl, w196f, w196q⟩ := h197
                              have w196k := kRw.em s193.1.2.2.2.1 w196f
                              have w196l := (emQ.len w196q s193.1.2.2.2.2.2.1).1
                              have w196e : w196 1 5 = w186 1 5 ∧ w196 1 6 = w186 1 6 ∧ w196 1 8 = w186 1 8 := ⟨w196f 1 5 (by unfold kEm; omega), w196f 1 6 (by unfold kEm; omega), w196f 1 8 (by unfold kEm; omega)⟩
                              have s199 := st.em s193 w196f w196q (by omega) (by unfold isCl3; omega)
                              have q200 := st.nums s199
                              have z198r : 0 ≤ z198 ∧ z198 ≤ 4000 := emQ.z w196q s193.1.2.2.2.2.2.1
                              show e_Pn 20 elay kcode eI n d 160 (80, [(1, (0, 24)), (0, (1, 1))], [(0, z198)], w196) _
                              refine e_Pn.run (t' := (81, [(1, (0, 24)), (0, (1, 1))], [], w196)) kAlk 1 rfl ?_
                              replace hM := hM.st (t' := (171, [(1, (0, 20)), (0, (1, 275))], [(0, 0), (0, 20), (1, 275)], v183)) (fun _ _ q => e_Pn.run eAlk 3 rfl q)
                              obtain ⟨dc201, r202, v203, hc204, hM⟩ := hM.ca rfl
                              obtain ⟨⟨z205, rfl⟩, v203f⟩ := hc204.pn (fun nq => x_336 s193.1.2.2.2.2.1)
                              have v203m := mfr.rf v203f s193.1.2.2.2.2.1
                              replace hM : e_Rn 20 elay ecode eI d' 342 (174, [(1, (0, 20)), (0, (1, 275))], [(0, z205)], v203) r' v' := hM
                              replace hM := hM.st (t' := (175, [(1, (0, 20)), (0, (1, 275))], [], v203)) (fun _ _ q => e_Pn.run eAlk 1 rfl q)
                              have e207a : w196 1 11 = w196 1 11 := rfl
                              have e207b : v203 275 83 = v183 275 83 := (v203f 275 83 (by unfold mEm; omega))
                              have e207c : w196 1 13 = w196 1 13 := rfl
                              have e207d : v203 275 82 = v183 275 82 := (v203f 275 82 (by unfold mEm; omega))
                              have e207f : w196 1 12 = w196 1 12 := rfl
                              have e207e : v203 275 80 = v183 275 80 := (v203f 275 80 (by unfold mEm; omega))
                              have s206 := st.gen (o' := 0) (l' := w 1 13) (m' := v 275 82) (t' := w 1 12) (b' := 0) s199 (e_fr.refl w196) (e_fr.trans (e_fr.refl v183) (e_fr.mono v203f (fun c k q => by unfold mEm at q; unfold mGs; omega))) (by omega) (by omega) (by omega) (by omega)
                              have q208 := st.nums s206
                              obtain ⟨rfl, rfl⟩ := hM.re0 rfl
                              refine e_Pn.ret0 rfl ?_
                              exact ⟨rfl, rfl, Or.inl ⟨st.re s206 (by omega) (by omega) (by omega) (by omega) (by omega), by omega⟩⟩
                        · replace h168 : (103 : Int) = 62 := by have q : ¬ ((103 : Int) ≠ 62) := h168; omega
                          exfalso; omega
                      · replace h166 : (103 : Int) = 108 := by have q : ¬ ((103 : Int) ≠ 108) := h166; omega
                        exfalso; omega
                    · replace h164 : (103 : Int) = 60 := by have q : ¬ ((103 : Int) ≠ 60) := h164; omega
                      exfalso; omega
                  · replace h162 : (103 : Int) = 110 := by have q : ¬ ((103 : Int) ≠ 110) := h162; omega
                    exfalso; omega
                · replace h160 : (103 : Int) = 61 := by have q : ¬ ((103 : Int) ≠ 61) := h160; omega
                  exfalso; omega
              · replace h158 : (3 : Int) ≠ 3 := by have q : ¬ ((3 : Int) = 3) := h158; omega
                exfalso; omega
          · replace h154 : (24 : Int) = 49 := by have q : ¬ ((24 : Int) ≠ 49) := h154; omega
            exfalso; omega
        · refine e_Pn.sw (tg := 64) kAlk rfl (by rw [h29]; rfl) ?_
          replace h29 : (w17 1 5 : Int) = 13 := h29
          refine e_Pn.run (t' := (66, [(0, (1, 1))], [(0, 19)], w17)) kAlk 1 rfl ?_
          refine e_Pn.ret1 rfl ?_
          show e_Pn 20 elay kcode eI n d 160 (55, [(0, (1, 1))], [(0, 19)], w17) _
          refine e_Pn.run (t' := (59, [(1, (0, 19)), (0, (1, 1))], [(0, 49), (0, 19)], w17)) kAlk 3 rfl ?_
          refine e_Pn.if2 kAlk rfl (fun h209 => ?_) (fun h209 => ?_)
          · replace h209 : (19 : Int) ≠ 49 := h209
            refine e_Pn.run (t' := (64, [(1, (0, 19)), (0, (1, 1))], [(1, 1)], w17)) kAlk 1 rfl ?_
            replace hM := hM.st (t' := (52, [(0, (1, 275))], [(1, 275)], v14)) (fun _ _ q => e_Pn.run eAlk 1 rfl q)
            obtain ⟨b210, hM⟩ := hM.of (fun _ _ q => e_Pn.getf (z := 0) eAlk rfl rfl s24.1.2.1.1.2 q)
            rcases hM.or (fun _ _ q1 q2 => e_Pn.if1 eAlk rfl q1 q2) with ⟨h211, hM⟩ | ⟨h211, hM⟩
            · replace h211 : (0 : Int) ≠ 0 := h211
              exfalso; omega
            · replace h211 : (0 : Int) = 0 := by have q : ¬ ((0 : Int) ≠ 0) := h211; omega
              replace hM := hM.st (t' := (59, [(0, (1, 275))], [(1, 275)], v14)) (fun _ _ q => e_Pn.run eAlk 1 rfl q)
              obtain ⟨b212, hM⟩ := hM.of (fun _ _ q => e_Pn.getf (z := 3) eAlk rfl rfl ((kM_s61 s24.1.2.1.2.2.1).mpr (by omega)).1 q)
              replace hM := hM.st (t' := (63, [(0, (1, 275))], [(0, 3), (0, 3)], v14)) (fun _ _ q => e_Pn.run eAlk 1 rfl q)
              rcases hM.or (fun _ _ q1 q2 => e_Pn.if2 eAlk rfl q1 q2) with ⟨h213, hM⟩ | ⟨h213, hM⟩
              · replace h213 : (3 : Int) = 3 := h213
                replace hM := hM.st (t' := (71, [(0, (1, 275))], [(1, 275)], v14)) (fun _ _ q => e_Pn.run eAlk 1 rfl q)
                obtain ⟨b214, hM⟩ := hM.of (fun _ _ q => e_Pn.getf (z := 61) eAlk rfl rfl ((kM_s61 s24.1.2.1.2.2.1).mpr (by omega)).2 q)
                replace hM := hM.st (t' := (76, [(0, (1, 275))], [(0, 61), (0, 61)], v14)) (fun _ _ q => e_Pn.run eAlk 1 rfl q)
                rcases hM.or (fun _ _ q1 q2 => e_Pn.if2 eAlk rfl q1 q2) with ⟨h215, hM⟩ | ⟨h215, hM⟩
                · replace h215 : (61 : Int) ≠ 61 := h215
                  exfalso; omega
                · replace h215 : (61 : Int) = 61 := by have q : ¬ ((61 : Int) ≠ 61) := h215; omega
                  replace hM := hM.st (t' := (157, [(1, (0, 15)), (0, (1, 275))], [(0, 15)], v14)) (fun _ _ q => e_Pn.run eAlk 4 rfl q)
                  rcases hM.or (fun _ _ q1 q2 => e_Pn.if1 eAlk rfl q1 q2) with ⟨h216, hM⟩ | ⟨h216, hM⟩
                  · replace h216 : (15 : Int) = 0 := h216
                    exfalso; omega
                  · replace h216 : (15 : Int) ≠ 0 := by have q : ¬ ((15 : Int) = 0) := h216; omega
                    replace hM := hM.st (t' := (161, [(1, (0, 15)), (0, (1, 275))], [(1, 275)], v14)) (fun _ _ q => e_Pn.run eAlk 1 rfl q)
                    obtain ⟨dc217, r218, v219, hc220, hM⟩ := hM.ca rfl
                    refine e_Pn.callA rfl (fun nq dq => t_123b s24.1.1 s24.1.2.1.1 s24.1.2.1.2.1.2.1 (st.nx s24) (d' := dc217) hc220) (fun r221 w222 h223 => ?_)
                    obtain ⟨rfl, rfl, h223⟩ := h223
                    have s224 := st.ad (k := 1) s24 h223 (st.len1 s24 (by omega)) (by omega)
                    have s224n := h223.2.2.2.1
                    have s224m := st.len1 s24 (by omega)
                    have q225 := st.nums s224
                    show e_Pn 20 elay kcode eI n d 160 (67, [(1, (0, 19)), (0, (1, 1))], [], w222) _
                    replace hM : e_Rn 20 elay ecode eI d' 342 (164, [(1, (0, 15)), (0, (1, 275))], [], v219) r' v' := hM
                    refine e_Pn.run (t' := (68, [(1, (0, 19)), (0, (1, 1))], [(1, 1)], w222)) kAlk 1 rfl ?_
                    replace hM := hM.st (t' := (165, [(1, (0, 15)), (0, (1, 275))], [(1, 275)], v219)) (fun _ _ q => e_Pn.run eAlk 1 rfl q)
                    obtain ⟨dc226, r227, v228, hc229, hM⟩ := hM.ca rfl
                    have uhc229 := hc229.pn (fun nq => uE_all nq 343 (by decide) _ _ s224.1.2.2.2.2.1)
                    have z233 : stE N cd w222 v219 := st.zE s224 (by omega) (by omega)
                    refine e_Pn.callB rfl (fun k9 hk9 d9 => e_Pn.and (ihG k9 (by omega) 162 343 (by decide) _ _ _ _ _ _ z233 hc229) (kE_all k9 162 (by decide) d9 _ _ s224.1.2.2.2.1)) (fun r230 w231 h232 => ?_)
                    obtain ⟨⟨rfl, rfl, h232⟩, -, h232k⟩ := h232
                    rcases h232.symm with h232 | ⟨h232, h232p⟩
                    · skip
                      replace hM : e_Rn 20 elay ecode eI d' 342 (168, [(1, (0, 15)), (0, (1, 275))], [], v228) r' v' := hM
                      obtain ⟨rfl, m234⟩ := (e_Rn.le eAlk [0, 1] rfl rfl hM).pn (fun nq => v_342_168 (uhc229.2.rf s224.1.2.2.2.2.1) _ 15 v228 mq.r)
                      show e_Pn 20 elay kcode eI n d 160 (71, [(1, (0, 19)), (0, (1, 1))], [], w231) _
                      refine e_Pn.ord kAlk [0, 1] rfl rfl ((v_160_71 (h232k.rf s224.1.2.2.2.1) _ 19 w231 kq.r).imp (fun r236 w237 k235 => ?_))
                      obtain ⟨rfl, k235⟩ := k235
                      exact ⟨rfl, rfl, Or.inr (rpF.tail h232 k235 m234)⟩
                    have s238 := st.re (l' := w 1 13) (m' := v 275 82) (t' := w 1 12) (st.tr s224 h232) (Int.le_refl _) rfl (by omega) (by omega) (by omega)
                    have q239 := st.nums s238
                    show e_Pn 20 elay kcode eI n d 160 (71, [(1, (0, 19)), (0, (1, 1))], [], w231) _
                    replace hM : e_Rn 20 elay ecode eI d' 342 (168, [(1, (0, 15)), (0, (1, 275))], [], v228) r' v' := hM
                    refine e_Pn.run (t' := (72, [(1, (0, 19)), (0, (1, 1))], [(1, 1)], w231)) kAlk 1 rfl ?_
                    refine e_Pn.getr (z := cd) kAlk rfl rfl s238.1.2.2.2.1.2.1 (by omega) ?_
                    refine e_Pn.run (t' := (77, [(1, (0, 19)), (0, (1, 1))], [(0, 0), (0, 19), (1, cd)], w231)) kAlk 2 rfl ?_
                    refine e_Pn.callA rfl (fun nq dq => l_21 s238.1.2.2.2.1 (op := 19) (od := 0) (by omega) (by omega) s238.1.2.2.2.2.2.1) (fun r240 w241 h242 => ?_)
                    obtain ⟨z243, rfl, w241f, w241q⟩ := h242
                    have w241k := kRw.em s238.1.2.2.2.1 w241f
                    have w241l := (emQ.len w241q s238.1.2.2.2.2.2.1).1
                    have w241e : w241 1 5 = w231 1 5 ∧ w241 1 6 = w231 1 6 ∧ w241 1 8 = w231 1 8 := ⟨w241f 1 5 (by unfold kEm; omega), w241f 1 6 (by unfold kEm; omega), w241f 1 8 (by unfold kEm; omega)⟩
                    have s244 := st.em s238 w241f w241q (by omega) (by unfold isCl3; omega)
                    have q245 := st.nums s244
                    have z243r : 0 ≤ z243 ∧ z243 ≤ 4000 := emQ.z w241q s238.1.2.2.2.2.2.1
                    show e_Pn 20 elay kcode eI n d 160 (80, [(1, (0, 19)), (0, (1, 1))], [(0, z243)], w241) _
                    refine e_Pn.run (t' := (81, [(1, (0, 19)), (0, (1, 1))], [], w241)) kAlk 1 rfl ?_
                    replace hM := hM.st (t' := (171, [(1, (0, 15)), (0, (1, 275))], [(0, 0), (0, 15), (1, 275)], v228)) (fun _ _ q => e_Pn.run eAlk 3 rfl q)
                    obtain ⟨dc246, r247, v248, hc249, hM⟩ := hM.ca rfl
                    obtain ⟨⟨z250, rfl⟩, v248f⟩ := hc249.pn (fun nq => x_336 s238.1.2.2.2.2.1)
                    have v248m := mfr.rf v248f s238.1.2.2.2.2.1
                    replace hM : e_Rn 20 elay ecode eI d' 342 (174, [(1, (0, 15)), (0, (1, 275))], [(0, z250)], v248) r' v' := hM
                    replace hM := hM.st (t' := (175, [(1, (0, 15)), (0, (1, 275))], [], v248)) (fun _ _ q => e_Pn.run eAlk 1 rfl q)
                    have e252a : w241 1 11 = w241 1 11 := rfl
                    have e252b : v248 275 83 = v228 275 83 := (v248f 275 83 (by unfold mEm; omega))
                    have e252c : w241 1 13 = w241 1 13 := rfl
                    have e252d : v248 275 82 = v228 275 82 := (v248f 275 82 (by unfold mEm; omega))
                    have e252f : w241 1 12 = w241 1 12 := rfl
                    have e252e : v248 275 80 = v228 275 80 := (v248f 275 80 (by unfold mEm; omega))
                    have s251 := st.gen (o' := 0) (l' := w 1 13) (m' := v 275 82) (t' := w 1 12) (b' := 0) s244 (e_fr.refl w241) (e_fr.trans (e_fr.refl v228) (e_fr.mono v248f (fun c k q => by unfold mEm at q; unfold mGs; omega))) (by omega) (by omega) (by omega) (by omega)
                    have q253 := st.nums s251
                    obtain ⟨rfl, rfl⟩ := hM.re0 rfl
                    refine e_Pn.ret0 rfl ?_
                    exact ⟨rfl, rfl, Or.inl ⟨st.re s251 (by omega) (by omega) (by omega) (by omega) (by omega), by omega⟩⟩
              · replace h213 : (3 : Int) ≠ 3 := by have q : ¬ ((3 : Int) = 3) := h213; omega
                exfalso; omega
          · replace h209 : (19 : Int) = 49 := by have q : ¬ ((19 : Int) ≠ 49) := h209; omega
            exfalso; omega
        · refine e_Pn.sw (tg := 70) kAlk rfl (by rw [h29]; rfl) ?_
          replace h29 : (w17 1 5 : Int) = 14 := h29
          refine e_Pn.run (t' := (72, [(0, (1, 1))], [(0, 21)], w17)) kAlk 1 rfl ?_
          refine e_Pn.ret1 rfl ?_
          show e_Pn 20 elay kcode eI n d 160 (55, [(0, (1, 1))], [(0, 21)], w17) _
          refine e_Pn.run (t' := (59, [(1, (0, 21)), (0, (1, 1))], [(0, 49), (0, 21)], w17)) kAlk 3 rfl ?_
          refine e_Pn.if2 kAlk rfl (fun h254 => ?_) (fun h254 => ?_)
          · replace h254 : (21 : Int) ≠ 49 := h254
            refine e_Pn.run (t' := (64, [(1, (0, 21)), (0, (1, 1))], [(1, 1)], w17)) kAlk 1 rfl ?_
            replace hM := hM.st (t' := (52, [(0, (1, 275))], [(1, 275)], v14)) (fun _ _ q => e_Pn.run eAlk 1 rfl q)
            obtain ⟨b255, hM⟩ := hM.of (fun _ _ q => e_Pn.getf (z := 0) eAlk rfl rfl s24.1.2.1.1.2 q)
            rcases hM.or (fun _ _ q1 q2 => e_Pn.if1 eAlk rfl q1 q2) with ⟨h256, hM⟩ | ⟨h256, hM⟩
            · replace h256 : (0 : Int) ≠ 0 := h256
              exfalso; omega
            · replace h256 : (0 : Int) = 0 := by have q : ¬ ((0 : Int) ≠ 0) := h256; omega
              replace hM := hM.st (t' := (59, [(0, (1, 275))], [(1, 275)], v14)) (fun _ _ q => e_Pn.run eAlk 1 rfl q)
              obtain ⟨b257, hM⟩ := hM.of (fun _ _ q => e_Pn.getf (z := 3) eAlk rfl rfl ((kM_s60 s24.1.2.1.2.2.1).mpr (by omega)).1 q)
              replace hM := hM.st (t' := (63, [(0, (1, 275))], [(0, 3), (0, 3)], v14)) (fun _ _ q => e_Pn.run eAlk 1 rfl q)
              rcases hM.or (fun _ _ q1 q2 => e_Pn.if2 eAlk rfl q1 q2) with ⟨h258, hM⟩ | ⟨h258, hM⟩
              · replace h258 : (3 : Int) = 3 := h258
                replace hM := hM.st (t' := (71, [(0, (1, 275))], [(1, 275)], v14)) (fun _ _ q => e_Pn.run eAlk 1 rfl q)
                obtain ⟨b259, hM⟩ := hM.of (fun _ _ q => e_Pn.getf (z := 60) eAlk rfl rfl ((kM_s60 s24.1.2.1.2.2.1).mpr (by omega)).2 q)
                replace hM := hM.st (t' := (76, [(0, (1, 275))], [(0, 61), (0, 60)], v14)) (fun _ _ q => e_Pn.run eAlk 1 rfl q)
                rcases hM.or (fun _ _ q1 q2 => e_Pn.if2 eAlk rfl q1 q2) with ⟨h260, hM⟩ | ⟨h260, hM⟩
                · replace h260 : (60 : Int) ≠ 61 := h260
                  replace hM := hM.st (t' := (85, [(0, (1, 275))], [(1, 275)], v14)) (fun _ _ q => e_Pn.run eAlk 1 rfl q)
                  obtain ⟨b261, hM⟩ := hM.of (fun _ _ q => e_Pn.getf (z := 60) eAlk rfl rfl ((kM_s60 s24.1.2.1.2.2.1).mpr (by omega)).2 q)
                  replace hM := hM.st (t' := (90, [(0, (1, 275))], [(0, 110), (0, 60)], v14)) (fun _ _ q => e_Pn.run eAlk 1 rfl q)
                  rcases hM.or (fun _ _ q1 q2 => e_Pn.if2 eAlk rfl q1 q2) with ⟨h262, hM⟩ | ⟨h262, hM⟩
                  · replace h262 : (60 : Int) ≠ 110 := h262
                    replace hM := hM.st (t' := (99, [(0, (1, 275))], [(1, 275)], v14)) (fun _ _ q => e_Pn.run eAlk 1 rfl q)
                    obtain ⟨b263, hM⟩ := hM.of (fun _ _ q => e_Pn.getf (z := 60) eAlk rfl rfl ((kM_s60 s24.1.2.1.2.2.1).mpr (by omega)).2 q)
                    replace hM := hM.st (t' := (104, [(0, (1, 275))], [(0, 60), (0, 60)], v14)) (fun _ _ q => e_Pn.run eAlk 1 rfl q)
                    rcases hM.or (fun _ _ q1 q2 => e_Pn.if2 eAlk rfl q1 q2) with ⟨h264, hM⟩ | ⟨h264, hM⟩
                    · replace h264 : (60 : Int) ≠ 60 := h264
                      exfalso; omega
                    · replace h264 : (60 : Int) = 60 := by have q : ¬ ((60 : Int) ≠ 60) := h264; omega
                      replace hM := hM.st (t' := (157, [(1, (0, 17)), (0, (1, 275))], [(0, 17)], v14)) (fun _ _ q => e_Pn.run eAlk 4 rfl q)
                      rcases hM.or (fun _ _ q1 q2 => e_Pn.if1 eAlk rfl q1 q2) with ⟨h265, hM⟩ | ⟨h265, hM⟩
                      · replace h265 : (17 : Int) = 0 := h265
                        exfalso; omega
                      · replace h265 : (17 : Int) ≠ 0 := by have q : ¬ ((17 : Int) = 0) := h265; omega
                        replace hM := hM.st (t' := (161, [(1, (0, 17)), (0, (1, 275))], [(1, 275)], v14)) (fun _ _ q => e_Pn.run eAlk 1 rfl q)
                        obtain ⟨dc266, r267, v268, hc269, hM⟩ := hM.ca rfl
                        refine e_Pn.callA rfl (fun nq dq => t_123b s24.1.1 s24.1.2.1.1 s24.1.2.1.2.1.2.1 (st.nx s24) (d' := dc266) hc269) (fun r270 w271 h272 => ?_)
                        obtain ⟨rfl, rfl, h272⟩ := h272
                        have s273 := st.ad (k := 1) s24 h272 (st.len1 s24 (by omega)) (by omega)
                        have s273n := h272.2.2.2.1
                        have s273m := st.len1 s24 (by omega)
                        have q274 := st.nums s273
                        show e_Pn 20 elay kcode eI n d 160 (67, [(1, (0, 21)), (0, (1, 1))], [], w271) _
                        replace hM : e_Rn 20 elay ecode eI d' 342 (164, [(1, (0, 17)), (0, (1, 275))], [], v268) r' v' := hM
                        refine e_Pn.run (t' := (68, [(1, (0, 21)), (0, (1, 1))], [(1, 1)], w271)) kAlk 1 rfl ?_
                        replace hM := hM.st (t' := (165, [(1, (0, 17)), (0, (1, 275))], [(1, 275)], v268)) (fun _ _ q => e_Pn.run eAlk 1 rfl q)
                        obtain ⟨dc275, r276, v277, hc278, hM⟩ := hM.ca rfl
                        have uhc278 := hc278.pn (fun nq => uE_all nq 343 (by decide) _ _ s273.1.2.2.2.2.1)
                        have z282 : stE N cd w271 v268 := st.zE s273 (by omega) (by omega)
                        refine e_Pn.callB rfl (fun k9 hk9 d9 => e_Pn.and (ihG k9 (by omega) 162 343 (by decide) _ _ _ _ _ _ z282 hc278) (kE_all k9 162 (by decide) d9 _ _ s273.1.2.2.2.1)) (fun r279 w280 h281 => ?_)
                        obtain ⟨⟨rfl, rfl, h281⟩, -, h281k⟩ := h281
                        rcases h281.symm with h281 | ⟨h281, h281p⟩
                        · skip
                          replace hM : e_Rn 20 elay ecode eI d' 342 (168, [(1, (0, 17)), (0, (1, 275))], [], v277) r' v' := hM
                          obtain ⟨rfl, m283⟩ := (e_Rn.le eAlk [0, 1] rfl rfl hM).pn (fun nq => v_342_168 (uhc278.2.rf s273.1.2.2.2.2.1) _ 17 v277 mq.r)
                          show e_Pn 20 elay kcode eI n d 160 (71, [(1, (0, 21)), (0, (1, 1))], [], w280) _
                          refine e_Pn.ord kAlk [0, 1] rfl rfl ((v_160_71 (h281k.rf s273.1.2.2.2.1) _ 21 w280 kq.r).imp (fun r285 w286 k284 => ?_))
                          obtain ⟨rfl, k284⟩ := k284
                          exact ⟨rfl, rfl, Or.inr (rpF.tail h281 k284 m283)⟩
                        have s287 := st.re (l' := w 1 13) (m' := v 275 82) (t' := w 1 12) (st.tr s273 h281) (Int.le_refl _) rfl (by omega) (by omega) (by omega)
                        have q288 := st.nums s287
                        show e_Pn 20 elay kcode eI n d 160 (71, [(1, (0, 21)), (0, (1, 1))], [], w280) _
                        replace hM : e_Rn 20 elay ecode eI d' 342 (168, [(1, (0, 17)), (0, (1, 275))], [], v277) r' v' := hM
                        refine e_Pn.run (t' := (72, [(1, (0, 21)), (0, (1, 1))], [(1, 1)], w280)) kAlk 1 rfl ?_
                        refine e_Pn.getr (z := cd) kAlk rfl rfl s287.1.2.2.2.1.2.1 (by omega) ?_
                        refine e_Pn.run (t' := (77, [(1, (0, 21)), (0, (1, 1))], [(0, 0), (0, 21), (1, cd)], w280)) kAlk 2 rfl ?_
                        refine e_Pn.callA rfl (fun nq dq => l_21 s287.1.2.2.2.1 (op := 21) (od := 0) (by omega) (by omega) s287.1.2.2.2.2.2.1) (fun r289 w290 h291 => ?_)
                        obtain ⟨z292, rfl, w290f, w290q⟩ := h291
                        have w290k := kRw.em s287.1.2.2.2.1 w290f
                        have w290l := (emQ.len w290q s287.1.2.2.2.2.2.1).1
                        have w290e : w290 1 5 = w280 1 5 ∧ w290 1 6 = w280 1 6 ∧ w290 1 8 = w280 1 8 := ⟨w290f 1 5 (by unfold kEm; omega), w290f 1 6 (by unfold kEm; omega), w290f 1 8 (by unfold kEm; omega)⟩
                        have s293 := st.em s287 w290f w290q (by omega) (by unfold isCl3; omega)
                        have q294 := st.nums s293
                        have z292r : 0 ≤ z292 ∧ z292 ≤ 4000 := emQ.z w290q s287.1.2.2.2.2.2.1
                        show e_Pn 20 elay kcode eI n d 160 (80, [(1, (0, 21)), (0, (1, 1))], [(0, z292)], w290) _
                        refine e_Pn.run (t' := (81, [(1, (0, 21)), (0, (1, 1))], [], w290)) kAlk 1 rfl ?_
                        replace hM := hM.st (t' := (171, [(1, (0, 17)), (0, (1, 275))], [(0, 0), (0, 17), (1, 275)], v277)) (fun _ _ q => e_Pn.run eAlk 3 rfl q)
                        obtain ⟨dc295, r296, v297, hc298, hM⟩ := hM.ca rfl
                        obtain ⟨⟨z299, rfl⟩, v297f⟩ := hc298.pn (fun nq => x_336 s287.1.2.2.2.2.1)
                        have v297m := mfr.rf v297f s287.1.2.2.2.2.1
                        replace hM : e_Rn 20 elay ecode eI d' 342 (174, [(1, (0, 17)), (0, (1, 275))], [(0, z299)], v297) r' v' := hM
                        replace hM := hM.st (t' := (175, [(1, (0, 17)), (0, (1, 275))], [], v297)) (fun _ _ q => e_Pn.run eAlk 1 rfl q)
                        have e301a : w290 1 11 = w290 1 11 := rfl
                        have e301b : v297 275 83 = v277 275 83 := (v297f 275 83 (by unfold mEm; omega))
                        have e301c : w290 1 13 = w290 1 13 := rfl
                        have e301d : v297 275 82 = v277 275 82 := (v297f 275 82 (by unfold mEm; omega))
                        have e301f : w290 1 12 = w290 1 12 := rfl
                        have e301e : v297 275 80 = v277 275 80 := (v297f 275 80 (by unfold mEm; omega))
                        have s300 := st.gen (o' := 0) (l' := w 1 13) (m' := v 275 82) (t' := w 1 12) (b' := 0) s293 (e_fr.refl w290) (e_fr.trans (e_fr.refl v277) (e_fr.mono v297f (fun c k q => by unfold mEm at q; unfold mGs; omega))) (by omega) (by omega) (by omega) (by omega)
                        have q302 := st.nums s300
                        obtain ⟨rfl, rfl⟩ := hM.re0 rfl
                        refine e_Pn.ret0 rfl ?_
                        exact ⟨rfl, rfl, Or.inl ⟨st.re s300 (by omega) (by omega) (by omega) (by omega) (by omega), by omega⟩⟩
                  · replace h262 : (60 : Int) = 110 := by have q : ¬ ((60 : Int) ≠ 110) := h262; omega
                    exfalso; omega
                · replace h260 : (60 : Int) = 61 := by have q : ¬ ((60 : Int) ≠ 61) := h260; omega
                  exfalso; omega
              · replace h258 : (3 : Int) ≠ 3 := by have q : ¬ ((3 : Int) = 3) := h258; omega
                exfalso; omega
          · replace h254 : (21 : Int) = 49 := by have q : ¬ ((21 : Int) ≠ 49) := h254; omega
            exfalso; omega
        · refine e_Pn.sw (tg := 76) kAlk rfl (by rw [h29]; rfl) ?_
          replace h29 : (w17 1 5 : Int) = 15 := h29
          refine e_Pn.run (t' := (78, [(0, (1, 1))], [(0, 23)], w17)) kAlk 1 rfl ?_
          refine e_Pn.ret1 rfl ?_
          show e_Pn 20 elay kcode eI n d 160 (55, [(0, (1, 1))], [(0, 23)], w17) _
          refine e_Pn.run (t' := (59, [(1, (0, 23)), (0, (1, 1))], [(0, 49), (0, 23)], w17)) kAlk 3 rfl ?_
          refine e_Pn.if2 kAlk rfl (fun h303 => ?_) (fun h303 => ?_)
          · replace h303 : (23 : Int) ≠ 49 := h303
            refine e_Pn.run (t' := (64, [(1, (0, 23)), (0, (1, 1))], [(1, 1)], w17)) kAlk 1 rfl ?_
            replace hM := hM.st (t' := (52, [(0, (1, 275))], [(1, 275)], v14)) (fun _ _ q => e_Pn.run eAlk 1 rfl q)
            obtain ⟨b304, hM⟩ := hM.of (fun _ _ q => e_Pn.getf (z := 0) eAlk rfl rfl s24.1.2.1.1.2 q)
            rcases hM.or (fun _ _ q1 q2 => e_Pn.if1 eAlk rfl q1 q2) with ⟨h305, hM⟩ | ⟨h305, hM⟩
            · replace h305 : (0 : Int) ≠ 0 := h305
              exfalso; omega
            · replace h305 : (0 : Int) = 0 := by have q : ¬ ((0 : Int) ≠ 0) := h305; omega
              replace hM := hM.st (t' := (59, [(0, (1, 275))], [(1, 275)], v14)) (fun _ _ q => e_Pn.run eAlk 1 rfl q)
              obtain ⟨b306, hM⟩ := hM.of (fun _ _ q => e_Pn.getf (z := 3) eAlk rfl rfl ((kM_s62 s24.1.2.1.2.2.1).mpr (by omega)).1 q)
              replace hM := hM.st (t' := (63, [(0, (1, 275))], [(0, 3), (0, 3)], v14)) (fun _ _ q => e_Pn.run eAlk 1 rfl q)
              rcases hM.or (fun _ _ q1 q2 => e_Pn.if2 eAlk rfl q1 q2) with ⟨h307, hM⟩ | ⟨h307, hM⟩
              · replace h307 : (3 : Int) = 3 := h307
                replace hM := hM.st (t' := (71, [(0, (1, 275))], [(1, 275)], v14)) (fun _ _ q => e_Pn.run eAlk 1 rfl q)
                obtain ⟨b308, hM⟩ := hM.of (fun _ _ q => e_Pn.getf (z := 62) eAlk rfl rfl ((kM_s62 s24.1.2.1.2.2.1).mpr (by omega)).2 q)
                replace hM := hM.st (t' := (76, [(0, (1, 275))], [(0, 61), (0, 62)], v14)) (fun _ _ q => e_Pn.run eAlk 1 rfl q)
                rcases hM.or (fun _ _ q1 q2 => e_Pn.if2 eAlk rfl q1 q2) with ⟨h309, hM⟩ | ⟨h309, hM⟩
                · replace h309 : (62 : Int) ≠ 61 := h309
                  replace hM := hM.st (t' := (85, [(0, (1, 275))], [(1, 275)], v14)) (fun _ _ q => e_Pn.run eAlk 1 rfl q)
                  obtain ⟨b310, hM⟩ := hM.of (fun _ _ q => e_Pn.getf (z := 62) eAlk rfl rfl ((kM_s62 s24.1.2.1.2.2.1).mpr (by omega)).2 q)
                  replace hM := hM.st (t' := (90, [(0, (1, 275))], [(0, 110), (0, 62)], v14)) (fun _ _ q => e_Pn.run eAlk 1 rfl q)
                  rcases hM.or (fun _ _ q1 q2 => e_Pn.if2 eAlk rfl q1 q2) with ⟨h311, hM⟩ | ⟨h311, hM⟩
                  · replace h311 : (62 : Int) ≠ 110 := h311
                    replace hM := hM.st (t' := (99, [(0, (1, 275))], [(1, 275)], v14)) (fun _ _ q => e_Pn.run eAlk 1 rfl q)
                    obtain ⟨b312, hM⟩ := hM.of (fun _ _ q => e_Pn.getf (z := 62) eAlk rfl rfl ((kM_s62 s24.1.2.1.2.2.1).mpr (by omega)).2 q)
                    replace hM := hM.st (t' := (104, [(0, (1, 275))], [(0, 60), (0, 62)], v14)) (fun _ _ q => e_Pn.run eAlk 1 rfl q)
                    rcases hM.or (fun _ _ q1 q2 => e_Pn.if2 eAlk rfl q1 q2) with ⟨h313, hM⟩ | ⟨h313, hM⟩
                    · replace h313 : (62 : Int) ≠ 60 := h313
                      replace hM := hM.st (t' := (113, [(0, (1, 275))], [(1, 275)], v14)) (fun _ _ q => e_Pn.run eAlk 1 rfl q)
                      obtain ⟨b314, hM⟩ := hM.of (fun _ _ q => e_Pn.getf (z := 62) eAlk rfl rfl ((kM_s62 s24.1.2.1.2.2.1).mpr (by omega)).2 q)
                      replace hM := hM.st (t' := (118, [(0, (1, 275))], [(0, 108), (0, 62)], v14)) (fun _ _ q => e_Pn.run eAlk 1 rfl q)
                      rcases hM.or (fun _ _ q1 q2 => e_Pn.if2 eAlk rfl q1 q2) with ⟨h315, hM⟩ | ⟨h315, hM⟩
                      · replace h315 : (62 : Int) ≠ 108 := h315
                        replace hM := hM.st (t' := (127, [(0, (1, 275))], [(1, 275)], v14)) (fun _ _ q => e_Pn.run eAlk 1 rfl q)
                        obtain ⟨b316, hM⟩ := hM.of (fun _ _ q => e_Pn.getf (z := 62) eAlk rfl rfl ((kM_s62 s24.1.2.1.2.2.1).mpr (by omega)).2 q)
                        replace hM := hM.st (t' := (132, [(0, (1, 275))], [(0, 62), (0, 62)], v14)) (fun _ _ q => e_Pn.run eAlk 1 rfl q)
                        rcases hM.or (fun _ _ q1 q2 => e_Pn.if2 eAlk rfl q1 q2) with ⟨h317, hM⟩ | ⟨h317, hM⟩
                        · replace h317 : (62 : Int) ≠ 62 := h317
                          exfalso; omega
                        · replace h317 : (62 : Int) = 62 := by have q : ¬ ((62 : Int) ≠ 62) := h317; omega
                          replace hM := hM.st (t' := (157, [(1, (0, 19)), (0, (1, 275))], [(0, 19)], v14)) (fun _ _ q => e_Pn.run eAlk 4 rfl q)
                          rcases hM.or (fun _ _ q1 q2 => e_Pn.if1 eAlk rfl q1 q2) with ⟨h318, hM⟩ | ⟨h318, hM⟩
                          · replace h318 : (19 : Int) = 0 := h318
                            exfalso; omega
                          · replace h318 : (19 : Int) ≠ 0 := by have q : ¬ ((19 : Int) = 0) := h318; omega
                            replace hM := hM.st (t' := (161, [(1, (0, 19)), (0, (1, 275))], [(1, 275)], v14)) (fun _ _ q => e_Pn.run eAlk 1 rfl q)
                            obtain ⟨dc319, r320, v321, hc322, hM⟩ := hM.ca rfl
                            refine e_Pn.callA rfl (fun nq dq => t_123b s24.1.1 s24.1.2.1.1 s24.1.2.1.2.1.2.1 (st.nx s24) (d' := dc319) hc322) (fun r323 w324 h325 => ?_)
                            obtain ⟨rfl, rfl, h325⟩ := h325
                            have s326 := st.ad (k := 1) s24 h325 (st.len1 s24 (by omega)) (by omega)
                            have s326n := h325.2.2.2.1
                            have s326m := st.len1 s24 (by omega)
                            have q327 := st.nums s326
                            show e_Pn 20 elay kcode eI n d 160 (67, [(1, (0, 23)), (0, (1, 1))], [], w324) _
                            replace hM : e_Rn 20 elay ecode eI d' 342 (164, [(1, (0, 19)), (0, (1, 275))], [], v321) r' v' := hM
                            refine e_Pn.run (t' := (68, [(1, (0, 23)), (0, (1, 1))], [(1, 1)], w324)) kAlk 1 rfl ?_
                            replace hM := hM.st (t' := (165, [(1, (0, 19)), (0, (1, 275))], [(1, 275)], v321)) (fun _ _ q => e_Pn.run eAlk 1 rfl q)
                            obtain ⟨dc328, r329, v330, hc331, hM⟩ := hM.ca rfl
                            have uhc331 := hc331.pn (fun nq => uE_all nq 343 (by decide) _ _ s326.1.2.2.2.2.1)
                            have z335 : stE N cd w324 v321 := st.zE s326 (by omega) (by omega)
                            refine e_Pn.callB rfl (fun k9 hk9 d9 => e_Pn.and (ihG k9 (by omega) 162 343 (by decide) _ _ _ _ _ _ z335 hc331) (kE_all k9 162 (by decide) d9 _ _ s326.1.2.2.2.1)) (fun r332 w333 h334 => ?_)
                            obtain ⟨⟨rfl, rfl, h334⟩, -, h334k⟩ := h334
                            rcases h334.symm with h334 | ⟨h334, h334p⟩
                            · skip
                              replace hM : e_Rn 20 elay ecode eI d' 342 (168, [(1, (0, 19)), (0, (1, 275))], [], v330) r' v' := hM
                              obtain ⟨rfl, m336⟩ := (e_Rn.le eAlk [0, 1] rfl rfl hM).pn (fun nq => v_342_168 (uhc331.2.rf s326.1.2.2.2.2.1) _ 19 v330 mq.r)
                              show e_Pn 20 elay kcode eI n d 160 (71, [(1, (0, 23)), (0, (1, 1))], [], w333) _
                              refine e_Pn.ord kAlk [0, 1] rfl rfl ((v_160_71 (h334k.rf s326.1.2.2.2.1) _ 23 w333 kq.r).imp (fun r338 w339 k337 => ?_))
                              obtain ⟨rfl, k337⟩ := k337
                              exact ⟨rfl, rfl, Or.inr (rpF.tail h334 k337 m336)⟩
                            have s340 := st.re (l' := w 1 13) (m' := v 275 82) (t' := w 1 12) (st.tr s326 h334) (Int.le_refl _) rfl (by omega) (by omega) (by omega)
                            have q341 := st.nums s340
                            show e_Pn 20 elay kcode eI n d 160 (71, [(1, (0, 23)), (0, (1, 1))], [], w333) _
                            replace hM : e_Rn 20 elay ecode eI d' 342 (168, [(1, (0, 19)), (0, (1, 275))], [], v330) r' v' := hM
                            refine e_Pn.run (t' := (72, [(1, (0, 23)), (0, (1, 1))], [(1, 1)], w333)) kAlk 1 rfl ?_
                            refine e_Pn.getr (z := cd) kAlk rfl rfl s340.1.2.2.2.1.2.1 (by omega) ?_
                            refine e_Pn.run (t' := (77, [(1, (0, 23)), (0, (1, 1))], [(0, 0), (0, 23), (1, cd)], w333)) kAlk 2 rfl ?_
                            refine e_Pn.callA rfl (fun nq dq => l_21 s340.1.2.2.2.1 (op := 23) (od := 0) (by omega) (by omega) s340.1.2.2.2.2.2.1) (fun r342 w343 h344 => ?_)
                            obtain ⟨z345, rfl, w343f, w343q⟩ := h344
                            have w343k := kRw.em s340.1.2.2.2.1 w343f
                            have w343l := (emQ.len w343q s340.1.2.2.2.2.2.1).1
                            have w343e : w343 1 5 = w333 1 5 ∧ w343 1 6 = w333 1 6 ∧ w343 1 8 = w333 1 8 := ⟨w343f 1 5 (by unfold kEm; omega), w343f 1 6 (by unfold kEm; omega), w343f 1 8 (by unfold kEm; omega)⟩
                            have s346 := st.em s340 w343f w343q (by omega) (by unfold isCl3; omega)
                            have q347 := st.nums s346
                            have z345r : 0 ≤ z345 ∧ z345 ≤ 4000 := emQ.z w343q s340.1.2.2.2.2.2.1
                            show e_Pn 20 elay kcode eI n d 160 (80, [(1, (0, 23)), (0, (1, 1))], [(0, z345)], w343) _
                            refine e_Pn.run (t' := (81, [(1, (0, 23)), (0, (1, 1))], [], w343)) kAlk 1 rfl ?_
                            replace hM := hM.st (t' := (171, [(1, (0, 19)), (0, (1, 275))], [(0, 0), (0, 19), (1, 275)], v330)) (fun _ _ q => e_Pn.run eAlk 3 rfl q)
                            obtain ⟨dc348, r349, v350, hc351, hM⟩ := hM.ca rfl
                            obtain ⟨⟨z352, rfl⟩, v350f⟩ := hc351.pn (fun nq => x_336 s340.1.2.2.2.2.1)
                            have v350m := mfr.rf v350f s340.1.2.2.2.2.1
                            replace hM : e_Rn 20 elay ecode eI d' 342 (174, [(1, (0, 19)), (0, (1, 275))], [(0, z352)], v350) r' v' := hM
                            replace hM := hM.st (t' := (175, [(1, (0, 19)), (0, (1, 275))], [], v350)) (fun _ _ q => e_Pn.run eAlk 1 rfl q)
                            have e354a : w343 1 11 = w343 1 11 := rfl
                            have e354b : v350 275 83 = v330 275 83 := (v350f 275 83 (by unfold mEm; omega))
                            have e354c : w343 1 13 = w343 1 13 := rfl
                            have e354d : v350 275 82 = v330 275 82 := (v350f 275 82 (by unfold mEm; omega))
                            have e354f : w343 1 12 = w343 1 12 := rfl
                            have e354e : v350 275 80 = v330 275 80 := (v350f 275 80 (by unfold mEm; omega))
                            have s353 := st.gen (o' := 0) (l' := w 1 13) (m' := v 275 82) (t' := w 1 12) (b' := 0) s346 (e_fr.refl w343) (e_fr.trans (e_fr.refl v330) (e_fr.mono v350f (fun c k q => by unfold mEm at q; unfold mGs; omega))) (by omega) (by omega) (by omega) (by omega)
                            have q355 := st.nums s353
                            obtain ⟨rfl, rfl⟩ := hM.re0 rfl
                            refine e_Pn.ret0 rfl ?_
                            exact ⟨rfl, rfl, Or.inl ⟨st.re s353 (by omega) (by omega) (by omega) (by omega) (by omega), by omega⟩⟩
                      · replace h315 : (62 : Int) = 108 := by have q : ¬ ((62 : Int) ≠ 108) := h315; omega
                        exfalso; omega
                    · replace h313 : (62 : Int) = 60 := by have q : ¬ ((62 : Int) ≠ 60) := h313; omega
                      exfalso; omega
                  · replace h311 : (62 : Int) = 110 := by have q : ¬ ((62 : Int) ≠ 110) := h311; omega
                    exfalso; omega
                · replace h309 : (62 : Int) = 61 := by have q : ¬ ((62 : Int) ≠ 61) := h309; omega
                  exfalso; omega
              · replace h307 : (3 : Int) ≠ 3 := by have q : ¬ ((3 : Int) = 3) := h307; omega
                exfalso; omega
          · replace h303 : (23 : Int) = 49 := by have q : ¬ ((23 : Int) ≠ 49) := h303; omega
            exfalso; omega
      · replace h11 : (0 : Int) ≠ 0 := by have q : ¬ ((0 : Int) = 0) := h11; omega
        exfalso; omega
  · replace h3 : (w 1 5 : Int) = 47 := by have q : ¬ ((w 1 5 : Int) ≠ 47) := h3; omega
    refine e_Pn.run (t' := (10, [(0, (1, 1))], [(1, 1)], w)) kAlk 1 rfl ?_
    replace hM := hM.st (t' := (1, [(0, (1, 275))], [(1, 275)], v)) (fun _ _ q => e_Pn.run eAlk 1 rfl q)
    obtain ⟨b356, hM⟩ := hM.of (fun _ _ q => e_Pn.getf (z := 0) eAlk rfl rfl h0.1.2.1.1.2 q)
    rcases hM.or (fun _ _ q1 q2 => e_Pn.if1 eAlk rfl q1 q2) with ⟨h357, hM⟩ | ⟨h357, hM⟩
    · replace h357 : (0 : Int) ≠ 0 := h357
      exfalso; omega
    · replace h357 : (0 : Int) = 0 := by have q : ¬ ((0 : Int) ≠ 0) := h357; omega
      replace hM := hM.st (t' := (10, [(0, (1, 275))], [(0, 26), (1, 275)], v)) (fun _ _ q => e_Pn.run eAlk 2 rfl q)
      obtain ⟨dc358, r359, v360, hc361, hM⟩ := hM.ca rfl
      obtain ⟨z362, rfl, rfl, z362q⟩ := hc361.pn (fun nq => l_332)
      replace z362q := isS (kM_key (k := 26) h0.1.2.1.2.2.1 (by decide)) rfl rfl z362q
      obtain rfl : z362 = 1 := by omega
      clear z362q
      replace hM : e_Rn 20 elay ecode eI d' 342 (13, [(0, (1, 275))], [(0, 1)], v) r' v' := hM
      rcases hM.or (fun _ _ q1 q2 => e_Pn.if1 eAlk rfl q1 q2) with ⟨h363, hM⟩ | ⟨h363, hM⟩
      · replace h363 : (1 : Int) = 0 := h363
        exfalso; omega
      · replace h363 : (1 : Int) ≠ 0 := by have q : ¬ ((1 : Int) = 0) := h363; omega
        replace hM := hM.st (t' := (17, [(0, (1, 275))], [(1, 275)], v)) (fun _ _ q => e_Pn.run eAlk 1 rfl q)
        obtain ⟨dc364, r365, v366, hc367, hM⟩ := hM.ca rfl
        have uhc367 := hc367.pn (fun nq => u_335 h0.1.2.2.2.2.1)
        refine e_Pn.callA rfl (fun nq dq => e_Pn.and (t_132 h0.1.2.1 (by omega) (d' := dc364) hc367) (u_132 h0.1.2.2.2.1)) (fun r368 w369 h370 => ?_)
        obtain ⟨h370, -, h370k⟩ := h370
        rcases h370.symm with ⟨rfl, rfl, h370F⟩ | ⟨rfl, rfl, h370b, h370w, h370v⟩
        · skip
          replace hM : e_Rn 20 elay ecode eI d' 342 (20, [(0, (1, 275))], [], v366) r' v' := hM
          obtain ⟨rfl, m371⟩ := (e_Rn.le eAlk [0] rfl rfl hM).pn (fun nq => v_342_20 (uhc367.2.rf h0.1.2.2.2.2.1) _  v366 mq.r)
          show e_Pn 20 elay kcode eI n d 160 (13, [(0, (1, 1))], [(0, 0)], w369) _
          refine e_Pn.ord kAlk [0] rfl rfl ((v_160_13 (h370k.rf h0.1.2.2.2.1) _ 0 w369 kq.r).imp (fun r373 w374 k372 => ?_))
          obtain ⟨rfl, k372⟩ := k372
          exact ⟨rfl, rfl, Or.inr (rpF.tail h370F k372 m371)⟩
        have s375 := st.opn h0 h370w.symm h370v.symm (by omega)
        have w369g : e_fr (kGs cd) w w369 := e_fr.up (e_fr.refl w) h370w.symm (by unfold kGs; omega)
        have q376 := st.nums s375
        have s375t : w369 1 5 = w 1 5 := by rw [h370w]; exact e_up_ne _ _ (Or.inr (by decide))
        have t377 : (w369 1 5 : Int) = 47 := by rw [s375t]; exact h3
        show e_Pn 20 elay kcode eI n d 160 (13, [(0, (1, 1))], [(0, 1)], w369) _
        replace hM : e_Rn 20 elay ecode eI d' 342 (20, [(0, (1, 275))], [], v366) r' v' := hM
        refine e_Pn.if1 kAlk rfl (fun h378 => ?_) (fun h378 => ?_)
        · replace h378 : (1 : Int) ≠ 0 := h378
          refine e_Pn.run (t' := (18, [(0, (1, 1))], [(1, 1)], w369)) kAlk 1 rfl ?_
          replace hM := hM.st (t' := (21, [(0, (1, 275))], [(1, 275)], v366)) (fun _ _ q => e_Pn.run eAlk 1 rfl q)
          obtain ⟨dc379, r380, v381, hc382, hM⟩ := hM.ca rfl
          refine e_Pn.callA rfl (fun nq dq => t_123b s375.1.1 s375.1.2.1.1 s375.1.2.1.2.1.2.1 (st.nx s375) (d' := dc379) hc382) (fun r383 w384 h385 => ?_)
          obtain ⟨rfl, rfl, h385⟩ := h385
          have s386 := st.ad (k := 2) s375 h385 (st.len2 s375 (by omega)) (by omega)
          have s386n := h385.2.2.2.1
          have s386m := st.len2 s375 (by omega)
          have q387 := st.nums s386
          show e_Pn 20 elay kcode eI n d 160 (21, [(0, (1, 1))], [], w384) _
          replace hM : e_Rn 20 elay ecode eI d' 342 (24, [(0, (1, 275))], [], v381) r' v' := hM
          refine e_Pn.run (t' := (22, [(0, (1, 1))], [(1, 1)], w384)) kAlk 1 rfl ?_
          replace hM := hM.st (t' := (25, [(0, (1, 275))], [(1, 275)], v381)) (fun _ _ q => e_Pn.run eAlk 1 rfl q)
          obtain ⟨dc388, r389, v390, hc391, hM⟩ := hM.ca rfl
          have uhc391 := hc391.pn (fun nq => uE_all nq 342 (by decide) _ _ s386.1.2.2.2.2.1)
          have z395 : stE N cd w384 v381 := st.zE s386 (by omega) (by omega)
          refine e_Pn.callB rfl (fun k9 hk9 d9 => e_Pn.and (ihG k9 (by omega) 160 342 (by decide) _ _ _ _ _ _ z395 hc391) (kE_all k9 160 (by decide) d9 _ _ s386.1.2.2.2.1)) (fun r392 w393 h394 => ?_)
          obtain ⟨⟨rfl, rfl, h394⟩, -, h394k⟩ := h394
          rcases h394.symm with h394 | ⟨h394, h394p⟩
          · skip
            replace hM : e_Rn 20 elay ecode eI d' 342 (28, [(0, (1, 275))], [], v390) r' v' := hM
            obtain ⟨rfl, m396⟩ := (e_Rn.le eAlk [0] rfl rfl hM).pn (fun nq => v_342_28 (uhc391.2.rf s386.1.2.2.2.2.1) _  v390 mq.r)
            show e_Pn 20 elay kcode eI n d 160 (25, [(0, (1, 1))], [], w393) _
            refine e_Pn.ord kAlk [0] rfl rfl ((v_160_25 (h394k.rf s386.1.2.2.2.1) _  w393 kq.r).imp (fun r398 w399 k397 => ?_))
            obtain ⟨rfl, k397⟩ := k397
            exact ⟨rfl, rfl, Or.inr (rpF.tail h394 k397 m396)⟩
          have s400 := st.re (l' := w 1 13) (m' := v 275 82) (t' := w 1 12) (st.tr s386 h394) (Int.le_refl _) rfl (by omega) (by omega) (by omega)
          have q401 := st.nums s400
          show e_Pn 20 elay kcode eI n d 160 (25, [(0, (1, 1))], [], w393) _
          replace hM : e_Rn 20 elay ecode eI d' 342 (28, [(0, (1, 275))], [], v390) r' v' := hM
          refine e_Pn.run (t' := (27, [(0, (1, 1))], [(1, 1), (1, 1)], w393)) kAlk 2 rfl ?_
          refine e_Pn.getf (z := w393 1 11) kAlk rfl rfl rfl (fun b402 => ?_)
          refine e_Pn.run (t' := (31, [(0, (1, 1))], [(0, 1), (0, w393 1 11), (1, 1)], w393)) kAlk 1 rfl ?_
          refine e_Pn.sub' (z := w393 1 11 - 1) kAlk rfl (by omega) (by omega) ?_
          refine e_Pn.putf kAlk rfl rfl ?_
          generalize hw403 : e_up w393 1 11 (w393 1 11 - 1) = w403
          have w403g : e_fr (kGs cd) w393 w403 := (e_fr.up (e_fr.refl w393) hw403 (by unfold kGs; omega))
          have w403k := kRw.gs s400.1.2.2.2.1 w403g
          have w403l : 0 ≤ w403 cd 0 ∧ w403 cd 0 ≤ 4000 := by rw [w403g cd 0 (by unfold kGs; omega)]; exact s400.1.2.2.2.2.2.1
          have w403e : w403 1 5 = w393 1 5 ∧ w403 1 6 = w393 1 6 ∧ w403 1 8 = w393 1 8 := ⟨w403g 1 5 (by unfold kGs; omega), w403g 1 6 (by unfold kGs; omega), w403g 1 8 (by unfold kGs; omega)⟩
          refine e_Pn.run (t' := (36, [(0, (1, 1))], [(1, 1)], w403)) kAlk 1 rfl ?_
          refine e_Pn.getr (z := cd) kAlk rfl rfl (by rw [← hw403]; exact (e_up_ne _ _ (Or.inr (by omega))).trans s400.1.2.2.2.1.2.1) (by omega) ?_
          refine e_Pn.run (t' := (42, [(0, (1, 1))], [(0, 0), (0, 10), (1, cd)], w403)) kAlk 2 rfl ?_
          refine e_Pn.callA rfl (fun nq dq => l_21 w403k (op := 10) (od := 0) (by omega) (by omega) w403l) (fun r404 w405 h406 => ?_)
          obtain ⟨z407, rfl, w405f, w405q⟩ := h406
          have w405k := kRw.em w403k w405f
          have w405l := (emQ.len w405q w403l).1
          have w405e : w405 1 5 = w403 1 5 ∧ w405 1 6 = w403 1 6 ∧ w405 1 8 = w403 1 8 := ⟨w405f 1 5 (by unfold kEm; omega), w405f 1 6 (by unfold kEm; omega), w405f 1 8 (by unfold kEm; omega)⟩
          have z407r : 0 ≤ z407 ∧ z407 ≤ 4000 := emQ.z w405q w403l
          show e_Pn 20 elay kcode eI n d 160 (45, [(0, (1, 1))], [(0, z407)], w405) _
          refine e_Pn.run (t' := (46, [(0, (1, 1))], [], w405)) kAlk 1 rfl ?_
          replace hM := hM.st (t' := (30, [(0, (1, 275))], [(1, 275), (1, 275)], v390)) (fun _ _ q => e_Pn.run eAlk 2 rfl q)
          obtain ⟨b408, hM⟩ := hM.of (fun _ _ q => e_Pn.getf (z := v390 275 83) eAlk rfl rfl rfl q)
          replace hM := hM.st (t' := (34, [(0, (1, 275))], [(0, 1), (0, v390 275 83), (1, 275)], v390)) (fun _ _ q => e_Pn.run eAlk 1 rfl q)
          replace hM := hM.st (fun _ _ q => e_Pn.sub' (z := v390 275 83 - 1) eAlk rfl (by omega) (by omega) q)
          replace hM := hM.st (fun _ _ q => e_Pn.putf eAlk rfl rfl q)
          generalize hv409 : e_up v390 275 83 (v390 275 83 - 1) = v409 at hM
          have v409m := mRw.upd hv409 (fun _ => by omega) s400.1.2.2.2.2.1
          replace hM := hM.st (t' := (42, [(0, (1, 275))], [(0, 0), (0, 21), (1, 275)], v409)) (fun _ _ q => e_Pn.run eAlk 3 rfl q)
          obtain ⟨dc410, r411, v412, hc413, hM⟩ := hM.ca rfl
          obtain ⟨⟨z414, rfl⟩, v412f⟩ := hc413.pn (fun nq => x_336 v409m)
          have v412m := mfr.rf v412f v409m
          replace hM : e_Rn 20 elay ecode eI d' 342 (45, [(0, (1, 275))], [(0, z414)], v412) r' v' := hM
          replace hM := hM.st (t' := (46, [(0, (1, 275))], [], v412)) (fun _ _ q => e_Pn.run eAlk 1 rfl q)
          have e416a : w403 1 11 = w393 1 11 - 1 := (by rw [← hw403]; exact e_up_eq _ _ _ _)
          have e416b : v412 275 83 = v390 275 83 - 1 := (Eq.trans (v412f 275 83 (by unfold mEm; omega)) (by rw [← hv409]; exact e_up_eq _ _ _ _))
          have e416c : w403 1 13 = w393 1 13 := (by rw [← hw403]; exact e_up_ne _ _ (Or.inr (by omega)))
          have e416d : v412 275 82 = v390 275 82 := (Eq.trans (v412f 275 82 (by unfold mEm; omega)) (show v409 275 82 = v390 275 82 by rw [← hv409]; exact e_up_ne _ _ (Or.inr (by omega))))
          have e416f : w403 1 12 = w393 1 12 := (by rw [← hw403]; exact e_up_ne _ _ (Or.inr (by omega)))
          have e416e : v412 275 80 = v390 275 80 := (Eq.trans (v412f 275 80 (by unfold mEm; omega)) (show v409 275 80 = v390 275 80 by rw [← hv409]; exact e_up_ne _ _ (Or.inr (by omega))))
          have s415 := st.gen (o' := 0) (l' := w 1 13) (m' := v 275 82) (t' := w 1 12) (b' := 0) s400 (e_fr.up (e_fr.refl w393) hw403 (by unfold kGs; omega)) (e_fr.trans (e_fr.up (e_fr.refl v390) hv409 (by unfold mGs; omega)) (e_fr.mono v412f (fun c k q => by unfold mEm at q; unfold mGs; omega))) (by omega) (by omega) (by omega) (by omega)
          have q417 := st.nums s415
          have s418 := st.em s415 w405f w405q (by omega) (by unfold isCl3; omega)
          have q419 := st.nums s418
          obtain ⟨rfl, rfl⟩ := hM.re0 rfl
          refine e_Pn.ret0 rfl ?_
          exact ⟨rfl, rfl, Or.inl ⟨st.re s418 (by omega) (by omega) (by omega) (by omega) (by omega), by omega⟩⟩
        · replace h378 : (1 : Int) = 0 := by have q : ¬ ((1 : Int) ≠ 0) := h378; omega
          exfalso; omega
set_option maxHeartbeats 4000000 in
theorem e_162 {n : Nat} {N cd : Int} {w v : eW} (hz : stE N cd w v) (ihG : ∀ k, k < n → eEg k) {d d' : Nat} {r' : List eV} {v' : eW} (hM : e_Rn 20 elay ecode eI d' 343 (0, [(0, (1, 275))], [], v) r' v') : e_Pn 20 elay kcode eI n d 162 (0, [(0, (1, 1))], [], w) (fun r w' => r = [] ∧ r' = [] ∧ ((st N cd w v w' v' 0 0 0 (-1) (w 1 13) (v 275 82) (w 1 12) 2 ∧ w 1 6 < w' 1 6) ∨ rpF w' v')) := by
  have h0 := hz.st (ka := 2)
  have hm := hz.1.2.2.2.1.1.m
  have hn := hz.1.2.2.2.1.1.n
  have hzo := hz.2.2.2
  have q1 := st.nums h0
  refine e_Pn.run (t' := (1, [(0, (1, 1))], [(1, 1)], w)) kAlk 1 rfl ?_
  replace hM := hM.st (t' := (1, [(0, (1, 275))], [(1, 275)], v)) (fun _ _ q => e_Pn.run eAlk 1 rfl q)
  obtain ⟨dc2, r3, v4, hc5, hM⟩ := hM.ca rfl
  have uhc5 := hc5.pn (fun nq => uE_all nq 344 (by decide) _ _ h0.1.2.2.2.2.1)
  have z9 : stE N cd w v := st.zE h0 (by omega) (by omega)
  refine e_Pn.callB rfl (fun k9 hk9 d9 => e_Pn.and (ihG k9 (by omega) 163 344 (by decide) _ _ _ _ _ _ z9 hc5) (kE_all k9 163 (by decide) d9 _ _ h0.1.2.2.2.1)) (fun r6 w7 h8 => ?_)
  obtain ⟨⟨rfl, rfl, h8⟩, -, h8k⟩ := h8
  rcases h8.symm with h8 | ⟨h8, h8p⟩
  · skip
    replace hM : e_Rn 20 elay ecode eI d' 343 (4, [(0, (1, 275))], [], v4) r' v' := hM
    obtain ⟨rfl, m10⟩ := (e_Rn.le eAlk [0] rfl rfl hM).pn (fun nq => v_343_4 (uhc5.2.rf h0.1.2.2.2.2.1) _  v4 mq.r)
    show e_Pn 20 elay kcode eI n d 162 (4, [(0, (1, 1))], [], w7) _
    refine e_Pn.ord kAlk [0] rfl rfl ((v_162_4 (h8k.rf h0.1.2.2.2.1) _  w7 kq.r).imp (fun r12 w13 k11 => ?_))
    obtain ⟨rfl, k11⟩ := k11
    exact ⟨rfl, rfl, Or.inr (rpF.tail h8 k11 m10)⟩
  have s14 := st.re (l' := w 1 13) (m' := v 275 82) (t' := w 1 12) (st.tr h0 h8) (Int.le_refl _) rfl (by omega) (by omega) (by omega)
  have q15 := st.nums s14
  show e_Pn 20 elay kcode eI n d 162 (4, [(0, (1, 1))], [], w7) _
  replace hM : e_Rn 20 elay ecode eI d' 343 (4, [(0, (1, 275))], [], v4) r' v' := hM
  refine e_Pn.run (t' := (6, [(1, (0, 0)), (0, (1, 1))], [], w7)) kAlk 2 rfl ?_
  have hL16 : ∀ nn18 : Nat, nn18 ≤ n → ∀ (tl19 tl20 : eL) (y1 : Int) (wl22 vl23 : eW), st N cd w v wl22 vl23 0 0 0 (-1) (w 1 13) (v 275 82) (w 1 12) 2 ∧ (0 ≤ y1 ∧ y1 + 1 ≤ wl22 1 6) ∧ (w 1 6 < wl22 1 6) → e_Rn 20 elay ecode eI d' 343 (4, (0, (1, 275)) :: tl20, [], vl23) r' v' → e_Pn 20 elay kcode eI nn18 d 162 (6, (0, (1, 1)) :: (1, (0, y1)) :: tl19, [], wl22) (fun r w' => r = [] ∧ r' = [] ∧ ((st N cd w v w' v' 0 0 0 (-1) (w 1 13) (v 275 82) (w 1 12) 2 ∧ w 1 6 < w' 1 6) ∨ rpF w' v')) := by
    intro nn18
    induction nn18 with
    | zero => intro _ tl19 tl20 y1 wl22 vl23 _ _; exact e_Pn.zero
    | succ nn18 ih17 =>
      intro hn tl19 tl20 y1 wl22 vl23 hj21 hM
      obtain ⟨hj21, j24, j25⟩ := hj21
      have q26 := st.nums hj21
      refine e_Pn.runS (t' := (10, (0, (1, 1)) :: (1, (0, y1)) :: tl19, [(0, 4000), (0, y1)], wl22)) kAlk 1 rfl ?_
      refine e_Pn.if2 kAlk rfl (fun h27 => ?_) (fun h27 => ?_)
      · replace h27 : (y1 : Int) ≥ 4000 := h27
        exfalso; omega
      · replace h27 : (y1 : Int) < 4000 := by have q : ¬ ((y1 : Int) ≥ 4000) := h27; omega
        refine e_Pn.run (t' := (14, (0, (1, 1)) :: (1, (0, y1)) :: tl19, [(1, 1)], wl22)) kAlk 1 rfl ?_
        refine e_Pn.getf (z := wl22 1 5) kAlk rfl rfl rfl (fun b28 => ?_)
        refine e_Pn.run (t' := (21, (0, (1, 1)) :: (1, (0, y1)) :: tl19, [(0, 9), (0, 8), (0, wl22 1 5)], wl22)) kAlk 2 rfl ?_
        refine e_Pn.callI rfl (fun nq29 dq30 => ?_)
        show e_Pn 20 elay kcode eI nq29 dq30 242 (0, [(0, (0, wl22 1 5)), (1, (0, 8)), (2, (0, 9))], [], wl22) _
        refine e_Pn.run (t' := (2, [(0, (0, wl22 1 5)), (1, (0, 8)), (2, (0, 9))], [(0, wl22 1 5), (0, 8)], wl22)) kAlk 2 rfl ?_
        refine e_Pn.if2 kAlk rfl (fun h31 => ?_) (fun h31 => ?_)
        · replace h31 : (8 : Int) > wl22 1 5 := h31
          refine e_Pn.run (t' := (15, [(0, (0, wl22 1 5)), (1, (0, 8)), (2, (0, 9))], [(0, 0)], wl22)) kAlk 1 rfl ?_
          refine e_Pn.ret4 rfl ?_
          show e_Pn 20 elay kcode eI nn18 d 162 (24, (0, (1, 1)) :: (1, (0, y1)) :: tl19, [(0, 0)], wl22) _
          refine e_Pn.if1 kAlk rfl (fun h32 => ?_) (fun h32 => ?_)
          · replace h32 : (0 : Int) = 0 := h32
            replace hM := hM.st (t' := (5, (0, (1, 275)) :: tl20, [(1, 275)], vl23)) (fun _ _ q => e_Pn.run eAlk 1 rfl q)
            obtain ⟨b33, hM⟩ := hM.of (fun _ _ q => e_Pn.getf (z := 0) eAlk rfl rfl hj21.1.2.1.1.2 q)
            rcases hM.or (fun _ _ q1 q2 => e_Pn.if1 eAlk rfl q1 q2) with ⟨h34, hM⟩ | ⟨h34, hM⟩
            · replace h34 : (0 : Int) ≠ 0 := h34
              exfalso; omega
            · replace h34 : (0 : Int) = 0 := by have q : ¬ ((0 : Int) ≠ 0) := h34; omega
              replace hM := hM.st (t' := (14, (0, (1, 275)) :: tl20, [(0, 43), (1, 275)], vl23)) (fun _ _ q => e_Pn.run eAlk 2 rfl q)
              obtain ⟨dc35, r36, v37, hc38, hM⟩ := hM.ca rfl
              obtain ⟨z39, rfl, rfl, z39q⟩ := hc38.pn (fun nq => l_331)
              replace z39q := isS (kM_s43 hj21.1.2.1.2.2.1) rfl rfl z39q
              obtain rfl : z39 = 0 := by omega
              clear z39q
              replace hM : e_Rn 20 elay ecode eI d' 343 (17, (0, (1, 275)) :: tl20, [(0, 0)], vl23) r' v' := hM
              rcases hM.or (fun _ _ q1 q2 => e_Pn.if1 eAlk rfl q1 q2) with ⟨h40, hM⟩ | ⟨h40, hM⟩
              · replace h40 : (0 : Int) ≠ 0 := h40
                exfalso; omega
              · replace h40 : (0 : Int) = 0 := by have q : ¬ ((0 : Int) ≠ 0) := h40; omega
                replace hM := hM.st (t' := (23, (0, (1, 275)) :: tl20, [(0, 45), (1, 275)], vl23)) (fun _ _ q => e_Pn.run eAlk 2 rfl q)
                obtain ⟨dc41, r42, v43, hc44, hM⟩ := hM.ca rfl
                obtain ⟨z45, rfl, rfl, z45q⟩ := hc44.pn (fun nq => l_331)
                replace z45q := isS (kM_s45 hj21.1.2.1.2.2.1) rfl rfl z45q
                obtain rfl : z45 = 0 := by omega
                clear z45q
                replace hM : e_Rn 20 elay ecode eI d' 343 (26, (0, (1, 275)) :: tl20, [(0, 0)], vl23) r' v' := hM
                rcases hM.or (fun _ _ q1 q2 => e_Pn.if1 eAlk rfl q1 q2) with ⟨h46, hM⟩ | ⟨h46, hM⟩
                · replace h46 : (0 : Int) = 0 := h46
                  obtain ⟨rfl, rfl⟩ := hM.re0 rfl
                  refine e_Pn.ret0 rfl ?_
                  exact ⟨rfl, rfl, Or.inl ⟨st.re hj21 (by omega) (by omega) (by omega) (by omega) (by omega), by omega⟩⟩
                · replace h46 : (0 : Int) ≠ 0 := by have q : ¬ ((0 : Int) = 0) := h46; omega
                  exfalso; omega
          · replace h32 : (0 : Int) ≠ 0 := by have q : ¬ ((0 : Int) = 0) := h32; omega
            exfalso; omega
        · replace h31 : (8 : Int) ≤ wl22 1 5 := by have q : ¬ ((8 : Int) > wl22 1 5) := h31; omega
          refine e_Pn.run (t' := (7, [(0, (0, wl22 1 5)), (1, (0, 8)), (2, (0, 9))], [(0, 9), (0, wl22 1 5)], wl22)) kAlk 2 rfl ?_
          refine e_Pn.if2 kAlk rfl (fun h47 => ?_) (fun h47 => ?_)
          · replace h47 : (wl22 1 5 : Int) > 9 := h47
            refine e_Pn.run (t' := (15, [(0, (0, wl22 1 5)), (1, (0, 8)), (2, (0, 9))], [(0, 0)], wl22)) kAlk 1 rfl ?_
            refine e_Pn.ret4 rfl ?_
            show e_Pn 20 elay kcode eI nn18 d 162 (24, (0, (1, 1)) :: (1, (0, y1)) :: tl19, [(0, 0)], wl22) _
            refine e_Pn.if1 kAlk rfl (fun h48 => ?_) (fun h48 => ?_)
            · replace h48 : (0 : Int) = 0 := h48
              replace hM := hM.st (t' := (5, (0, (1, 275)) :: tl20, [(1, 275)], vl23)) (fun _ _ q => e_Pn.run eAlk 1 rfl q)
              obtain ⟨b49, hM⟩ := hM.of (fun _ _ q => e_Pn.getf (z := 0) eAlk rfl rfl hj21.1.2.1.1.2 q)
              rcases hM.or (fun _ _ q1 q2 => e_Pn.if1 eAlk rfl q1 q2) with ⟨h50, hM⟩ | ⟨h50, hM⟩
              · replace h50 : (0 : Int) ≠ 0 := h50
                exfalso; omega
              · replace h50 : (0 : Int) = 0 := by have q : ¬ ((0 : Int) ≠ 0) := h50; omega
                replace hM := hM.st (t' := (14, (0, (1, 275)) :: tl20, [(0, 43), (1, 275)], vl23)) (fun _ _ q => e_Pn.run eAlk 2 rfl q)
                obtain ⟨dc51, r52, v53, hc54, hM⟩ := hM.ca rfl
                obtain ⟨z55, rfl, rfl, z55q⟩ := hc54.pn (fun nq => l_331)
                replace z55q := isS (kM_s43 hj21.1.2.1.2.2.1) rfl rfl z55q
                obtain rfl : z55 = 0 := by omega
                clear z55q
                replace hM : e_Rn 20 elay ecode eI d' 343 (17, (0, (1, 275)) :: tl20, [(0, 0)], vl23) r' v' := hM
                rcases hM.or (fun _ _ q1 q2 => e_Pn.if1 eAlk rfl q1 q2) with ⟨h56, hM⟩ | ⟨h56, hM⟩
                · replace h56 : (0 : Int) ≠ 0 := h56
                  exfalso; omega
                · replace h56 : (0 : Int) = 0 := by have q : ¬ ((0 : Int) ≠ 0) := h56; omega
                  replace hM := hM.st (t' := (23, (0, (1, 275)) :: tl20, [(0, 45), (1, 275)], vl23)) (fun _ _ q => e_Pn.run eAlk 2 rfl q)
                  obtain ⟨dc57, r58, v59, hc60, hM⟩ := hM.ca rfl
                  obtain ⟨z61, rfl, rfl, z61q⟩ := hc60.pn (fun nq => l_331)
                  replace z61q := isS (kM_s45 hj21.1.2.1.2.2.1) rfl rfl z61q
                  obtain rfl : z61 = 0 := by omega
                  clear z61q
                  replace hM : e_Rn 20 elay ecode eI d' 343 (26, (0, (1, 275)) :: tl20, [(0, 0)], vl23) r' v' := hM
                  rcases hM.or (fun _ _ q1 q2 => e_Pn.if1 eAlk rfl q1 q2) with ⟨h62, hM⟩ | ⟨h62, hM⟩
                  · replace h62 : (0 : Int) = 0 := h62
                    obtain ⟨rfl, rfl⟩ := hM.re0 rfl
                    refine e_Pn.ret0 rfl ?_
                    exact ⟨rfl, rfl, Or.inl ⟨st.re hj21 (by omega) (by omega) (by omega) (by omega) (by omega), by omega⟩⟩
                  · replace h62 : (0 : Int) ≠ 0 := by have q : ¬ ((0 : Int) = 0) := h62; omega
                    exfalso; omega
            · replace h48 : (0 : Int) ≠ 0 := by have q : ¬ ((0 : Int) = 0) := h48; omega
              exfalso; omega
          · replace h47 : (wl22 1 5 : Int) ≤ 9 := by have q : ¬ ((wl22 1 5 : Int) > 9) := h47; omega
            refine e_Pn.run (t' := (15, [(0, (0, wl22 1 5)), (1, (0, 8)), (2, (0, 9))], [(0, 1)], wl22)) kAlk 2 rfl ?_
            refine e_Pn.ret4 rfl ?_
            show e_Pn 20 elay kcode eI nn18 d 162 (24, (0, (1, 1)) :: (1, (0, y1)) :: tl19, [(0, 1)], wl22) _
            refine e_Pn.if1 kAlk rfl (fun h63 => ?_) (fun h63 => ?_)
            · replace h63 : (1 : Int) = 0 := h63
              exfalso; omega
            · replace h63 : (1 : Int) ≠ 0 := by have q : ¬ ((1 : Int) = 0) := h63; omega
              refine e_Pn.run (t' := (28, (0, (1, 1)) :: (1, (0, y1)) :: tl19, [(1, 1)], wl22)) kAlk 1 rfl ?_
              refine e_Pn.getf (z := wl22 1 5) kAlk rfl rfl rfl (fun b64 => ?_)
              refine e_Pn.run (t' := (33, (0, (1, 1)) :: (1, (0, y1)) :: tl19, [(0, 8), (0, wl22 1 5)], wl22)) kAlk 1 rfl ?_
              refine e_Pn.if2 kAlk rfl (fun h65 => ?_) (fun h65 => ?_)
              · replace h65 : (wl22 1 5 : Int) ≠ 8 := h65
                refine e_Pn.run (t' := (45, (2, (0, 15)) :: (0, (1, 1)) :: (1, (0, y1)) :: List.filter (e_flt 0 2) tl19, [(1, 1)], wl22)) kAlk 3 rfl ?_
                replace hM := hM.st (t' := (5, (0, (1, 275)) :: tl20, [(1, 275)], vl23)) (fun _ _ q => e_Pn.run eAlk 1 rfl q)
                obtain ⟨b66, hM⟩ := hM.of (fun _ _ q => e_Pn.getf (z := 0) eAlk rfl rfl hj21.1.2.1.1.2 q)
                rcases hM.or (fun _ _ q1 q2 => e_Pn.if1 eAlk rfl q1 q2) with ⟨h67, hM⟩ | ⟨h67, hM⟩
                · replace h67 : (0 : Int) ≠ 0 := h67
                  exfalso; omega
                · replace h67 : (0 : Int) = 0 := by have q : ¬ ((0 : Int) ≠ 0) := h67; omega
                  replace hM := hM.st (t' := (14, (0, (1, 275)) :: tl20, [(0, 43), (1, 275)], vl23)) (fun _ _ q => e_Pn.run eAlk 2 rfl q)
                  obtain ⟨dc68, r69, v70, hc71, hM⟩ := hM.ca rfl
                  obtain ⟨z72, rfl, rfl, z72q⟩ := hc71.pn (fun nq => l_331)
                  replace z72q := isS (kM_s43 hj21.1.2.1.2.2.1) rfl rfl z72q
                  obtain rfl : z72 = 0 := by omega
                  clear z72q
                  replace hM : e_Rn 20 elay ecode eI d' 343 (17, (0, (1, 275)) :: tl20, [(0, 0)], vl23) r' v' := hM
                  rcases hM.or (fun _ _ q1 q2 => e_Pn.if1 eAlk rfl q1 q2) with ⟨h73, hM⟩ | ⟨h73, hM⟩
                  · replace h73 : (0 : Int) ≠ 0 := h73
                    exfalso; omega
                  · replace h73 : (0 : Int) = 0 := by have q : ¬ ((0 : Int) ≠ 0) := h73; omega
                    replace hM := hM.st (t' := (23, (0, (1, 275)) :: tl20, [(0, 45), (1, 275)], vl23)) (fun _ _ q => e_Pn.run eAlk 2 rfl q)
                    obtain ⟨dc74, r75, v76, hc77, hM⟩ := hM.ca rfl
                    obtain ⟨z78, rfl, rfl, z78q⟩ := hc77.pn (fun nq => l_331)
                    replace z78q := isS (kM_s45 hj21.1.2.1.2.2.1) rfl rfl z78q
                    obtain rfl : z78 = 1 := by omega
                    clear z78q
                    replace hM : e_Rn 20 elay ecode eI d' 343 (26, (0, (1, 275)) :: tl20, [(0, 1)], vl23) r' v' := hM
                    rcases hM.or (fun _ _ q1 q2 => e_Pn.if1 eAlk rfl q1 q2) with ⟨h79, hM⟩ | ⟨h79, hM⟩
                    · replace h79 : (1 : Int) = 0 := h79
                      exfalso; omega
                    · replace h79 : (1 : Int) ≠ 0 := by have q : ¬ ((1 : Int) = 0) := h79; omega
                      replace hM := hM.st (t' := (30, (0, (1, 275)) :: tl20, [(1, 275)], vl23)) (fun _ _ q => e_Pn.run eAlk 1 rfl q)
                      obtain ⟨b80, hM⟩ := hM.of (fun _ _ q => e_Pn.getf (z := 45) eAlk rfl rfl ((kM_s45 hj21.1.2.1.2.2.1).mpr (by omega)).2 q)
                      replace hM := hM.st (t' := (35, (0, (1, 275)) :: tl20, [(0, 43), (0, 45)], vl23)) (fun _ _ q => e_Pn.run eAlk 1 rfl q)
                      rcases hM.or (fun _ _ q1 q2 => e_Pn.if2 eAlk rfl q1 q2) with ⟨h81, hM⟩ | ⟨h81, hM⟩
                      · replace h81 : (45 : Int) ≠ 43 := h81
                        replace hM := hM.st (t' := (47, (1, (0, 11)) :: (0, (1, 275)) :: List.filter (e_flt 0 1) tl20, [(1, 275)], vl23)) (fun _ _ q => e_Pn.run eAlk 3 rfl q)
                        obtain ⟨dc82, r83, v84, hc85, hM⟩ := hM.ca rfl
                        refine e_Pn.callA rfl (fun nq dq => t_123b hj21.1.1 hj21.1.2.1.1 hj21.1.2.1.2.1.2.1 (st.nx hj21) (d' := dc82) hc85) (fun r86 w87 h88 => ?_)
                        obtain ⟨rfl, rfl, h88⟩ := h88
                        have s89 := st.ad (k := 1) hj21 h88 (st.len1 hj21 (by omega)) (by omega)
                        have s89n := h88.2.2.2.1
                        have s89m := st.len1 hj21 (by omega)
                        have q90 := st.nums s89
                        show e_Pn 20 elay kcode eI nn18 d 162 (48, (2, (0, 15)) :: (0, (1, 1)) :: (1, (0, y1)) :: List.filter (e_flt 0 2) tl19, [], w87) _
                        replace hM : e_Rn 20 elay ecode eI d' 343 (50, (1, (0, 11)) :: (0, (1, 275)) :: List.filter (e_flt 0 1) tl20, [], v84) r' v' := hM
                        refine e_Pn.run (t' := (49, (2, (0, 15)) :: (0, (1, 1)) :: (1, (0, y1)) :: List.filter (e_flt 0 2) tl19, [(1, 1)], w87)) kAlk 1 rfl ?_
                        replace hM := hM.st (t' := (51, (1, (0, 11)) :: (0, (1, 275)) :: List.filter (e_flt 0 1) tl20, [(1, 275)], v84)) (fun _ _ q => e_Pn.run eAlk 1 rfl q)
                        obtain ⟨dc91, r92, v93, hc94, hM⟩ := hM.ca rfl
                        have uhc94 := hc94.pn (fun nq => uE_all nq 344 (by decide) _ _ s89.1.2.2.2.2.1)
                        have z98 : stE N cd w87 v84 := st.zE s89 (by omega) (by omega)
                        refine e_Pn.callB rfl (fun k9 hk9 d9 => e_Pn.and (ihG k9 (by omega) 163 344 (by decide) _ _ _ _ _ _ z98 hc94) (kE_all k9 163 (by decide) d9 _ _ s89.1.2.2.2.1)) (fun r95 w96 h97 => ?_)
                        obtain ⟨⟨rfl, rfl, h97⟩, -, h97k⟩ := h97
                        rcases h97.symm with h97 | ⟨h97, h97p⟩
                        · skip
                          replace hM : e_Rn 20 elay ecode eI d' 343 (54, (1, (0, 11)) :: (0, (1, 275)) :: List.filter (e_flt 0 1) tl20, [], v93) r' v' := hM
                          obtain ⟨rfl, m99⟩ := (e_Rn.le eAlk [0, 1] rfl rfl hM).pn (fun nq => v_343_54 (uhc94.2.rf s89.1.2.2.2.2.1) _ 11 v93 mq.r)
                          show e_Pn 20 elay kcode eI nn18 d 162 (52, (2, (0, 15)) :: (0, (1, 1)) :: (1, (0, y1)) :: List.filter (e_flt 0 2) tl19, [], w96) _
                          refine e_Pn.ord kAlk [0, 1, 2] rfl rfl ((v_162_52 (h97k.rf s89.1.2.2.2.1) _ y1 15 w96 kq.r).imp (fun r101 w102 k100 => ?_))
                          obtain ⟨rfl, k100⟩ := k100
                          exact ⟨rfl, rfl, Or.inr (rpF.tail h97 k100 m99)⟩
                        have s103 := st.re (l' := w 1 13) (m' := v 275 82) (t' := w 1 12) (st.tr s89 h97) (Int.le_refl _) rfl (by omega) (by omega) (by omega)
                        have q104 := st.nums s103
                        show e_Pn 20 elay kcode eI nn18 d 162 (52, (2, (0, 15)) :: (0, (1, 1)) :: (1, (0, y1)) :: List.filter (e_flt 0 2) tl19, [], w96) _
                        replace hM : e_Rn 20 elay ecode eI d' 343 (54, (1, (0, 11)) :: (0, (1, 275)) :: List.filter (e_flt 0 1) tl20, [], v93) r' v' := hM
                        refine e_Pn.run (t' := (53, (2, (0, 15)) :: (0, (1, 1)) :: (1, (0, y1)) :: List.filter (e_flt 0 2) tl19, [(1, 1)], w96)) kAlk 1 rfl ?_
                        refine e_Pn.getr (z := cd) kAlk rfl rfl s103.1.2.2.2.1.2.1 (by omega) ?_
                        refine e_Pn.run (t' := (58, (2, (0, 15)) :: (0, (1, 1)) :: (1, (0, y1)) :: List.filter (e_flt 0 2) tl19, [(0, 0), (0, 15), (1, cd)], w96)) kAlk 2 rfl ?_
                        refine e_Pn.callA rfl (fun nq dq => l_21 s103.1.2.2.2.1 (op := 15) (od := 0) (by omega) (by omega) s103.1.2.2.2.2.2.1) (fun r105 w106 h107 => ?_)
                        obtain ⟨z108, rfl, w106f, w106q⟩ := h107
                        have w106k := kRw.em s103.1.2.2.2.1 w106f
                        have w106l := (emQ.len w106q s103.1.2.2.2.2.2.1).1
                        have w106e : w106 1 5 = w96 1 5 ∧ w106 1 6 = w96 1 6 ∧ w106 1 8 = w96 1 8 := ⟨w106f 1 5 (by unfold kEm; omega), w106f 1 6 (by unfold kEm; omega), w106f 1 8 (by unfold kEm; omega)⟩
                        have s109 := st.em s103 w106f w106q (by omega) (by unfold isCl3; omega)
                        have q110 := st.nums s109
                        have z108r : 0 ≤ z108 ∧ z108 ≤ 4000 := emQ.z w106q s103.1.2.2.2.2.2.1
                        show e_Pn 20 elay kcode eI nn18 d 162 (61, (2, (0, 15)) :: (0, (1, 1)) :: (1, (0, y1)) :: List.filter (e_flt 0 2) tl19, [(0, z108)], w106) _
                        refine e_Pn.run (t' := (62, (2, (0, 15)) :: (0, (1, 1)) :: (1, (0, y1)) :: List.filter (e_flt 0 2) tl19, [], w106)) kAlk 1 rfl ?_
                        refine e_Pn.inc (z := y1 + 1) kAlk rfl rfl (by omega) (by omega) ?_
                        show e_Pn 20 elay kcode eI nn18 d 162 (65, (1, (0, y1 + 1)) :: (2, (0, 15)) :: (0, (1, 1)) :: List.filter (e_flt 0 1) (List.filter (e_flt 0 2) tl19), [], w106) _
                        refine e_Pn.run (t' := (6, (1, (0, y1 + 1)) :: (2, (0, 15)) :: (0, (1, 1)) :: List.filter (e_flt 0 1) (List.filter (e_flt 0 2) tl19), [], w106)) kAlk 1 rfl ?_
                        replace hM := hM.st (t' := (57, (1, (0, 11)) :: (0, (1, 275)) :: List.filter (e_flt 0 1) tl20, [(0, 0), (0, 11), (1, 275)], v93)) (fun _ _ q => e_Pn.run eAlk 3 rfl q)
                        obtain ⟨dc111, r112, v113, hc114, hM⟩ := hM.ca rfl
                        obtain ⟨⟨z115, rfl⟩, v113f⟩ := hc114.pn (fun nq => x_336 s103.1.2.2.2.2.1)
                        have v113m := mfr.rf v113f s103.1.2.2.2.2.1
                        replace hM : e_Rn 20 elay ecode eI d' 343 (60, (1, (0, 11)) :: (0, (1, 275)) :: List.filter (e_flt 0 1) tl20, [(0, z115)], v113) r' v' := hM
                        replace hM := hM.st (t' := (4, (1, (0, 11)) :: (0, (1, 275)) :: List.filter (e_flt 0 1) tl20, [], v113)) (fun _ _ q => e_Pn.run eAlk 2 rfl q)
                        have e117a : w106 1 11 = w106 1 11 := rfl
                        have e117b : v113 275 83 = v93 275 83 := (v113f 275 83 (by unfold mEm; omega))
                        have e117c : w106 1 13 = w106 1 13 := rfl
                        have e117d : v113 275 82 = v93 275 82 := (v113f 275 82 (by unfold mEm; omega))
                        have e117f : w106 1 12 = w106 1 12 := rfl
                        have e117e : v113 275 80 = v93 275 80 := (v113f 275 80 (by unfold mEm; omega))
                        have s116 := st.gen (o' := 0) (l' := w 1 13) (m' := v 275 82) (t' := w 1 12) (b' := 0) s109 (e_fr.refl w106) (e_fr.trans (e_fr.refl v93) (e_fr.mono v113f (fun c k q => by unfold mEm at q; unfold mGs; omega))) (by omega) (by omega) (by omega) (by omega)
                        have q118 := st.nums s116
                        exact e_Pn.ord kAlk [0, 1] rfl rfl (ih17 (by omega) _ _ (y1 + 1) w106 v113 ⟨(st.re s116 (by omega) (by omega) (by omega) (by omega) (by omega)), (by omega), (by omega)⟩ (e_Rn.le eAlk [0] rfl rfl hM))
                      · replace h81 : (45 : Int) = 43 := by have q : ¬ ((45 : Int) ≠ 43) := h81; omega
                        exfalso; omega
              · replace h65 : (wl22 1 5 : Int) = 8 := by have q : ¬ ((wl22 1 5 : Int) ≠ 8) := h65; omega
                refine e_Pn.run (t' := (45, (2, (0, 14)) :: (0, (1, 1)) :: (1, (0, y1)) :: List.filter (e_flt 0 2) tl19, [(1, 1)], wl22)) kAlk 4 rfl ?_
                replace hM := hM.st (t' := (5, (0, (1, 275)) :: tl20, [(1, 275)], vl23)) (fun _ _ q => e_Pn.run eAlk 1 rfl q)
                obtain ⟨b119, hM⟩ := hM.of (fun _ _ q => e_Pn.getf (z := 0) eAlk rfl rfl hj21.1.2.1.1.2 q)
                rcases hM.or (fun _ _ q1 q2 => e_Pn.if1 eAlk rfl q1 q2) with ⟨h120, hM⟩ | ⟨h120, hM⟩
                · replace h120 : (0 : Int) ≠ 0 := h120
                  exfalso; omega
                · replace h120 : (0 : Int) = 0 := by have q : ¬ ((0 : Int) ≠ 0) := h120; omega
                  replace hM := hM.st (t' := (14, (0, (1, 275)) :: tl20, [(0, 43), (1, 275)], vl23)) (fun _ _ q => e_Pn.run eAlk 2 rfl q)
                  obtain ⟨dc121, r122, v123, hc124, hM⟩ := hM.ca rfl
                  obtain ⟨z125, rfl, rfl, z125q⟩ := hc124.pn (fun nq => l_331)
                  replace z125q := isS (kM_s43 hj21.1.2.1.2.2.1) rfl rfl z125q
                  obtain rfl : z125 = 1 := by omega
                  clear z125q
                  replace hM : e_Rn 20 elay ecode eI d' 343 (17, (0, (1, 275)) :: tl20, [(0, 1)], vl23) r' v' := hM
                  rcases hM.or (fun _ _ q1 q2 => e_Pn.if1 eAlk rfl q1 q2) with ⟨h126, hM⟩ | ⟨h126, hM⟩
                  · replace h126 : (1 : Int) ≠ 0 := h126
                    replace hM := hM.st (t' := (30, (0, (1, 275)) :: tl20, [(1, 275)], vl23)) (fun _ _ q => e_Pn.run eAlk 1 rfl q)
                    obtain ⟨b127, hM⟩ := hM.of (fun _ _ q => e_Pn.getf (z := 43) eAlk rfl rfl ((kM_s43 hj21.1.2.1.2.2.1).mpr (by omega)).2 q)
                    replace hM := hM.st (t' := (35, (0, (1, 275)) :: tl20, [(0, 43), (0, 43)], vl23)) (fun _ _ q => e_Pn.run eAlk 1 rfl q)
                    rcases hM.or (fun _ _ q1 q2 => e_Pn.if2 eAlk rfl q1 q2) with ⟨h128, hM⟩ | ⟨h128, hM⟩
                    · replace h128 : (43 : Int) ≠ 43 := h128
                      exfalso; omega
                    · replace h128 : (43 : Int) = 43 := by have q : ¬ ((43 : Int) ≠ 43) := h128; omega
                      replace hM := hM.st (t' := (47, (1, (0, 10)) :: (0, (1, 275)) :: List.filter (e_flt 0 1) tl20, [(1, 275)], vl23)) (fun _ _ q => e_Pn.run eAlk 4 rfl q)
                      obtain ⟨dc129, r130, v131, hc132, hM⟩ := hM.ca rfl
                      refine e_Pn.callA rfl (fun nq dq => t_123b hj21.1.1 hj21.1.2.1.1 hj21.1.2.1.2.1.2.1 (st.nx hj21) (d' := dc129) hc132) (fun r133 w134 h135 => ?_)
                      obtain ⟨rfl, rfl, h135⟩ := h135
                      have s136 := st.ad (k := 1) hj21 h135 (st.len1 hj21 (by omega)) (by omega)
                      have s136n := h135.2.2.2.1
                      have s136m := st.len1 hj21 (by omega)
                      have q137 := st.nums s136
                      show e_Pn 20 elay kcode eI nn18 d 162 (48, (2, (0, 14)) :: (0, (1, 1)) :: (1, (0, y1)) :: List.filter (e_flt 0 2) tl19, [], w134) _
                      replace hM : e_Rn 20 elay ecode eI d' 343 (50, (1, (0, 10)) :: (0, (1, 275)) :: List.filter (e_flt 0 1) tl20, [], v131) r' v' := hM
                      refine e_Pn.run (t' := (49, (2, (0, 14)) :: (0, (1, 1)) :: (1, (0, y1)) :: List.filter (e_flt 0 2) tl19, [(1, 1)], w134)) kAlk 1 rfl ?_
                      replace hM := hM.st (t' := (51, (1, (0, 10)) :: (0, (1, 275)) :: List.filter (e_flt 0 1) tl20, [(1, 275)], v131)) (fun _ _ q => e_Pn.run eAlk 1 rfl q)
                      obtain ⟨dc138, r139, v140, hc141, hM⟩ := hM.ca rfl
                      have uhc141 := hc141.pn (fun nq => uE_all nq 344 (by decide) _ _ s136.1.2.2.2.2.1)
                      have z145 : stE N cd w134 v131 := st.zE s136 (by omega) (by omega)
                      refine e_Pn.callB rfl (fun k9 hk9 d9 => e_Pn.and (ihG k9 (by omega) 163 344 (by decide) _ _ _ _ _ _ z145 hc141) (kE_all k9 163 (by decide) d9 _ _ s136.1.2.2.2.1)) (fun r142 w143 h144 => ?_)
                      obtain ⟨⟨rfl, rfl, h144⟩, -, h144k⟩ := h144
                      rcases h144.symm with h144 | ⟨h144, h144p⟩
                      · skip
                        replace hM : e_Rn 20 elay ecode eI d' 343 (54, (1, (0, 10)) :: (0, (1, 275)) :: List.filter (e_flt 0 1) tl20, [], v140) r' v' := hM
                        obtain ⟨rfl, m146⟩ := (e_Rn.le eAlk [0, 1] rfl rfl hM).pn (fun nq => v_343_54 (uhc141.2.rf s136.1.2.2.2.2.1) _ 10 v140 mq.r)
                        show e_Pn 20 elay kcode eI nn18 d 162 (52, (2, (0, 14)) :: (0, (1, 1)) :: (1, (0, y1)) :: List.filter (e_flt 0 2) tl19, [], w143) _
                        refine e_Pn.ord kAlk [0, 1, 2] rfl rfl ((v_162_52 (h144k.rf s136.1.2.2.2.1) _ y1 14 w143 kq.r).imp (fun r148 w149 k147 => ?_))
                        obtain ⟨rfl, k147⟩ := k147
                        exact ⟨rfl, rfl, Or.inr (rpF.tail h144 k147 m146)⟩
                      have s150 := st.re (l' := w 1 13) (m' := v 275 82) (t' := w 1 12) (st.tr s136 h144) (Int.le_refl _) rfl (by omega) (by omega) (by omega)
                      have q151 := st.nums s150
                      show e_Pn 20 elay kcode eI nn18 d 162 (52, (2, (0, 14)) :: (0, (1, 1)) :: (1, (0, y1)) :: List.filter (e_flt 0 2) tl19, [], w143) _
                      replace hM : e_Rn 20 elay ecode eI d' 343 (54, (1, (0, 10)) :: (0, (1, 275)) :: List.filter (e_flt 0 1) tl20, [], v140) r' v' := hM
                      refine e_Pn.run (t' := (53, (2, (0, 14)) :: (0, (1, 1)) :: (1, (0, y1)) :: List.filter (e_flt 0 2) tl19, [(1, 1)], w143)) kAlk 1 rfl ?_
                      refine e_Pn.getr (z := cd) kAlk rfl rfl s150.1.2.2.2.1.2.1 (by omega) ?_
                      refine e_Pn.run (t' := (58, (2, (0, 14)) :: (0, (1, 1)) :: (1, (0, y1)) :: List.filter (e_flt 0 2) tl19, [(0, 0), (0, 14), (1, cd)], w143)) kAlk 2 rfl ?_
                      refine e_Pn.callA rfl (fun nq dq => l_21 s150.1.2.2.2.1 (op := 14) (od := 0) (by omega) (by omega) s150.1.2.2.2.2.2.1) (fun r152 w153 h154 => ?_)
                      obtain ⟨z155, rfl, w153f, w153q⟩ := h154
                      have w153k := kRw.em s150.1.2.2.2.1 w153f
                      have w153l := (emQ.len w153q s150.1.2.2.2.2.2.1).1
                      have w153e : w153 1 5 = w143 1 5 ∧ w153 1 6 = w143 1 6 ∧ w153 1 8 = w143 1 8 := ⟨w153f 1 5 (by unfold kEm; omega), w153f 1 6 (by unfold kEm; omega), w153f 1 8 (by unfold kEm; omega)⟩
                      have s156 := st.em s150 w153f w153q (by omega) (by unfold isCl3; omega)
                      have q157 := st.nums s156
                      have z155r : 0 ≤ z155 ∧ z155 ≤ 4000 := emQ.z w153q s150.1.2.2.2.2.2.1
                      show e_Pn 20 elay kcode eI nn18 d 162 (61, (2, (0, 14)) :: (0, (1, 1)) :: (1, (0, y1)) :: List.filter (e_flt 0 2) tl19, [(0, z155)], w153) _
                      refine e_Pn.run (t' := (62, (2, (0, 14)) :: (0, (1, 1)) :: (1, (0, y1)) :: List.filter (e_flt 0 2) tl19, [], w153)) kAlk 1 rfl ?_
                      refine e_Pn.inc (z := y1 + 1) kAlk rfl rfl (by omega) (by omega) ?_
                      show e_Pn 20 elay kcode eI nn18 d 162 (65, (1, (0, y1 + 1)) :: (2, (0, 14)) :: (0, (1, 1)) :: List.filter (e_flt 0 1) (List.filter (e_flt 0 2) tl19), [], w153) _
                      refine e_Pn.run (t' := (6, (1, (0, y1 + 1)) :: (2, (0, 14)) :: (0, (1, 1)) :: List.filter (e_flt 0 1) (List.filter (e_flt 0 2) tl19), [], w153)) kAlk 1 rfl ?_
                      replace hM := hM.st (t' := (57, (1, (0, 10)) :: (0, (1, 275)) :: List.filter (e_flt 0 1) tl20, [(0, 0), (0, 10), (1, 275)], v140)) (fun _ _ q => e_Pn.run eAlk 3 rfl q)
                      obtain ⟨dc158, r159, v160, hc161, hM⟩ := hM.ca rfl
                      obtain ⟨⟨z162, rfl⟩, v160f⟩ := hc161.pn (fun nq => x_336 s150.1.2.2.2.2.1)
                      have v160m := mfr.rf v160f s150.1.2.2.2.2.1
                      replace hM : e_Rn 20 elay ecode eI d' 343 (60, (1, (0, 10)) :: (0, (1, 275)) :: List.filter (e_flt 0 1) tl20, [(0, z162)], v160) r' v' := hM
                      replace hM := hM.st (t' := (4, (1, (0, 10)) :: (0, (1, 275)) :: List.filter (e_flt 0 1) tl20, [], v160)) (fun _ _ q => e_Pn.run eAlk 2 rfl q)
                      have e164a : w153 1 11 = w153 1 11 := rfl
                      have e164b : v160 275 83 = v140 275 83 := (v160f 275 83 (by unfold mEm; omega))
                      have e164c : w153 1 13 = w153 1 13 := rfl
                      have e164d : v160 275 82 = v140 275 82 := (v160f 275 82 (by unfold mEm; omega))
                      have e164f : w153 1 12 = w153 1 12 := rfl
                      have e164e : v160 275 80 = v140 275 80 := (v160f 275 80 (by unfold mEm; omega))
                      have s163 := st.gen (o' := 0) (l' := w 1 13) (m' := v 275 82) (t' := w 1 12) (b' := 0) s156 (e_fr.refl w153) (e_fr.trans (e_fr.refl v140) (e_fr.mono v160f (fun c k q => by unfold mEm at q; unfold mGs; omega))) (by omega) (by omega) (by omega) (by omega)
                      have q165 := st.nums s163
                      exact e_Pn.ord kAlk [0, 1] rfl rfl (ih17 (by omega) _ _ (y1 + 1) w153 v160 ⟨(st.re s163 (by omega) (by omega) (by omega) (by omega) (by omega)), (by omega), (by omega)⟩ (e_Rn.le eAlk [0] rfl rfl hM))
                  · replace h126 : (1 : Int) = 0 := by have q : ¬ ((1 : Int) ≠ 0) := h126; omega
                    exfalso; omega
  exact e_Pn.ord kAlk [0, 1] rfl rfl (hL16 n (Nat.le_refl _) _ _ 0 w7 v4 ⟨(st.re s14 (by omega) (by omega) (by omega) (by omega) (by omega)), (by omega), (by omega)⟩ (e_Rn.le eAlk [0] rfl rfl hM))
set_option maxHeartbeats 4000000 in
theorem e_163 {n : Nat} {N cd : Int} {w v : eW} (hz : stE N cd w v) (ihG : ∀ k, k < n → eEg k) {d d' : Nat} {r' : List eV} {v' : eW} (hM : e_Rn 20 elay ecode eI d' 344 (0, [(0, (1, 275))], [], v) r' v') : e_Pn 20 elay kcode eI n d 163 (0, [(0, (1, 1))], [], w) (fun r w' => r = [] ∧ r' = [] ∧ ((st N cd w v w' v' 0 0 0 (-1) (w 1 13) (v 275 82) (w 1 12) 2 ∧ w 1 6 < w' 1 6) ∨ rpF w' v')) := by
  have h0 := hz.st (ka := 2)
  have hm := hz.1.2.2.2.1.1.m
  have hn := hz.1.2.2.2.1.1.n
  have hzo := hz.2.2.2
  have q1 := st.nums h0
  refine e_Pn.run (t' := (1, [(0, (1, 1))], [(1, 1)], w)) kAlk 1 rfl ?_
  replace hM := hM.st (t' := (1, [(0, (1, 275))], [(1, 275)], v)) (fun _ _ q => e_Pn.run eAlk 1 rfl q)
  obtain ⟨dc2, r3, v4, hc5, hM⟩ := hM.ca rfl
  have uhc5 := hc5.pn (fun nq => uE_all nq 346 (by decide) _ _ h0.1.2.2.2.2.1)
  have z9 : stE N cd w v := st.zE h0 (by omega) (by omega)
  refine e_Pn.callB rfl (fun k9 hk9 d9 => e_Pn.and (ihG k9 (by omega) 164 346 (by decide) _ _ _ _ _ _ z9 hc5) (kE_all k9 164 (by decide) d9 _ _ h0.1.2.2.2.1)) (fun r6 w7 h8 => ?_)
  obtain ⟨⟨rfl, rfl, h8⟩, -, h8k⟩ := h8
  rcases h8.symm with h8 | ⟨h8, h8p⟩
  · skip
    replace hM : e_Rn 20 elay ecode eI d' 344 (4, [(0, (1, 275))], [], v4) r' v' := hM
    obtain ⟨rfl, m10⟩ := (e_Rn.le eAlk [0] rfl rfl hM).pn (fun nq => v_344_4 (uhc5.2.rf h0.1.2.2.2.2.1) _  v4 mq.r)
    show e_Pn 20 elay kcode eI n d 163 (4, [(0, (1, 1))], [], w7) _
    refine e_Pn.ord kAlk [0] rfl rfl ((v_163_4 (h8k.rf h0.1.2.2.2.1) _  w7 kq.r).imp (fun r12 w13 k11 => ?_))
    obtain ⟨rfl, k11⟩ := k11
    exact ⟨rfl, rfl, Or.inr (rpF.tail h8 k11 m10)⟩
  have s14 := st.re (l' := w 1 13) (m' := v 275 82) (t' := w 1 12) (st.tr h0 h8) (Int.le_refl _) rfl (by omega) (by omega) (by omega)
  have q15 := st.nums s14
  show e_Pn 20 elay kcode eI n d 163 (4, [(0, (1, 1))], [], w7) _
  replace hM : e_Rn 20 elay ecode eI d' 344 (4, [(0, (1, 275))], [], v4) r' v' := hM
  refine e_Pn.run (t' := (6, [(1, (0, 0)), (0, (1, 1))], [], w7)) kAlk 2 rfl ?_
  have hL16 : ∀ nn18 : Nat, nn18 ≤ n → ∀ (tl19 tl20 : eL) (y1 : Int) (wl22 vl23 : eW), st N cd w v wl22 vl23 0 0 0 (-1) (w 1 13) (v 275 82) (w 1 12) 2 ∧ (0 ≤ y1 ∧ y1 + 1 ≤ wl22 1 6) ∧ (w 1 6 < wl22 1 6) → e_Rn 20 elay ecode eI d' 344 (4, (0, (1, 275)) :: tl20, [], vl23) r' v' → e_Pn 20 elay kcode eI nn18 d 163 (6, (0, (1, 1)) :: (1, (0, y1)) :: tl19, [], wl22) (fun r w' => r = [] ∧ r' = [] ∧ ((st N cd w v w' v' 0 0 0 (-1) (w 1 13) (v 275 82) (w 1 12) 2 ∧ w 1 6 < w' 1 6) ∨ rpF w' v')) := by
    intro nn18
    induction nn18 with
    | zero => intro _ tl19 tl20 y1 wl22 vl23 _ _; exact e_Pn.zero
    | succ nn18 ih17 =>
      intro hn tl19 tl20 y1 wl22 vl23 hj21 hM
      obtain ⟨hj21, j24, j25⟩ := hj21
      have q26 := st.nums hj21
      refine e_Pn.runS (t' := (10, (0, (1, 1)) :: (1, (0, y1)) :: tl19, [(0, 4000), (0, y1)], wl22)) kAlk 1 rfl ?_
      refine e_Pn.if2 kAlk rfl (fun h27 => ?_) (fun h27 => ?_)
      · replace h27 : (y1 : Int) ≥ 4000 := h27
        exfalso; omega
      · replace h27 : (y1 : Int) < 4000 := by have q : ¬ ((y1 : Int) ≥ 4000) := h27; omega
        refine e_Pn.run (t' := (14, (0, (1, 1)) :: (1, (0, y1)) :: tl19, [(1, 1)], wl22)) kAlk 1 rfl ?_
        refine e_Pn.getf (z := wl22 1 5) kAlk rfl rfl rfl (fun b28 => ?_)
        refine e_Pn.run (t' := (21, (0, (1, 1)) :: (1, (0, y1)) :: tl19, [(0, 12), (0, 10), (0, wl22 1 5)], wl22)) kAlk 2 rfl ?_
        refine e_Pn.callI rfl (fun nq29 dq30 => ?_)
        show e_Pn 20 elay kcode eI nq29 dq30 242 (0, [(0, (0, wl22 1 5)), (1, (0, 10)), (2, (0, 12))], [], wl22) _
        refine e_Pn.run (t' := (2, [(0, (0, wl22 1 5)), (1, (0, 10)), (2, (0, 12))], [(0, wl22 1 5), (0, 10)], wl22)) kAlk 2 rfl ?_
        refine e_Pn.if2 kAlk rfl (fun h31 => ?_) (fun h31 => ?_)
        · replace h31 : (10 : Int) > wl22 1 5 := h31
          refine e_Pn.run (t' := (15, [(0, (0, wl22 1 5)), (1, (0, 10)), (2, (0, 12))], [(0, 0)], wl22)) kAlk 1 rfl ?_
          refine e_Pn.ret4 rfl ?_
          show e_Pn 20 elay kcode eI nn18 d 163 (24, (0, (1, 1)) :: (1, (0, y1)) :: tl19, [(0, 0)], wl22) _
          refine e_Pn.if1 kAlk rfl (fun h32 => ?_) (fun h32 => ?_)
          · replace h32 : (0 : Int) = 0 := h32
            replace hM := hM.st (t' := (5, (0, (1, 275)) :: tl20, [(1, 275)], vl23)) (fun _ _ q => e_Pn.run eAlk 1 rfl q)
            obtain ⟨b33, hM⟩ := hM.of (fun _ _ q => e_Pn.getf (z := 0) eAlk rfl rfl hj21.1.2.1.1.2 q)
            rcases hM.or (fun _ _ q1 q2 => e_Pn.if1 eAlk rfl q1 q2) with ⟨h34, hM⟩ | ⟨h34, hM⟩
            · replace h34 : (0 : Int) ≠ 0 := h34
              exfalso; omega
            · replace h34 : (0 : Int) = 0 := by have q : ¬ ((0 : Int) ≠ 0) := h34; omega
              replace hM := hM.st (t' := (14, (0, (1, 275)) :: tl20, [(0, 42), (1, 275)], vl23)) (fun _ _ q => e_Pn.run eAlk 2 rfl q)
              obtain ⟨dc35, r36, v37, hc38, hM⟩ := hM.ca rfl
              obtain ⟨z39, rfl, rfl, z39q⟩ := hc38.pn (fun nq => l_331)
              replace z39q := isS (kM_s42 hj21.1.2.1.2.2.1) rfl rfl z39q
              obtain rfl : z39 = 0 := by omega
              clear z39q
              replace hM : e_Rn 20 elay ecode eI d' 344 (17, (0, (1, 275)) :: tl20, [(0, 0)], vl23) r' v' := hM
              rcases hM.or (fun _ _ q1 q2 => e_Pn.if1 eAlk rfl q1 q2) with ⟨h40, hM⟩ | ⟨h40, hM⟩
              · replace h40 : (0 : Int) ≠ 0 := h40
                exfalso; omega
              · replace h40 : (0 : Int) = 0 := by have q : ¬ ((0 : Int) ≠ 0) := h40; omega
                replace hM := hM.st (t' := (23, (0, (1, 275)) :: tl20, [(0, 47), (1, 275)], vl23)) (fun _ _ q => e_Pn.run eAlk 2 rfl q)
                obtain ⟨dc41, r42, v43, hc44, hM⟩ := hM.ca rfl
                obtain ⟨z45, rfl, rfl, z45q⟩ := hc44.pn (fun nq => l_331)
                replace z45q := isS (kM_s47 hj21.1.2.1.2.2.1) rfl rfl z45q
                obtain rfl : z45 = 0 := by omega
                clear z45q
                replace hM : e_Rn 20 elay ecode eI d' 344 (26, (0, (1, 275)) :: tl20, [(0, 0)], vl23) r' v' := hM
                rcases hM.or (fun _ _ q1 q2 => e_Pn.if1 eAlk rfl q1 q2) with ⟨h46, hM⟩ | ⟨h46, hM⟩
                · replace h46 : (0 : Int) ≠ 0 := h46
                  exfalso; omega
                · replace h46 : (0 : Int) = 0 := by have q : ¬ ((0 : Int) ≠ 0) := h46; omega
                  replace hM := hM.st (t' := (32, (0, (1, 275)) :: tl20, [(0, 37), (1, 275)], vl23)) (fun _ _ q => e_Pn.run eAlk 2 rfl q)
                  obtain ⟨dc47, r48, v49, hc50, hM⟩ := hM.ca rfl
                  obtain ⟨z51, rfl, rfl, z51q⟩ := hc50.pn (fun nq => l_331)
                  replace z51q := isS (kM_s37 hj21.1.2.1.2.2.1) rfl rfl z51q
                  obtain rfl : z51 = 0 := by omega
                  clear z51q
                  replace hM : e_Rn 20 elay ecode eI d' 344 (35, (0, (1, 275)) :: tl20, [(0, 0)], vl23) r' v' := hM
                  rcases hM.or (fun _ _ q1 q2 => e_Pn.if1 eAlk rfl q1 q2) with ⟨h52, hM⟩ | ⟨h52, hM⟩
                  · replace h52 : (0 : Int) = 0 := h52
                    obtain ⟨rfl, rfl⟩ := hM.re0 rfl
                    refine e_Pn.ret0 rfl ?_
                    exact ⟨rfl, rfl, Or.inl ⟨st.re hj21 (by omega) (by omega) (by omega) (by omega) (by omega), by omega⟩⟩
                  · replace h52 : (0 : Int) ≠ 0 := by have q : ¬ ((0 : Int) = 0) := h52; omega
                    exfalso; omega
          · replace h32 : (0 : Int) ≠ 0 := by have q : ¬ ((0 : Int) = 0) := h32; omega
            exfalso; omega
        · replace h31 : (10 : Int) ≤ wl22 1 5 := by have q : ¬ ((10 : Int) > wl22 1 5) := h31; omega
          refine e_Pn.run (t' := (7, [(0, (0, wl22 1 5)), (1, (0, 10)), (2, (0, 12))], [(0, 12), (0, wl22 1 5)], wl22)) kAlk 2 rfl ?_
          refine e_Pn.if2 kAlk rfl (fun h53 => ?_) (fun h53 => ?_)
          · replace h53 : (wl22 1 5 : Int) > 12 := h53
            refine e_Pn.run (t' := (15, [(0, (0, wl22 1 5)), (1, (0, 10)), (2, (0, 12))], [(0, 0)], wl22)) kAlk 1 rfl ?_
            refine e_Pn.ret4 rfl ?_
            show e_Pn 20 elay kcode eI nn18 d 163 (24, (0, (1, 1)) :: (1, (0, y1)) :: tl19, [(0, 0)], wl22) _
            refine e_Pn.if1 kAlk rfl (fun h54 => ?_) (fun h54 => ?_)
            · replace h54 : (0 : Int) = 0 := h54
              replace hM := hM.st (t' := (5, (0, (1, 275)) :: tl20, [(1, 275)], vl23)) (fun _ _ q => e_Pn.run eAlk 1 rfl q)
              obtain ⟨b55, hM⟩ := hM.of (fun _ _ q => e_Pn.getf (z := 0) eAlk rfl rfl hj21.1.2.1.1.2 q)
              rcases hM.or (fun _ _ q1 q2 => e_Pn.if1 eAlk rfl q1 q2) with ⟨h56, hM⟩ | ⟨h56, hM⟩
              · replace h56 : (0 : Int) ≠ 0 := h56
                exfalso; omega
              · replace h56 : (0 : Int) = 0 := by have q : ¬ ((0 : Int) ≠ 0) := h56; omega
                replace hM := hM.st (t' := (14, (0, (1, 275)) :: tl20, [(0, 42), (1, 275)], vl23)) (fun _ _ q => e_Pn.run eAlk 2 rfl q)
                obtain ⟨dc57, r58, v59, hc60, hM⟩ := hM.ca rfl
                obtain ⟨z61, rfl, rfl, z61q⟩ := hc60.pn (fun nq => l_331)
                replace z61q := isS (kM_s42 hj21.1.2.1.2.2.1) rfl rfl z61q
                obtain rfl : z61 = 0 := by omega
                clear z61q
                replace hM : e_Rn 20 elay ecode eI d' 344 (17, (0, (1, 275)) :: tl20, [(0, 0)], vl23) r' v' := hM
                rcases hM.or (fun _ _ q1 q2 => e_Pn.if1 eAlk rfl q1 q2) with ⟨h62, hM⟩ | ⟨h62, hM⟩
                · replace h62 : (0 : Int) ≠ 0 := h62
                  exfalso; omega
                · replace h62 : (0 : Int) = 0 := by have q : ¬ ((0 : Int) ≠ 0) := h62; omega
                  replace hM := hM.st (t' := (23, (0, (1, 275)) :: tl20, [(0, 47), (1, 275)], vl23)) (fun _ _ q => e_Pn.run eAlk 2 rfl q)
                  obtain ⟨dc63, r64, v65, hc66, hM⟩ := hM.ca rfl
                  obtain ⟨z67, rfl, rfl, z67q⟩ := hc66.pn (fun nq => l_331)
                  replace z67q := isS (kM_s47 hj21.1.2.1.2.2.1) rfl rfl z67q
                  obtain rfl : z67 = 0 := by omega
                  clear z67q
                  replace hM : e_Rn 20 elay ecode eI d' 344 (26, (0, (1, 275)) :: tl20, [(0, 0)], vl23) r' v' := hM
                  rcases hM.or (fun _ _ q1 q2 => e_Pn.if1 eAlk rfl q1 q2) with ⟨h68, hM⟩ | ⟨h68, hM⟩
                  · replace h68 : (0 : Int) ≠ 0 := h68
                    exfalso; omega
                  · replace h68 : (0 : Int) = 0 := by have q : ¬ ((0 : Int) ≠ 0) := h68; omega
                    replace hM := hM.st (t' := (32, (0, (1, 275)) :: tl20, [(0, 37), (1, 275)], vl23)) (fun _ _ q => e_Pn.run eAlk 2 rfl q)
                    obtain ⟨dc69, r70, v71, hc72, hM⟩ := hM.ca rfl
                    obtain ⟨z73, rfl, rfl, z73q⟩ := hc72.pn (fun nq => l_331)
                    replace z73q := isS (kM_s37 hj21.1.2.1.2.2.1) rfl rfl z73q
                    obtain rfl : z73 = 0 := by omega
                    clear z73q
                    replace hM : e_Rn 20 elay ecode eI d' 344 (35, (0, (1, 275)) :: tl20, [(0, 0)], vl23) r' v' := hM
                    rcases hM.or (fun _ _ q1 q2 => e_Pn.if1 eAlk rfl q1 q2) with ⟨h74, hM⟩ | ⟨h74, hM⟩
                    · replace h74 : (0 : Int) = 0 := h74
                      obtain ⟨rfl, rfl⟩ := hM.re0 rfl
                      refine e_Pn.ret0 rfl ?_
                      exact ⟨rfl, rfl, Or.inl ⟨st.re hj21 (by omega) (by omega) (by omega) (by omega) (by omega), by omega⟩⟩
                    · replace h74 : (0 : Int) ≠ 0 := by have q : ¬ ((0 : Int) = 0) := h74; omega
                      exfalso; omega
            · replace h54 : (0 : Int) ≠ 0 := by have q : ¬ ((0 : Int) = 0) := h54; omega
              exfalso; omega
          · replace h53 : (wl22 1 5 : Int) ≤ 12 := by have q : ¬ ((wl22 1 5 : Int) > 12) := h53; omega
            refine e_Pn.run (t' := (15, [(0, (0, wl22 1 5)), (1, (0, 10)), (2, (0, 12))], [(0, 1)], wl22)) kAlk 2 rfl ?_
            refine e_Pn.ret4 rfl ?_
            show e_Pn 20 elay kcode eI nn18 d 163 (24, (0, (1, 1)) :: (1, (0, y1)) :: tl19, [(0, 1)], wl22) _
            refine e_Pn.if1 kAlk rfl (fun h75 => ?_) (fun h75 => ?_)
            · replace h75 : (1 : Int) = 0 := h75
              exfalso; omega
            · replace h75 : (1 : Int) ≠ 0 := by have q : ¬ ((1 : Int) = 0) := h75; omega
              refine e_Pn.run (t' := (30, (0, (1, 1)) :: (1, (0, y1)) :: tl19, [(1, 1), (0, 16)], wl22)) kAlk 2 rfl ?_
              refine e_Pn.getf (z := wl22 1 5) kAlk rfl rfl rfl (fun b76 => ?_)
              refine e_Pn.add (z := wl22 1 5 + 16) kAlk rfl (by omega) (by omega) ?_
              refine e_Pn.run (t' := (36, (0, (1, 1)) :: (1, (0, y1)) :: tl19, [(0, 10), (0, wl22 1 5 + 16)], wl22)) kAlk 1 rfl ?_
              refine e_Pn.sub' (z := wl22 1 5 + 6) kAlk rfl (by omega) (by omega) ?_
              refine e_Pn.run (t' := (39, (2, (0, wl22 1 5 + 6)) :: (0, (1, 1)) :: (1, (0, y1)) :: List.filter (e_flt 0 2) tl19, [(1, 1)], wl22)) kAlk 2 rfl ?_
              replace hM := hM.st (t' := (5, (0, (1, 275)) :: tl20, [(1, 275)], vl23)) (fun _ _ q => e_Pn.run eAlk 1 rfl q)
              obtain ⟨b77, hM⟩ := hM.of (fun _ _ q => e_Pn.getf (z := 0) eAlk rfl rfl hj21.1.2.1.1.2 q)
              rcases hM.or (fun _ _ q1 q2 => e_Pn.if1 eAlk rfl q1 q2) with ⟨h78, hM⟩ | ⟨h78, hM⟩
              · replace h78 : (0 : Int) ≠ 0 := h78
                exfalso; omega
              · replace h78 : (0 : Int) = 0 := by have q : ¬ ((0 : Int) ≠ 0) := h78; omega
                replace hM := hM.st (t' := (14, (0, (1, 275)) :: tl20, [(0, 42), (1, 275)], vl23)) (fun _ _ q => e_Pn.run eAlk 2 rfl q)
                obtain ⟨dc79, r80, v81, hc82, hM⟩ := hM.ca rfl
                obtain ⟨z83, rfl, rfl, z83q⟩ := hc82.pn (fun nq => l_331)
                replace z83q := isS (kM_s42 hj21.1.2.1.2.2.1) rfl rfl z83q
                rcases z83q with ⟨rfl, z83q⟩ | ⟨rfl, z83q⟩
                · replace hM : e_Rn 20 elay ecode eI d' 344 (17, (0, (1, 275)) :: tl20, [(0, 1)], vl23) r' v' := hM
                  rcases hM.or (fun _ _ q1 q2 => e_Pn.if1 eAlk rfl q1 q2) with ⟨h84, hM⟩ | ⟨h84, hM⟩
                  · replace h84 : (1 : Int) ≠ 0 := h84
                    replace hM := hM.st (t' := (39, (0, (1, 275)) :: tl20, [(1, 275)], vl23)) (fun _ _ q => e_Pn.run eAlk 1 rfl q)
                    obtain ⟨b85, hM⟩ := hM.of (fun _ _ q => e_Pn.getf (z := 42) eAlk rfl rfl ((kM_s42 hj21.1.2.1.2.2.1).mpr (by omega)).2 q)
                    replace hM := hM.st (t' := (44, (0, (1, 275)) :: tl20, [(0, 42), (0, 42)], vl23)) (fun _ _ q => e_Pn.run eAlk 1 rfl q)
                    rcases hM.or (fun _ _ q1 q2 => e_Pn.if2 eAlk rfl q1 q2) with ⟨h86, hM⟩ | ⟨h86, hM⟩
                    · replace h86 : (42 : Int) ≠ 42 := h86
                      exfalso; omega
                    · replace h86 : (42 : Int) = 42 := by have q : ¬ ((42 : Int) ≠ 42) := h86; omega
                      replace hM := hM.st (t' := (70, (1, (0, 12)) :: (0, (1, 275)) :: List.filter (e_flt 0 1) tl20, [(1, 275)], vl23)) (fun _ _ q => e_Pn.run eAlk 4 rfl q)
                      obtain ⟨dc87, r88, v89, hc90, hM⟩ := hM.ca rfl
                      refine e_Pn.callA rfl (fun nq dq => t_123b hj21.1.1 hj21.1.2.1.1 hj21.1.2.1.2.1.2.1 (st.nx hj21) (d' := dc87) hc90) (fun r91 w92 h93 => ?_)
                      obtain ⟨rfl, rfl, h93⟩ := h93
                      have s94 := st.ad (k := 1) hj21 h93 (st.len1 hj21 (by omega)) (by omega)
                      have s94n := h93.2.2.2.1
                      have s94m := st.len1 hj21 (by omega)
                      have q95 := st.nums s94
                      show e_Pn 20 elay kcode eI nn18 d 163 (42, (2, (0, wl22 1 5 + 6)) :: (0, (1, 1)) :: (1, (0, y1)) :: List.filter (e_flt 0 2) tl19, [], w92) _
                      replace hM : e_Rn 20 elay ecode eI d' 344 (73, (1, (0, 12)) :: (0, (1, 275)) :: List.filter (e_flt 0 1) tl20, [], v89) r' v' := hM
                      refine e_Pn.run (t' := (43, (2, (0, wl22 1 5 + 6)) :: (0, (1, 1)) :: (1, (0, y1)) :: List.filter (e_flt 0 2) tl19, [(1, 1)], w92)) kAlk 1 rfl ?_
                      replace hM := hM.st (t' := (74, (1, (0, 12)) :: (0, (1, 275)) :: List.filter (e_flt 0 1) tl20, [(1, 275)], v89)) (fun _ _ q => e_Pn.run eAlk 1 rfl q)
                      obtain ⟨dc96, r97, v98, hc99, hM⟩ := hM.ca rfl
                      have uhc99 := hc99.pn (fun nq => uE_all nq 346 (by decide) _ _ s94.1.2.2.2.2.1)
                      have z103 : stE N cd w92 v89 := st.zE s94 (by omega) (by omega)
                      refine e_Pn.callB rfl (fun k9 hk9 d9 => e_Pn.and (ihG k9 (by omega) 164 346 (by decide) _ _ _ _ _ _ z103 hc99) (kE_all k9 164 (by decide) d9 _ _ s94.1.2.2.2.1)) (fun r100 w101 h102 => ?_)
                      obtain ⟨⟨rfl, rfl, h102⟩, -, h102k⟩ := h102
                      rcases h102.symm with h102 | ⟨h102, h102p⟩
                      · skip
                        replace hM : e_Rn 20 elay ecode eI d' 344 (77, (1, (0, 12)) :: (0, (1, 275)) :: List.filter (e_flt 0 1) tl20, [], v98) r' v' := hM
                        obtain ⟨rfl, m104⟩ := (e_Rn.le eAlk [0, 1] rfl rfl hM).pn (fun nq => v_344_77 (uhc99.2.rf s94.1.2.2.2.2.1) _ 12 v98 mq.r)
                        show e_Pn 20 elay kcode eI nn18 d 163 (46, (2, (0, wl22 1 5 + 6)) :: (0, (1, 1)) :: (1, (0, y1)) :: List.filter (e_flt 0 2) tl19, [], w101) _
                        refine e_Pn.ord kAlk [0, 1, 2] rfl rfl ((v_163_46 (h102k.rf s94.1.2.2.2.1) _ y1 (wl22 1 5 + 6) w101 kq.r).imp (fun r106 w107 k105 => ?_))
                        obtain ⟨rfl, k105⟩ := k105
                        exact ⟨rfl, rfl, Or.inr (rpF.tail h102 k105 m104)⟩
                      have s108 := st.re (l' := w 1 13) (m' := v 275 82) (t' := w 1 12) (st.tr s94 h102) (Int.le_refl _) rfl (by omega) (by omega) (by omega)
                      have q109 := st.nums s108
                      show e_Pn 20 elay kcode eI nn18 d 163 (46, (2, (0, wl22 1 5 + 6)) :: (0, (1, 1)) :: (1, (0, y1)) :: List.filter (e_flt 0 2) tl19, [], w101) _
                      replace hM : e_Rn 20 elay ecode eI d' 344 (77, (1, (0, 12)) :: (0, (1, 275)) :: List.filter (e_flt 0 1) tl20, [], v98) r' v' := hM
                      refine e_Pn.run (t' := (47, (2, (0, wl22 1 5 + 6)) :: (0, (1, 1)) :: (1, (0, y1)) :: List.filter (e_flt 0 2) tl19, [(1, 1)], w101)) kAlk 1 rfl ?_
                      refine e_Pn.getr (z := cd) kAlk rfl rfl s108.1.2.2.2.1.2.1 (by omega) ?_
                      refine e_Pn.run (t' := (52, (2, (0, wl22 1 5 + 6)) :: (0, (1, 1)) :: (1, (0, y1)) :: List.filter (e_flt 0 2) tl19, [(0, 0), (0, wl22 1 5 + 6), (1, cd)], w101)) kAlk 2 rfl ?_
                      refine e_Pn.callA rfl (fun nq dq => l_21 s108.1.2.2.2.1 (op := wl22 1 5 + 6) (od := 0) (by omega) (by omega) s108.1.2.2.2.2.2.1) (fun r110 w111 h112 => ?_)
                      obtain ⟨z113, rfl, w111f, w111q⟩ := h112
                      have w111k := kRw.em s108.1.2.2.2.1 w111f
                      have w111l := (emQ.len w111q s108.1.2.2.2.2.2.1).1
                      have w111e : w111 1 5 = w101 1 5 ∧ w111 1 6 = w101 1 6 ∧ w111 1 8 = w101 1 8 := ⟨w111f 1 5 (by unfold kEm; omega), w111f 1 6 (by unfold kEm; omega), w111f 1 8 (by unfold kEm; omega)⟩
                      have s114 := st.em s108 w111f w111q (by omega) (by unfold isCl3; omega)
                      have q115 := st.nums s114
                      have z113r : 0 ≤ z113 ∧ z113 ≤ 4000 := emQ.z w111q s108.1.2.2.2.2.2.1
                      show e_Pn 20 elay kcode eI nn18 d 163 (55, (2, (0, wl22 1 5 + 6)) :: (0, (1, 1)) :: (1, (0, y1)) :: List.filter (e_flt 0 2) tl19, [(0, z113)], w111) _
                      refine e_Pn.run (t' := (56, (2, (0, wl22 1 5 + 6)) :: (0, (1, 1)) :: (1, (0, y1)) :: List.filter (e_flt 0 2) tl19, [], w111)) kAlk 1 rfl ?_
                      refine e_Pn.inc (z := y1 + 1) kAlk rfl rfl (by omega) (by omega) ?_
                      show e_Pn 20 elay kcode eI nn18 d 163 (59, (1, (0, y1 + 1)) :: (2, (0, wl22 1 5 + 6)) :: (0, (1, 1)) :: List.filter (e_flt 0 1) (List.filter (e_flt 0 2) tl19), [], w111) _
                      refine e_Pn.run (t' := (6, (1, (0, y1 + 1)) :: (2, (0, wl22 1 5 + 6)) :: (0, (1, 1)) :: List.filter (e_flt 0 1) (List.filter (e_flt 0 2) tl19), [], w111)) kAlk 1 rfl ?_
                      replace hM := hM.st (t' := (80, (1, (0, 12)) :: (0, (1, 275)) :: List.filter (e_flt 0 1) tl20, [(0, 0), (0, 12), (1, 275)], v98)) (fun _ _ q => e_Pn.run eAlk 3 rfl q)
                      obtain ⟨dc116, r117, v118, hc119, hM⟩ := hM.ca rfl
                      obtain ⟨⟨z120, rfl⟩, v118f⟩ := hc119.pn (fun nq => x_336 s108.1.2.2.2.2.1)
                      have v118m := mfr.rf v118f s108.1.2.2.2.2.1
                      replace hM : e_Rn 20 elay ecode eI d' 344 (83, (1, (0, 12)) :: (0, (1, 275)) :: List.filter (e_flt 0 1) tl20, [(0, z120)], v118) r' v' := hM
                      replace hM := hM.st (t' := (4, (1, (0, 12)) :: (0, (1, 275)) :: List.filter (e_flt 0 1) tl20, [], v118)) (fun _ _ q => e_Pn.run eAlk 2 rfl q)
                      have e122a : w111 1 11 = w111 1 11 := rfl
                      have e122b : v118 275 83 = v98 275 83 := (v118f 275 83 (by unfold mEm; omega))
                      have e122c : w111 1 13 = w111 1 13 := rfl
                      have e122d : v118 275 82 = v98 275 82 := (v118f 275 82 (by unfold mEm; omega))
                      have e122f : w111 1 12 = w111 1 12 := rfl
                      have e122e : v118 275 80 = v98 275 80 := (v118f 275 80 (by unfold mEm; omega))
                      have s121 := st.gen (o' := 0) (l' := w 1 13) (m' := v 275 82) (t' := w 1 12) (b' := 0) s114 (e_fr.refl w111) (e_fr.trans (e_fr.refl v98) (e_fr.mono v118f (fun c k q => by unfold mEm at q; unfold mGs; omega))) (by omega) (by omega) (by omega) (by omega)
                      have q123 := st.nums s121
                      exact e_Pn.ord kAlk [0, 1] rfl rfl (ih17 (by omega) _ _ (y1 + 1) w111 v118 ⟨(st.re s121 (by omega) (by omega) (by omega) (by omega) (by omega)), (by omega), (by omega)⟩ (e_Rn.le eAlk [0] rfl rfl hM))
                  · replace h84 : (1 : Int) = 0 := by have q : ¬ ((1 : Int) ≠ 0) := h84; omega
                    exfalso; omega
                · replace hM : e_Rn 20 elay ecode eI d' 344 (17, (0, (1, 275)) :: tl20, [(0, 0)], vl23) r' v' := hM
                  rcases hM.or (fun _ _ q1 q2 => e_Pn.if1 eAlk rfl q1 q2) with ⟨h124, hM⟩ | ⟨h124, hM⟩
                  · replace h124 : (0 : Int) ≠ 0 := h124
                    exfalso; omega
                  · replace h124 : (0 : Int) = 0 := by have q : ¬ ((0 : Int) ≠ 0) := h124; omega
                    replace hM := hM.st (t' := (23, (0, (1, 275)) :: tl20, [(0, 47), (1, 275)], vl23)) (fun _ _ q => e_Pn.run eAlk 2 rfl q)
                    obtain ⟨dc125, r126, v127, hc128, hM⟩ := hM.ca rfl
                    obtain ⟨z129, rfl, rfl, z129q⟩ := hc128.pn (fun nq => l_331)
                    replace z129q := isS (kM_s47 hj21.1.2.1.2.2.1) rfl rfl z129q
                    rcases z129q with ⟨rfl, z129q⟩ | ⟨rfl, z129q⟩
                    · replace hM : e_Rn 20 elay ecode eI d' 344 (26, (0, (1, 275)) :: tl20, [(0, 1)], vl23) r' v' := hM
                      rcases hM.or (fun _ _ q1 q2 => e_Pn.if1 eAlk rfl q1 q2) with ⟨h130, hM⟩ | ⟨h130, hM⟩
                      · replace h130 : (1 : Int) ≠ 0 := h130
                        replace hM := hM.st (t' := (39, (0, (1, 275)) :: tl20, [(1, 275)], vl23)) (fun _ _ q => e_Pn.run eAlk 1 rfl q)
                        obtain ⟨b131, hM⟩ := hM.of (fun _ _ q => e_Pn.getf (z := 47) eAlk rfl rfl ((kM_s47 hj21.1.2.1.2.2.1).mpr (by omega)).2 q)
                        replace hM := hM.st (t' := (44, (0, (1, 275)) :: tl20, [(0, 42), (0, 47)], vl23)) (fun _ _ q => e_Pn.run eAlk 1 rfl q)
                        rcases hM.or (fun _ _ q1 q2 => e_Pn.if2 eAlk rfl q1 q2) with ⟨h132, hM⟩ | ⟨h132, hM⟩
                        · replace h132 : (47 : Int) ≠ 42 := h132
                          replace hM := hM.st (t' := (53, (0, (1, 275)) :: tl20, [(1, 275)], vl23)) (fun _ _ q => e_Pn.run eAlk 1 rfl q)
                          obtain ⟨b133, hM⟩ := hM.of (fun _ _ q => e_Pn.getf (z := 47) eAlk rfl rfl ((kM_s47 hj21.1.2.1.2.2.1).mpr (by omega)).2 q)
                          replace hM := hM.st (t' := (58, (0, (1, 275)) :: tl20, [(0, 47), (0, 47)], vl23)) (fun _ _ q => e_Pn.run eAlk 1 rfl q)
                          rcases hM.or (fun _ _ q1 q2 => e_Pn.if2 eAlk rfl q1 q2) with ⟨h134, hM⟩ | ⟨h134, hM⟩
                          · replace h134 : (47 : Int) ≠ 47 := h134
                            exfalso; omega
                          · replace h134 : (47 : Int) = 47 := by have q : ¬ ((47 : Int) ≠ 47) := h134; omega
                            replace hM := hM.st (t' := (70, (1, (0, 13)) :: (0, (1, 275)) :: List.filter (e_flt 0 1) tl20, [(1, 275)], vl23)) (fun _ _ q => e_Pn.run eAlk 4 rfl q)
                            obtain ⟨dc135, r136, v137, hc138, hM⟩ := hM.ca rfl
                            refine e_Pn.callA rfl (fun nq dq => t_123b hj21.1.1 hj21.1.2.1.1 hj21.1.2.1.2.1.2.1 (st.nx hj21) (d' := dc135) hc138) (fun r139 w140 h141 => ?_)
                            obtain ⟨rfl, rfl, h141⟩ := h141
                            have s142 := st.ad (k := 1) hj21 h141 (st.len1 hj21 (by omega)) (by omega)
                            have s142n := h141.2.2.2.1
                            have s142m := st.len1 hj21 (by omega)
                            have q143 := st.nums s142
                            show e_Pn 20 elay kcode eI nn18 d 163 (42, (2, (0, wl22 1 5 + 6)) :: (0, (1, 1)) :: (1, (0, y1)) :: List.filter (e_flt 0 2) tl19, [], w140) _
                            replace hM : e_Rn 20 elay ecode eI d' 344 (73, (1, (0, 13)) :: (0, (1, 275)) :: List.filter (e_flt 0 1) tl20, [], v137) r' v' := hM
                            refine e_Pn.run (t' := (43, (2, (0, wl22 1 5 + 6)) :: (0, (1, 1)) :: (1, (0, y1)) :: List.filter (e_flt 0 2) tl19, [(1, 1)], w140)) kAlk 1 rfl ?_
                            replace hM := hM.st (t' := (74, (1, (0, 13)) :: (0, (1, 275)) :: List.filter (e_flt 0 1) tl20, [(1, 275)], v137)) (fun _ _ q => e_Pn.run eAlk 1 rfl q)
                            obtain ⟨dc144, r145, v146, hc147, hM⟩ := hM.ca rfl
                            have uhc147 := hc147.pn (fun nq => uE_all nq 346 (by decide) _ _ s142.1.2.2.2.2.1)
                            have z151 : stE N cd w140 v137 := st.zE s142 (by omega) (by omega)
                            refine e_Pn.callB rfl (fun k9 hk9 d9 => e_Pn.and (ihG k9 (by omega) 164 346 (by decide) _ _ _ _ _ _ z151 hc147) (kE_all k9 164 (by decide) d9 _ _ s142.1.2.2.2.1)) (fun r148 w149 h150 => ?_)
                            obtain ⟨⟨rfl, rfl, h150⟩, -, h150k⟩ := h150
                            rcases h150.symm with h150 | ⟨h150, h150p⟩
                            · skip
                              replace hM : e_Rn 20 elay ecode eI d' 344 (77, (1, (0, 13)) :: (0, (1, 275)) :: List.filter (e_flt 0 1) tl20, [], v146) r' v' := hM
                              obtain ⟨rfl, m152⟩ := (e_Rn.le eAlk [0, 1] rfl rfl hM).pn (fun nq => v_344_77 (uhc147.2.rf s142.1.2.2.2.2.1) _ 13 v146 mq.r)
                              show e_Pn 20 elay kcode eI nn18 d 163 (46, (2, (0, wl22 1 5 + 6)) :: (0, (1, 1)) :: (1, (0, y1)) :: List.filter (e_flt 0 2) tl19, [], w149) _
                              refine e_Pn.ord kAlk [0, 1, 2] rfl rfl ((v_163_46 (h150k.rf s142.1.2.2.2.1) _ y1 (wl22 1 5 + 6) w149 kq.r).imp (fun r154 w155 k153 => ?_))
                              obtain ⟨rfl, k153⟩ := k153
                              exact ⟨rfl, rfl, Or.inr (rpF.tail h150 k153 m152)⟩
                            have s156 := st.re (l' := w 1 13) (m' := v 275 82) (t' := w 1 12) (st.tr s142 h150) (Int.le_refl _) rfl (by omega) (by omega) (by omega)
                            have q157 := st.nums s156
                            show e_Pn 20 elay kcode eI nn18 d 163 (46, (2, (0, wl22 1 5 + 6)) :: (0, (1, 1)) :: (1, (0, y1)) :: List.filter (e_flt 0 2) tl19, [], w149) _
                            replace hM : e_Rn 20 elay ecode eI d' 344 (77, (1, (0, 13)) :: (0, (1, 275)) :: List.filter (e_flt 0 1) tl20, [], v146) r' v' := hM
                            refine e_Pn.run (t' := (47, (2, (0, wl22 1 5 + 6)) :: (0, (1, 1)) :: (1, (0, y1)) :: List.filter (e_flt 0 2) tl19, [(1, 1)], w149)) kAlk 1 rfl ?_
                            refine e_Pn.getr (z := cd) kAlk rfl rfl s156.1.2.2.2.1.2.1 (by omega) ?_
                            refine e_Pn.run (t' := (52, (2, (0, wl22 1 5 + 6)) :: (0, (1, 1)) :: (1, (0, y1)) :: List.filter (e_flt 0 2) tl19, [(0, 0), (0, wl22 1 5 + 6), (1, cd)], w149)) kAlk 2 rfl ?_
                            refine e_Pn.callA rfl (fun nq dq => l_21 s156.1.2.2.2.1 (op := wl22 1 5 + 6) (od := 0) (by omega) (by omega) s156.1.2.2.2.2.2.1) (fun r158 w159 h160 => ?_)
                            obtain ⟨z161, rfl, w159f, w159q⟩ := h160
                            have w159k := kRw.em s156.1.2.2.2.1 w159f
                            have w159l := (emQ.len w159q s156.1.2.2.2.2.2.1).1
                            have w159e : w159 1 5 = w149 1 5 ∧ w159 1 6 = w149 1 6 ∧ w159 1 8 = w149 1 8 := ⟨w159f 1 5 (by unfold kEm; omega), w159f 1 6 (by unfold kEm; omega), w159f 1 8 (by unfold kEm; omega)⟩
                            have s162 := st.em s156 w159f w159q (by omega) (by unfold isCl3; omega)
                            have q163 := st.nums s162
                            have z161r : 0 ≤ z161 ∧ z161 ≤ 4000 := emQ.z w159q s156.1.2.2.2.2.2.1
                            show e_Pn 20 elay kcode eI nn18 d 163 (55, (2, (0, wl22 1 5 + 6)) :: (0, (1, 1)) :: (1, (0, y1)) :: List.filter (e_flt 0 2) tl19, [(0, z161)], w159) _
                            refine e_Pn.run (t' := (56, (2, (0, wl22 1 5 + 6)) :: (0, (1, 1)) :: (1, (0, y1)) :: List.filter (e_flt 0 2) tl19, [], w159)) kAlk 1 rfl ?_
                            refine e_Pn.inc (z := y1 + 1) kAlk rfl rfl (by omega) (by omega) ?_
                            show e_Pn 20 elay kcode eI nn18 d 163 (59, (1, (0, y1 + 1)) :: (2, (0, wl22 1 5 + 6)) :: (0, (1, 1)) :: List.filter (e_flt 0 1) (List.filter (e_flt 0 2) tl19), [], w159) _
                            refine e_Pn.run (t' := (6, (1, (0, y1 + 1)) :: (2, (0, wl22 1 5 + 6)) :: (0, (1, 1)) :: List.filter (e_flt 0 1) (List.filter (e_flt 0 2) tl19), [], w159)) kAlk 1 rfl ?_
                            replace hM := hM.st (t' := (80, (1, (0, 13)) :: (0, (1, 275)) :: List.filter (e_flt 0 1) tl20, [(0, 0), (0, 13), (1, 275)], v146)) (fun _ _ q => e_Pn.run eAlk 3 rfl q)
                            obtain ⟨dc164, r165, v166, hc167, hM⟩ := hM.ca rfl
                            obtain ⟨⟨z168, rfl⟩, v166f⟩ := hc167.pn (fun nq => x_336 s156.1.2.2.2.2.1)
                            have v166m := mfr.rf v166f s156.1.2.2.2.2.1
                            replace hM : e_Rn 20 elay ecode eI d' 344 (83, (1, (0, 13)) :: (0, (1, 275)) :: List.filter (e_flt 0 1) tl20, [(0, z168)], v166) r' v' := hM
                            replace hM := hM.st (t' := (4, (1, (0, 13)) :: (0, (1, 275)) :: List.filter (e_flt 0 1) tl20, [], v166)) (fun _ _ q => e_Pn.run eAlk 2 rfl q)
                            have e170a : w159 1 11 = w159 1 11 := rfl
                            have e170b : v166 275 83 = v146 275 83 := (v166f 275 83 (by unfold mEm; omega))
                            have e170c : w159 1 13 = w159 1 13 := rfl
                            have e170d : v166 275 82 = v146 275 82 := (v166f 275 82 (by unfold mEm; omega))
                            have e170f : w159 1 12 = w159 1 12 := rfl
                            have e170e : v166 275 80 = v146 275 80 := (v166f 275 80 (by unfold mEm; omega))
                            have s169 := st.gen (o' := 0) (l' := w 1 13) (m' := v 275 82) (t' := w 1 12) (b' := 0) s162 (e_fr.refl w159) (e_fr.trans (e_fr.refl v146) (e_fr.mono v166f (fun c k q => by unfold mEm at q; unfold mGs; omega))) (by omega) (by omega) (by omega) (by omega)
                            have q171 := st.nums s169
                            exact e_Pn.ord kAlk [0, 1] rfl rfl (ih17 (by omega) _ _ (y1 + 1) w159 v166 ⟨(st.re s169 (by omega) (by omega) (by omega) (by omega) (by omega)), (by omega), (by omega)⟩ (e_Rn.le eAlk [0] rfl rfl hM))
                        · replace h132 : (47 : Int) = 42 := by have q : ¬ ((47 : Int) ≠ 42) := h132; omega
                          exfalso; omega
                      · replace h130 : (1 : Int) = 0 := by have q : ¬ ((1 : Int) ≠ 0) := h130; omega
                        exfalso; omega
                    · replace hM : e_Rn 20 elay ecode eI d' 344 (26, (0, (1, 275)) :: tl20, [(0, 0)], vl23) r' v' := hM
                      rcases hM.or (fun _ _ q1 q2 => e_Pn.if1 eAlk rfl q1 q2) with ⟨h172, hM⟩ | ⟨h172, hM⟩
                      · replace h172 : (0 : Int) ≠ 0 := h172
                        exfalso; omega
                      · replace h172 : (0 : Int) = 0 := by have q : ¬ ((0 : Int) ≠ 0) := h172; omega
                        replace hM := hM.st (t' := (32, (0, (1, 275)) :: tl20, [(0, 37), (1, 275)], vl23)) (fun _ _ q => e_Pn.run eAlk 2 rfl q)
                        obtain ⟨dc173, r174, v175, hc176, hM⟩ := hM.ca rfl
                        obtain ⟨z177, rfl, rfl, z177q⟩ := hc176.pn (fun nq => l_331)
                        replace z177q := isS (kM_s37 hj21.1.2.1.2.2.1) rfl rfl z177q
                        obtain rfl : z177 = 1 := by omega
                        clear z177q
                        replace hM : e_Rn 20 elay ecode eI d' 344 (35, (0, (1, 275)) :: tl20, [(0, 1)], vl23) r' v' := hM
                        rcases hM.or (fun _ _ q1 q2 => e_Pn.if1 eAlk rfl q1 q2) with ⟨h178, hM⟩ | ⟨h178, hM⟩
                        · replace h178 : (1 : Int) = 0 := h178
                          exfalso; omega
                        · replace h178 : (1 : Int) ≠ 0 := by have q : ¬ ((1 : Int) = 0) := h178; omega
                          replace hM := hM.st (t' := (39, (0, (1, 275)) :: tl20, [(1, 275)], vl23)) (fun _ _ q => e_Pn.run eAlk 1 rfl q)
                          obtain ⟨b179, hM⟩ := hM.of (fun _ _ q => e_Pn.getf (z := 37) eAlk rfl rfl ((kM_s37 hj21.1.2.1.2.2.1).mpr (by omega)).2 q)
                          replace hM := hM.st (t' := (44, (0, (1, 275)) :: tl20, [(0, 42), (0, 37)], vl23)) (fun _ _ q => e_Pn.run eAlk 1 rfl q)
                          rcases hM.or (fun _ _ q1 q2 => e_Pn.if2 eAlk rfl q1 q2) with ⟨h180, hM⟩ | ⟨h180, hM⟩
                          · replace h180 : (37 : Int) ≠ 42 := h180
                            replace hM := hM.st (t' := (53, (0, (1, 275)) :: tl20, [(1, 275)], vl23)) (fun _ _ q => e_Pn.run eAlk 1 rfl q)
                            obtain ⟨b181, hM⟩ := hM.of (fun _ _ q => e_Pn.getf (z := 37) eAlk rfl rfl ((kM_s37 hj21.1.2.1.2.2.1).mpr (by omega)).2 q)
                            replace hM := hM.st (t' := (58, (0, (1, 275)) :: tl20, [(0, 47), (0, 37)], vl23)) (fun _ _ q => e_Pn.run eAlk 1 rfl q)
                            rcases hM.or (fun _ _ q1 q2 => e_Pn.if2 eAlk rfl q1 q2) with ⟨h182, hM⟩ | ⟨h182, hM⟩
                            · replace h182 : (37 : Int) ≠ 47 := h182
                              replace hM := hM.st (t' := (70, (1, (0, 14)) :: (0, (1, 275)) :: List.filter (e_flt 0 1) tl20, [(1, 275)], vl23)) (fun _ _ q => e_Pn.run eAlk 3 rfl q)
                              obtain ⟨dc183, r184, v185, hc186, hM⟩ := hM.ca rfl
                              refine e_Pn.callA rfl (fun nq dq => t_123b hj21.1.1 hj21.1.2.1.1 hj21.1.2.1.2.1.2.1 (st.nx hj21) (d' := dc183) hc186) (fun r187 w188 h189 => ?_)
                              obtain ⟨rfl, rfl, h189⟩ := h189
                              have s190 := st.ad (k := 1) hj21 h189 (st.len1 hj21 (by omega)) (by omega)
                              have s190n := h189.2.2.2.1
                              have s190m := st.len1 hj21 (by omega)
                              have q191 := st.nums s190
                              show e_Pn 20 elay kcode eI nn18 d 163 (42, (2, (0, wl22 1 5 + 6)) :: (0, (1, 1)) :: (1, (0, y1)) :: List.filter (e_flt 0 2) tl19, [], w188) _
                              replace hM : e_Rn 20 elay ecode eI d' 344 (73, (1, (0, 14)) :: (0, (1, 275)) :: List.filter (e_flt 0 1) tl20, [], v185) r' v' := hM
                              refine e_Pn.run (t' := (43, (2, (0, wl22 1 5 + 6)) :: (0, (1, 1)) :: (1, (0, y1)) :: List.filter (e_flt 0 2) tl19, [(1, 1)], w188)) kAlk 1 rfl ?_
                              replace hM := hM.st (t' := (74, (1, (0, 14)) :: (0, (1, 275)) :: List.filter (e_flt 0 1) tl20, [(1, 275)], v185)) (fun _ _ q => e_Pn.run eAlk 1 rfl q)
                              obtain ⟨dc192, r193, v194, hc195, hM⟩ := hM.ca rfl
                              have uhc195 := hc195.pn (fun nq => uE_all nq 346 (by decide) _ _ s190.1.2.2.2.2.1)
                              have z199 : stE N cd w188 v185 := st.zE s190 (by omega) (by omega)
                              refine e_Pn.callB rfl (fun k9 hk9 d9 => e_Pn.and (ihG k9 (by omega) 164 346 (by decide) _ _ _ _ _ _ z199 hc195) (kE_all k9 164 (by decide) d9 _ _ s190.1.2.2.2.1)) (fun r196 w197 h198 => ?_)
                              obtain ⟨⟨rfl, rfl, h198⟩, -, h198k⟩ := h198
                              rcases h198.symm with h198 | ⟨h198, h198p⟩
                              · skip
                                replace hM : e_Rn 20 elay ecode eI d' 344 (77, (1, (0, 14)) :: (0, (1, 275)) :: List.filter (e_flt 0 1) tl20, [], v194) r' v' := hM
                                obtain ⟨rfl, m200⟩ := (e_Rn.le eAlk [0, 1] rfl rfl hM).pn (fun nq => v_344_77 (uhc195.2.rf s190.1.2.2.2.2.1) _ 14 v194 mq.r)
                                show e_Pn 20 elay kcode eI nn18 d 163 (46, (2, (0, wl22 1 5 + 6)) :: (0, (1, 1)) :: (1, (0, y1)) :: List.filter (e_flt 0 2) tl19, [], w197) _
                                refine e_Pn.ord kAlk [0, 1, 2] rfl rfl ((v_163_46 (h198k.rf s190.1.2.2.2.1) _ y1 (wl22 1 5 + 6) w197 kq.r).imp (fun r202 w203 k201 => ?_))
                                obtain ⟨rfl, k201⟩ := k201
                                exact ⟨rfl, rfl, Or.inr (rpF.tail h198 k201 m200)⟩
                              have s204 := st.re (l' := w 1 13) (m' := v 275 82) (t' := w 1 12) (st.tr s190 h198) (Int.le_refl _) rfl (by omega) (by omega) (by omega)
                              have q205 := st.nums s204
                              show e_Pn 20 elay kcode eI nn18 d 163 (46, (2, (0, wl22 1 5 + 6)) :: (0, (1, 1)) :: (1, (0, y1)) :: List.filter (e_flt 0 2) tl19, [], w197) _
                              replace hM : e_Rn 20 elay ecode eI d' 344 (77, (1, (0, 14)) :: (0, (1, 275)) :: List.filter (e_flt 0 1) tl20, [], v194) r' v' := hM
                              refine e_Pn.run (t' := (47, (2, (0, wl22 1 5 + 6)) :: (0, (1, 1)) :: (1, (0, y1)) :: List.filter (e_flt 0 2) tl19, [(1, 1)], w197)) kAlk 1 rfl ?_
                              refine e_Pn.getr (z := cd) kAlk rfl rfl s204.1.2.2.2.1.2.1 (by omega) ?_
                              refine e_Pn.run (t' := (52, (2, (0, wl22 1 5 + 6)) :: (0, (1, 1)) :: (1, (0, y1)) :: List.filter (e_flt 0 2) tl19, [(0, 0), (0, wl22 1 5 + 6), (1, cd)], w197)) kAlk 2 rfl ?_
                              refine e_Pn.callA rfl (fun nq dq => l_21 s204.1.2.2.2.1 (op := wl22 1 5 + 6) (od := 0) (by omega) (by omega) s204.1.2.2.2.2.2.1) (fun r206 w207 h208 => ?_)
                              obtain ⟨z209, rfl, w207f, w207q⟩ := h208
                              have w207k := kRw.em s204.1.2.2.2.1 w207f
                              have w207l := (emQ.len w207q s204.1.2.2.2.2.2.1).1
                              have w207e : w207 1 5 = w197 1 5 ∧ w207 1 6 = w197 1 6 ∧ w207 1 8 = w197 1 8 := ⟨w207f 1 5 (by unfold kEm; omega), w207f 1 6 (by unfold kEm; omega), w207f 1 8 (by unfold kEm; omega)⟩
                              have s210 := st.em s204 w207f w207q (by omega) (by unfold isCl3; omega)
                              have q211 := st.nums s210
                              have z209r : 0 ≤ z209 ∧ z209 ≤ 4000 := emQ.z w207q s204.1.2.2.2.2.2.1
                              show e_Pn 20 elay kcode eI nn18 d 163 (55, (2, (0, wl22 1 5 + 6)) :: (0, (1, 1)) :: (1, (0, y1)) :: List.filter (e_flt 0 2) tl19, [(0, z209)], w207) _
                              refine e_Pn.run (t' := (56, (2, (0, wl22 1 5 + 6)) :: (0, (1, 1)) :: (1, (0, y1)) :: List.filter (e_flt 0 2) tl19, [], w207)) kAlk 1 rfl ?_
                              refine e_Pn.inc (z := y1 + 1) kAlk rfl rfl (by omega) (by omega) ?_
                              show e_Pn 20 elay kcode eI nn18 d 163 (59, (1, (0, y1 + 1)) :: (2, (0, wl22 1 5 + 6)) :: (0, (1, 1)) :: List.filter (e_flt 0 1) (List.filter (e_flt 0 2) tl19), [], w207) _
                              refine e_Pn.run (t' := (6, (1, (0, y1 + 1)) :: (2, (0, wl22 1 5 + 6)) :: (0, (1, 1)) :: List.filter (e_flt 0 1) (List.filter (e_flt 0 2) tl19), [], w207)) kAlk 1 rfl ?_
                              replace hM := hM.st (t' := (80, (1, (0, 14)) :: (0, (1, 275)) :: List.filter (e_flt 0 1) tl20, [(0, 0), (0, 14), (1, 275)], v194)) (fun _ _ q => e_Pn.run eAlk 3 rfl q)
                              obtain ⟨dc212, r213, v214, hc215, hM⟩ := hM.ca rfl
                              obtain ⟨⟨z216, rfl⟩, v214f⟩ := hc215.pn (fun nq => x_336 s204.1.2.2.2.2.1)
                              have v214m := mfr.rf v214f s204.1.2.2.2.2.1
                              replace hM : e_Rn 20 elay ecode eI d' 344 (83, (1, (0, 14)) :: (0, (1, 275)) :: List.filter (e_flt 0 1) tl20, [(0, z216)], v214) r' v' := hM
                              replace hM := hM.st (t' := (4, (1, (0, 14)) :: (0, (1, 275)) :: List.filter (e_flt 0 1) tl20, [], v214)) (fun _ _ q => e_Pn.run eAlk 2 rfl q)
                              have e218a : w207 1 11 = w207 1 11 := rfl
                              have e218b : v214 275 83 = v194 275 83 := (v214f 275 83 (by unfold mEm; omega))
                              have e218c : w207 1 13 = w207 1 13 := rfl
                              have e218d : v214 275 82 = v194 275 82 := (v214f 275 82 (by unfold mEm; omega))
                              have e218f : w207 1 12 = w207 1 12 := rfl
                              have e218e : v214 275 80 = v194 275 80 := (v214f 275 80 (by unfold mEm; omega))
                              have s217 := st.gen (o' := 0) (l' := w 1 13) (m' := v 275 82) (t' := w 1 12) (b' := 0) s210 (e_fr.refl w207) (e_fr.trans (e_fr.refl v194) (e_fr.mono v214f (fun c k q => by unfold mEm at q; unfold mGs; omega))) (by omega) (by omega) (by omega) (by omega)
                              have q219 := st.nums s217
                              exact e_Pn.ord kAlk [0, 1] rfl rfl (ih17 (by omega) _ _ (y1 + 1) w207 v214 ⟨(st.re s217 (by omega) (by omega) (by omega) (by omega) (by omega)), (by omega), (by omega)⟩ (e_Rn.le eAlk [0] rfl rfl hM))
                            · replace h182 : (37 : Int) = 47 := by have q : ¬ ((37 : Int) ≠ 47) := h182; omega
                              exfalso; omega
                          · replace h180 : (37 : Int) = 42 := by have q : ¬ ((37 : Int) ≠ 42) := h180; omega
                            exfalso; omega
  exact e_Pn.ord kAlk [0, 1] rfl rfl (hL16 n (Nat.le_refl _) _ _ 0 w7 v4 ⟨(st.re s14 (by omega) (by omega) (by omega) (by omega) (by omega)), (by omega), (by omega)⟩ (e_Rn.le eAlk [0] rfl rfl hM))
set_option maxHeartbeats 4000000 in
theorem e_164 {n : Nat} {N cd : Int} {w v : eW} (hz : stE N cd w v) (ihG : ∀ k, k < n → eEg k) {d d' : Nat} {r' : List eV} {v' : eW} (hM : e_Rn 20 elay ecode eI d' 346 (0, [(0, (1, 275))], [], v) r' v') : e_Pn 20 elay kcode eI n d 164 (0, [(0, (1, 1))], [], w) (fun r w' => r = [] ∧ r' = [] ∧ ((st N cd w v w' v' 0 0 0 (-1) (w 1 13) (v 275 82) (w 1 12) 2 ∧ w 1 6 < w' 1 6) ∨ rpF w' v')) := by
  have h0 := hz.st (ka := 2)
  have hm := hz.1.2.2.2.1.1.m
  have hn := hz.1.2.2.2.1.1.n
  have hzo := hz.2.2.2
  have q1 := st.nums h0
  refine e_Pn.run (t' := (1, [(0, (1, 1))], [(1, 1)], w)) kAlk 1 rfl ?_
  refine e_Pn.getf (z := w 1 5) kAlk rfl rfl rfl (fun b2 => ?_)
  refine e_Pn.run (t' := (6, [(0, (1, 1))], [(0, 9), (0, w 1 5)], w)) kAlk 1 rfl ?_
  refine e_Pn.if2 kAlk rfl (fun h3 => ?_) (fun h3 => ?_)
  · replace h3 : (w 1 5 : Int) ≠ 9 := h3
    refine e_Pn.run (t' := (50, [(0, (1, 1))], [(1, 1)], w)) kAlk 1 rfl ?_
    refine e_Pn.getf (z := w 1 5) kAlk rfl rfl rfl (fun b4 => ?_)
    refine e_Pn.run (t' := (54, [(0, (1, 1))], [(0, 2), (0, w 1 5)], w)) kAlk 1 rfl ?_
    refine e_Pn.if2 kAlk rfl (fun h5 => ?_) (fun h5 => ?_)
    · replace h5 : (w 1 5 : Int) ≠ 2 := h5
      refine e_Pn.run (t' := (69, [(0, (1, 1))], [(1, 1)], w)) kAlk 1 rfl ?_
      refine e_Pn.getf (z := w 1 5) kAlk rfl rfl rfl (fun b6 => ?_)
      refine e_Pn.run (t' := (73, [(0, (1, 1))], [(0, 1), (0, w 1 5)], w)) kAlk 1 rfl ?_
      refine e_Pn.if2 kAlk rfl (fun h7 => ?_) (fun h7 => ?_)
      · replace h7 : (w 1 5 : Int) ≠ 1 := h7
        refine e_Pn.run (t' := (97, [(0, (1, 1))], [(1, 1)], w)) kAlk 1 rfl ?_
        refine e_Pn.getf (z := w 1 5) kAlk rfl rfl rfl (fun b8 => ?_)
        refine e_Pn.run (t' := (102, [(0, (1, 1))], [(0, 48), (0, w 1 5)], w)) kAlk 1 rfl ?_
        refine e_Pn.if2 kAlk rfl (fun h9 => ?_) (fun h9 => ?_)
        · replace h9 : (w 1 5 : Int) = 48 := h9
          refine e_Pn.run (t' := (115, [(0, (1, 1))], [(1, 1)], w)) kAlk 1 rfl ?_
          refine e_Pn.getf (z := w 1 5) kAlk rfl rfl rfl (fun b10 => ?_)
          refine e_Pn.run (t' := (120, [(0, (1, 1))], [(0, 48), (0, w 1 5)], w)) kAlk 1 rfl ?_
          refine e_Pn.if2 kAlk rfl (fun h11 => ?_) (fun h11 => ?_)
          · replace h11 : (w 1 5 : Int) ≠ 48 := h11
            exfalso; omega
          · replace h11 : (w 1 5 : Int) = 48 := by have q : ¬ ((w 1 5 : Int) ≠ 48) := h11; omega
            refine e_Pn.run (t' := (130, [(1, (0, 3)), (0, (1, 1))], [(1, 1)], w)) kAlk 4 rfl ?_
            replace hM := hM.st (t' := (1, [(0, (1, 275))], [(1, 275)], v)) (fun _ _ q => e_Pn.run eAlk 1 rfl q)
            obtain ⟨b12, hM⟩ := hM.of (fun _ _ q => e_Pn.getf (z := 0) eAlk rfl rfl h0.1.2.1.1.2 q)
            rcases hM.or (fun _ _ q1 q2 => e_Pn.if1 eAlk rfl q1 q2) with ⟨h13, hM⟩ | ⟨h13, hM⟩
            · replace h13 : (0 : Int) = 0 := h13
              replace hM := hM.st (t' := (11, [(0, (1, 275))], [(0, 45), (1, 275)], v)) (fun _ _ q => e_Pn.run eAlk 2 rfl q)
              obtain ⟨dc14, r15, v16, hc17, hM⟩ := hM.ca rfl
              obtain ⟨z18, rfl, rfl, z18q⟩ := hc17.pn (fun nq => l_331)
              replace z18q := isS (kM_s45 h0.1.2.1.2.2.1) rfl rfl z18q
              obtain rfl : z18 = 0 := by omega
              clear z18q
              replace hM : e_Rn 20 elay ecode eI d' 346 (14, [(0, (1, 275))], [(0, 0)], v) r' v' := hM
              rcases hM.or (fun _ _ q1 q2 => e_Pn.if1 eAlk rfl q1 q2) with ⟨h19, hM⟩ | ⟨h19, hM⟩
              · replace h19 : (0 : Int) = 0 := h19
                replace hM := hM.st (t' := (51, [(0, (1, 275))], [(1, 275)], v)) (fun _ _ q => e_Pn.run eAlk 1 rfl q)
                obtain ⟨b20, hM⟩ := hM.of (fun _ _ q => e_Pn.getf (z := 4) eAlk rfl rfl (kM_w5 h0.1.2.1.2.2.1 (by omega)).1 q)
                replace hM := hM.st (t' := (55, [(0, (1, 275))], [(0, 2), (0, 4)], v)) (fun _ _ q => e_Pn.run eAlk 1 rfl q)
                rcases hM.or (fun _ _ q1 q2 => e_Pn.if2 eAlk rfl q1 q2) with ⟨h21, hM⟩ | ⟨h21, hM⟩
                · replace h21 : (4 : Int) ≠ 2 := h21
                  replace hM := hM.st (t' := (76, [(0, (1, 275))], [(1, 275)], v)) (fun _ _ q => e_Pn.run eAlk 1 rfl q)
                  obtain ⟨b22, hM⟩ := hM.of (fun _ _ q => e_Pn.getf (z := 4) eAlk rfl rfl (kM_w5 h0.1.2.1.2.2.1 (by omega)).1 q)
                  replace hM := hM.st (t' := (80, [(0, (1, 275))], [(0, 1), (0, 4)], v)) (fun _ _ q => e_Pn.run eAlk 1 rfl q)
                  rcases hM.or (fun _ _ q1 q2 => e_Pn.if2 eAlk rfl q1 q2) with ⟨h23, hM⟩ | ⟨h23, hM⟩
                  · replace h23 : (4 : Int) ≠ 1 := h23
                    replace hM := hM.st (t' := (100, [(0, (1, 275))], [(0, 27), (1, 275)], v)) (fun _ _ q => e_Pn.run eAlk 2 rfl q)
                    obtain ⟨dc24, r25, v26, hc27, hM⟩ := hM.ca rfl
                    obtain ⟨z28, rfl, rfl, z28q⟩ := hc27.pn (fun nq => l_332)
                    replace z28q := isS (kM_key (k := 27) h0.1.2.1.2.2.1 (by decide)) rfl rfl z28q
                    obtain rfl : z28 = 1 := by omega
                    clear z28q
                    replace hM : e_Rn 20 elay ecode eI d' 346 (103, [(0, (1, 275))], [(0, 1)], v) r' v' := hM
                    rcases hM.or (fun _ _ q1 q2 => e_Pn.if1 eAlk rfl q1 q2) with ⟨h29, hM⟩ | ⟨h29, hM⟩
                    · replace h29 : (1 : Int) ≠ 0 := h29
                      replace hM := hM.st (t' := (116, [(0, (1, 275))], [(1, 275)], v)) (fun _ _ q => e_Pn.run eAlk 1 rfl q)
                      obtain ⟨b30, hM⟩ := hM.of (fun _ _ q => e_Pn.getf (z := 27) eAlk rfl rfl (Eq.trans (kM_w5 h0.1.2.1.2.2.1 (by omega)).2 (by omega)) q)
                      replace hM := hM.st (t' := (121, [(0, (1, 275))], [(0, 27), (0, 27)], v)) (fun _ _ q => e_Pn.run eAlk 1 rfl q)
                      rcases hM.or (fun _ _ q1 q2 => e_Pn.if2 eAlk rfl q1 q2) with ⟨h31, hM⟩ | ⟨h31, hM⟩
                      · replace h31 : (27 : Int) ≠ 27 := h31
                        exfalso; omega
                      · replace h31 : (27 : Int) = 27 := by have q : ¬ ((27 : Int) ≠ 27) := h31; omega
                        replace hM := hM.st (t' := (131, [(1, (0, 3)), (0, (1, 275))], [(1, 275)], v)) (fun _ _ q => e_Pn.run eAlk 4 rfl q)
                        obtain ⟨dc32, r33, v34, hc35, hM⟩ := hM.ca rfl
                        refine e_Pn.callA rfl (fun nq dq => t_123b h0.1.1 h0.1.2.1.1 h0.1.2.1.2.1.2.1 (st.nx h0) (d' := dc32) hc35) (fun r36 w37 h38 => ?_)
                        obtain ⟨rfl, rfl, h38⟩ := h38
                        have s39 := st.ad (k := 2) h0 h38 (st.len2 h0 (by omega)) (by omega)
                        have s39n := h38.2.2.2.1
                        have s39m := st.len2 h0 (by omega)
                        have q40 := st.nums s39
                        show e_Pn 20 elay kcode eI n d 164 (133, [(1, (0, 3)), (0, (1, 1))], [], w37) _
                        replace hM : e_Rn 20 elay ecode eI d' 346 (134, [(1, (0, 3)), (0, (1, 275))], [], v34) r' v' := hM
                        refine e_Pn.run (t' := (134, [(1, (0, 3)), (0, (1, 1))], [(1, 1)], w37)) kAlk 1 rfl ?_
                        replace hM := hM.st (t' := (135, [(1, (0, 3)), (0, (1, 275))], [(1, 275)], v34)) (fun _ _ q => e_Pn.run eAlk 1 rfl q)
                        obtain ⟨dc41, r42, v43, hc44, hM⟩ := hM.ca rfl
                        have uhc44 := hc44.pn (fun nq => uE_all nq 345 (by decide) _ _ s39.1.2.2.2.2.1)
                        have z48 : stE N cd w37 v34 := st.zE s39 (by omega) (by omega)
                        refine e_Pn.callB rfl (fun k9 hk9 d9 => e_Pn.and (ihG k9 (by omega) 165 345 (by decide) _ _ _ _ _ _ z48 hc44) (kE_all k9 165 (by decide) d9 _ _ s39.1.2.2.2.1)) (fun r45 w46 h47 => ?_)
                        obtain ⟨⟨rfl, rfl, h47⟩, -, h47k⟩ := h47
                        rcases h47.symm with h47 | ⟨h47, h47p⟩
                        · skip
                          replace hM : e_Rn 20 elay ecode eI d' 346 (138, [(1, (0, 3)), (0, (1, 275))], [], v43) r' v' := hM
                          obtain ⟨rfl, m49⟩ := (e_Rn.le eAlk [0, 1] rfl rfl hM).pn (fun nq => v_346_138 (uhc44.2.rf s39.1.2.2.2.2.1) _ 3 v43 mq.r)
                          show e_Pn 20 elay kcode eI n d 164 (137, [(1, (0, 3)), (0, (1, 1))], [], w46) _
                          refine e_Pn.ord kAlk [0, 1] rfl rfl ((v_164_137 (h47k.rf s39.1.2.2.2.1) _ 3 w46 kq.r).imp (fun r51 w52 k50 => ?_))
                          obtain ⟨rfl, k50⟩ := k50
                          exact ⟨rfl, rfl, Or.inr (rpF.tail h47 k50 m49)⟩
                        have s53 := st.re (l' := w 1 13) (m' := v 275 82) (t' := w 1 12) (st.tr s39 h47) (Int.le_refl _) rfl (by omega) (by omega) (by omega)
                        have q54 := st.nums s53
                        show e_Pn 20 elay kcode eI n d 164 (137, [(1, (0, 3)), (0, (1, 1))], [], w46) _
                        replace hM : e_Rn 20 elay ecode eI d' 346 (138, [(1, (0, 3)), (0, (1, 275))], [], v43) r' v' := hM
                        refine e_Pn.run (t' := (138, [(1, (0, 3)), (0, (1, 1))], [(1, 1)], w46)) kAlk 1 rfl ?_
                        refine e_Pn.getr (z := cd) kAlk rfl rfl s53.1.2.2.2.1.2.1 (by omega) ?_
                        refine e_Pn.run (t' := (143, [(1, (0, 3)), (0, (1, 1))], [(0, 0), (0, 3), (1, cd)], w46)) kAlk 2 rfl ?_
                        refine e_Pn.callA rfl (fun nq dq => l_21 s53.1.2.2.2.1 (op := 3) (od := 0) (by omega) (by omega) s53.1.2.2.2.2.2.1) (fun r55 w56 h57 => ?_)
                        obtain ⟨z58, rfl, w56f, w56q⟩ := h57
                        have w56k := kRw.em s53.1.2.2.2.1 w56f
                        have w56l := (emQ.len w56q s53.1.2.2.2.2.2.1).1
                        have w56e : w56 1 5 = w46 1 5 ∧ w56 1 6 = w46 1 6 ∧ w56 1 8 = w46 1 8 := ⟨w56f 1 5 (by unfold kEm; omega), w56f 1 6 (by unfold kEm; omega), w56f 1 8 (by unfold kEm; omega)⟩
                        have s59 := st.em s53 w56f w56q (by omega) (by unfold isCl3; omega)
                        have q60 := st.nums s59
                        have z58r : 0 ≤ z58 ∧ z58 ≤ 4000 := emQ.z w56q s53.1.2.2.2.2.2.1
                        show e_Pn 20 elay kcode eI n d 164 (146, [(1, (0, 3)), (0, (1, 1))], [(0, z58)], w56) _
                        refine e_Pn.run (t' := (193, [(1, (0, 3)), (0, (1, 1))], [], w56)) kAlk 2 rfl ?_
                        replace hM := hM.st (t' := (141, [(1, (0, 3)), (0, (1, 275))], [(0, 0), (0, 3), (1, 275)], v43)) (fun _ _ q => e_Pn.run eAlk 3 rfl q)
                        obtain ⟨dc61, r62, v63, hc64, hM⟩ := hM.ca rfl
                        obtain ⟨⟨z65, rfl⟩, v63f⟩ := hc64.pn (fun nq => x_336 s53.1.2.2.2.2.1)
                        have v63m := mfr.rf v63f s53.1.2.2.2.2.1
                        replace hM : e_Rn 20 elay ecode eI d' 346 (144, [(1, (0, 3)), (0, (1, 275))], [(0, z65)], v63) r' v' := hM
                        replace hM := hM.st (t' := (242, [(1, (0, 3)), (0, (1, 275))], [], v63)) (fun _ _ q => e_Pn.run eAlk 2 rfl q)
                        have e67a : w56 1 11 = w56 1 11 := rfl
                        have e67b : v63 275 83 = v43 275 83 := (v63f 275 83 (by unfold mEm; omega))
                        have e67c : w56 1 13 = w56 1 13 := rfl
                        have e67d : v63 275 82 = v43 275 82 := (v63f 275 82 (by unfold mEm; omega))
                        have e67f : w56 1 12 = w56 1 12 := rfl
                        have e67e : v63 275 80 = v43 275 80 := (v63f 275 80 (by unfold mEm; omega))
                        have s66 := st.gen (o' := 0) (l' := w 1 13) (m' := v 275 82) (t' := w 1 12) (b' := 0) s59 (e_fr.refl w56) (e_fr.trans (e_fr.refl v43) (e_fr.mono v63f (fun c k q => by unfold mEm at q; unfold mGs; omega))) (by omega) (by omega) (by omega) (by omega)
                        have q68 := st.nums s66
                        obtain ⟨rfl, rfl⟩ := hM.re0 rfl
                        refine e_Pn.ret0 rfl ?_
                        exact ⟨rfl, rfl, Or.inl ⟨st.re s66 (by omega) (by omega) (by omega) (by omega) (by omega), by omega⟩⟩
                    · replace h29 : (1 : Int) = 0 := by have q : ¬ ((1 : Int) ≠ 0) := h29; omega
                      exfalso; omega
                  · replace h23 : (4 : Int) = 1 := by have q : ¬ ((4 : Int) ≠ 1) := h23; omega
                    exfalso; omega
                · replace h21 : (4 : Int) = 2 := by have q : ¬ ((4 : Int) ≠ 2) := h21; omega
                  exfalso; omega
              · replace h19 : (0 : Int) ≠ 0 := by have q : ¬ ((0 : Int) = 0) := h19; omega
                exfalso; omega
            · replace h13 : (0 : Int) ≠ 0 := by have q : ¬ ((0 : Int) = 0) := h13; omega
              exfalso; omega
        · replace h9 : (w 1 5 : Int) ≠ 48 := by have q : ¬ ((w 1 5 : Int) = 48) := h9; omega
          refine e_Pn.run (t' := (106, [(0, (1, 1))], [(1, 1)], w)) kAlk 1 rfl ?_
          refine e_Pn.getf (z := w 1 5) kAlk rfl rfl rfl (fun b69 => ?_)
          refine e_Pn.run (t' := (111, [(0, (1, 1))], [(0, 49), (0, w 1 5)], w)) kAlk 1 rfl ?_
          refine e_Pn.if2 kAlk rfl (fun h70 => ?_) (fun h70 => ?_)
          · replace h70 : (w 1 5 : Int) ≠ 49 := h70
            refine e_Pn.run (t' := (151, [(0, (1, 1))], [(1, 1)], w)) kAlk 1 rfl ?_
            refine e_Pn.getf (z := w 1 5) kAlk rfl rfl rfl (fun b71 => ?_)
            refine e_Pn.run (t' := (158, [(0, (1, 1))], [(0, 53), (0, 50), (0, w 1 5)], w)) kAlk 2 rfl ?_
            refine e_Pn.callI rfl (fun nq72 dq73 => ?_)
            show e_Pn 20 elay kcode eI nq72 dq73 242 (0, [(0, (0, w 1 5)), (1, (0, 50)), (2, (0, 53))], [], w) _
            refine e_Pn.run (t' := (2, [(0, (0, w 1 5)), (1, (0, 50)), (2, (0, 53))], [(0, w 1 5), (0, 50)], w)) kAlk 2 rfl ?_
            refine e_Pn.if2 kAlk rfl (fun h74 => ?_) (fun h74 => ?_)
            · replace h74 : (50 : Int) > w 1 5 := h74
              refine e_Pn.run (t' := (15, [(0, (0, w 1 5)), (1, (0, 50)), (2, (0, 53))], [(0, 0)], w)) kAlk 1 rfl ?_
              refine e_Pn.ret4 rfl ?_
              show e_Pn 20 elay kcode eI n d 164 (161, [(0, (1, 1))], [(0, 0)], w) _
              refine e_Pn.if1 kAlk rfl (fun h75 => ?_) (fun h75 => ?_)
              · replace h75 : (0 : Int) = 0 := h75
                refine e_Pn.run (t' := (190, [(0, (1, 1))], [(1, 1)], w)) kAlk 1 rfl ?_
                replace hM := hM.st (t' := (1, [(0, (1, 275))], [(1, 275)], v)) (fun _ _ q => e_Pn.run eAlk 1 rfl q)
                obtain ⟨b76, hM⟩ := hM.of (fun _ _ q => e_Pn.getf (z := 0) eAlk rfl rfl h0.1.2.1.1.2 q)
                rcases hM.or (fun _ _ q1 q2 => e_Pn.if1 eAlk rfl q1 q2) with ⟨h77, hM⟩ | ⟨h77, hM⟩
                · replace h77 : (0 : Int) = 0 := h77
                  replace hM := hM.st (t' := (11, [(0, (1, 275))], [(0, 45), (1, 275)], v)) (fun _ _ q => e_Pn.run eAlk 2 rfl q)
                  obtain ⟨dc78, r79, v80, hc81, hM⟩ := hM.ca rfl
                  obtain ⟨z82, rfl, rfl, z82q⟩ := hc81.pn (fun nq => l_331)
                  replace z82q := isS (kM_s45 h0.1.2.1.2.2.1) rfl rfl z82q
                  obtain rfl : z82 = 0 := by omega
                  clear z82q
                  replace hM : e_Rn 20 elay ecode eI d' 346 (14, [(0, (1, 275))], [(0, 0)], v) r' v' := hM
                  rcases hM.or (fun _ _ q1 q2 => e_Pn.if1 eAlk rfl q1 q2) with ⟨h83, hM⟩ | ⟨h83, hM⟩
                  · replace h83 : (0 : Int) = 0 := h83
                    replace hM := hM.st (t' := (51, [(0, (1, 275))], [(1, 275)], v)) (fun _ _ q => e_Pn.run eAlk 1 rfl q)
                    obtain ⟨b84, hM⟩ := hM.of (fun _ _ q => e_Pn.getf (z := v 275 84) eAlk rfl rfl rfl q)
                    replace hM := hM.st (t' := (55, [(0, (1, 275))], [(0, 2), (0, v 275 84)], v)) (fun _ _ q => e_Pn.run eAlk 1 rfl q)
                    rcases hM.or (fun _ _ q1 q2 => e_Pn.if2 eAlk rfl q1 q2) with ⟨h85, hM⟩ | ⟨h85, hM⟩
                    · replace h85 : (v 275 84 : Int) ≠ 2 := h85
                      replace hM := hM.st (t' := (76, [(0, (1, 275))], [(1, 275)], v)) (fun _ _ q => e_Pn.run eAlk 1 rfl q)
                      obtain ⟨b86, hM⟩ := hM.of (fun _ _ q => e_Pn.getf (z := v 275 84) eAlk rfl rfl rfl q)
                      replace hM := hM.st (t' := (80, [(0, (1, 275))], [(0, 1), (0, v 275 84)], v)) (fun _ _ q => e_Pn.run eAlk 1 rfl q)
                      rcases hM.or (fun _ _ q1 q2 => e_Pn.if2 eAlk rfl q1 q2) with ⟨h87, hM⟩ | ⟨h87, hM⟩
                      · replace h87 : (v 275 84 : Int) ≠ 1 := h87
                        replace hM := hM.st (t' := (100, [(0, (1, 275))], [(0, 27), (1, 275)], v)) (fun _ _ q => e_Pn.run eAlk 2 rfl q)
                        obtain ⟨dc88, r89, v90, hc91, hM⟩ := hM.ca rfl
                        obtain ⟨z92, rfl, rfl, z92q⟩ := hc91.pn (fun nq => l_332)
                        replace z92q := isS (kM_key (k := 27) h0.1.2.1.2.2.1 (by decide)) rfl rfl z92q
                        obtain rfl : z92 = 0 := by omega
                        clear z92q
                        replace hM : e_Rn 20 elay ecode eI d' 346 (103, [(0, (1, 275))], [(0, 0)], v) r' v' := hM
                        rcases hM.or (fun _ _ q1 q2 => e_Pn.if1 eAlk rfl q1 q2) with ⟨h93, hM⟩ | ⟨h93, hM⟩
                        · replace h93 : (0 : Int) ≠ 0 := h93
                          exfalso; omega
                        · replace h93 : (0 : Int) = 0 := by have q : ¬ ((0 : Int) ≠ 0) := h93; omega
                          replace hM := hM.st (t' := (109, [(0, (1, 275))], [(0, 28), (1, 275)], v)) (fun _ _ q => e_Pn.run eAlk 2 rfl q)
                          obtain ⟨dc94, r95, v96, hc97, hM⟩ := hM.ca rfl
                          obtain ⟨z98, rfl, rfl, z98q⟩ := hc97.pn (fun nq => l_332)
                          replace z98q := isS (kM_key (k := 28) h0.1.2.1.2.2.1 (by decide)) rfl rfl z98q
                          obtain rfl : z98 = 0 := by omega
                          clear z98q
                          replace hM : e_Rn 20 elay ecode eI d' 346 (112, [(0, (1, 275))], [(0, 0)], v) r' v' := hM
                          rcases hM.or (fun _ _ q1 q2 => e_Pn.if1 eAlk rfl q1 q2) with ⟨h99, hM⟩ | ⟨h99, hM⟩
                          · replace h99 : (0 : Int) = 0 := h99
                            replace hM := hM.st (t' := (151, [(0, (1, 275))], [(0, 40), (1, 275)], v)) (fun _ _ q => e_Pn.run eAlk 2 rfl q)
                            obtain ⟨dc100, r101, v102, hc103, hM⟩ := hM.ca rfl
                            obtain ⟨z104, rfl, rfl, z104q⟩ := hc103.pn (fun nq => l_331)
                            replace z104q := isS (kM_s40 h0.1.2.1.2.2.1) rfl rfl z104q
                            rcases z104q with ⟨rfl, z104q⟩ | ⟨rfl, z104q⟩
                            · replace hM : e_Rn 20 elay ecode eI d' 346 (154, [(0, (1, 275))], [(0, 1)], v) r' v' := hM
                              rcases hM.or (fun _ _ q1 q2 => e_Pn.if1 eAlk rfl q1 q2) with ⟨h105, hM⟩ | ⟨h105, hM⟩
                              · replace h105 : (1 : Int) = 0 := h105
                                exfalso; omega
                              · replace h105 : (1 : Int) ≠ 0 := by have q : ¬ ((1 : Int) = 0) := h105; omega
                                replace hM := hM.st (t' := (158, [(0, (1, 275))], [(1, 275)], v)) (fun _ _ q => e_Pn.run eAlk 1 rfl q)
                                obtain ⟨dc106, r107, v108, hc109, hM⟩ := hM.ca rfl
                                have uhc109 := hc109.pn (fun nq => uE_all nq 345 (by decide) _ _ h0.1.2.2.2.2.1)
                                have z113 : stE N cd w v := st.zE h0 (by omega) (by omega)
                                refine e_Pn.callB rfl (fun k9 hk9 d9 => e_Pn.and (ihG k9 (by omega) 165 345 (by decide) _ _ _ _ _ _ z113 hc109) (kE_all k9 165 (by decide) d9 _ _ h0.1.2.2.2.1)) (fun r110 w111 h112 => ?_)
                                obtain ⟨⟨rfl, rfl, h112⟩, -, h112k⟩ := h112
                                rcases h112.symm with h112 | ⟨h112, h112p⟩
                                · skip
                                  replace hM : e_Rn 20 elay ecode eI d' 346 (161, [(0, (1, 275))], [], v108) r' v' := hM
                                  obtain ⟨rfl, m114⟩ := (e_Rn.le eAlk [0] rfl rfl hM).pn (fun nq => v_346_161 (uhc109.2.rf h0.1.2.2.2.2.1) _  v108 mq.r)
                                  show e_Pn 20 elay kcode eI n d 164 (193, [(0, (1, 1))], [], w111) _
                                  refine e_Pn.ord kAlk [0] rfl rfl ((v_164_193 (h112k.rf h0.1.2.2.2.1) _  w111 kq.r).imp (fun r116 w117 k115 => ?_))
                                  obtain ⟨rfl, k115⟩ := k115
                                  exact ⟨rfl, rfl, Or.inr (rpF.tail h112 k115 m114)⟩
                                have s118 := st.re (l' := w 1 13) (m' := v 275 82) (t' := w 1 12) (st.tr h0 h112) (Int.le_refl _) rfl (by omega) (by omega) (by omega)
                                have q119 := st.nums s118
                                show e_Pn 20 elay kcode eI n d 164 (193, [(0, (1, 1))], [], w111) _
                                replace hM : e_Rn 20 elay ecode eI d' 346 (161, [(0, (1, 275))], [], v108) r' v' := hM
                                replace hM := hM.st (t' := (242, [(0, (1, 275))], [], v108)) (fun _ _ q => e_Pn.run eAlk 1 rfl q)
                                obtain ⟨rfl, rfl⟩ := hM.re0 rfl
                                refine e_Pn.ret0 rfl ?_
                                exact ⟨rfl, rfl, Or.inl ⟨st.re s118 (by omega) (by omega) (by omega) (by omega) (by omega), by omega⟩⟩
                            · replace hM : e_Rn 20 elay ecode eI d' 346 (154, [(0, (1, 275))], [(0, 0)], v) r' v' := hM
                              rcases hM.or (fun _ _ q1 q2 => e_Pn.if1 eAlk rfl q1 q2) with ⟨h120, hM⟩ | ⟨h120, hM⟩
                              · replace h120 : (0 : Int) = 0 := h120
                                replace hM := hM.st (t' := (165, [(0, (1, 275))], [(1, 275)], v)) (fun _ _ q => e_Pn.run eAlk 1 rfl q)
                                obtain ⟨b121, hM⟩ := hM.of (fun _ _ q => e_Pn.getf (z := v 275 84) eAlk rfl rfl rfl q)
                                replace hM := hM.st (t' := (169, [(0, (1, 275))], [(0, 4), (0, v 275 84)], v)) (fun _ _ q => e_Pn.run eAlk 1 rfl q)
                                rcases hM.or (fun _ _ q1 q2 => e_Pn.if2 eAlk rfl q1 q2) with ⟨h122, hM⟩ | ⟨h122, hM⟩
                                · replace h122 : (v 275 84 : Int) ≠ 4 := h122
                                  replace hM := hM.st (t' := (239, [(0, (1, 275))], [(0, 2), (1, 275)], v)) (fun _ _ q => e_Pn.run eAlk 2 rfl q)
                                  refine e_Pn.callI rfl (fun nq123 dq124 => ?_)
                                  show e_Pn 20 elay kcode eI nq123 dq124 165 (0, [(0, (1, 1))], [], w) _
                                  refine e_Pn.run (t' := (1, [(0, (1, 1))], [(1, 1)], w)) kAlk 1 rfl ?_
                                  refine e_Pn.getf (z := w 1 5) kAlk rfl rfl rfl (fun b125 => ?_)
                                  refine e_Pn.run (t' := (6, [(0, (1, 1))], [(0, 16), (0, w 1 5)], w)) kAlk 1 rfl ?_
                                  refine e_Pn.if2 kAlk rfl (fun h126 => ?_) (fun h126 => ?_)
                                  · replace h126 : (w 1 5 : Int) = 16 := h126
                                    exfalso; omega
                                  · replace h126 : (w 1 5 : Int) ≠ 16 := by have q : ¬ ((w 1 5 : Int) = 16) := h126; omega
                                    refine e_Pn.run (t' := (10, [(0, (1, 1))], [(1, 1)], w)) kAlk 1 rfl ?_
                                    obtain ⟨dc127, r128, v129, hc130, hM⟩ := hM.ca rfl
                                    have uhc130 := hc130.pn (fun nq => u_333 h0.1.2.2.2.2.1)
                                    refine e_Pn.callA rfl (fun nq dq => e_Pn.and (t_130 h0.1.2.1 (x := 2) (by decide) (d' := dc127) hc130) (u_130 h0.1.2.2.2.1)) (fun r131 w132 h133 => ?_)
                                    obtain ⟨⟨rfl, rfl, h133⟩, -, h133k⟩ := h133
                                    replace hM : e_Rn 20 elay ecode eI d' 346 (242, [(0, (1, 275))], [], v129) r' v' := hM
                                    obtain ⟨rfl, m134⟩ := (e_Rn.le eAlk [0] rfl rfl hM).pn (fun nq => v_346_242 (uhc130.2.rf h0.1.2.2.2.2.1) _  v129 mq.r)
                                    show e_Pn 20 elay kcode eI nq123 dq124 165 (13, [(0, (1, 1))], [], w132) _
                                    refine e_Pn.ord kAlk [0] rfl rfl ((v_165_13 (h133k.rf h0.1.2.2.2.1) _  w132 kq.r).imp (fun r136 w137 k135 => ?_))
                                    obtain ⟨rfl, k135⟩ := k135
                                    show e_Pn 20 elay kcode eI n d 164 (193, [(0, (1, 1))], [], w137) _
                                    refine e_Pn.ord kAlk [0] rfl rfl ((v_164_193 (k135.rf (h133k.rf h0.1.2.2.2.1)) _  w137 kq.r).imp (fun r139 w140 k138 => ?_))
                                    obtain ⟨rfl, k138⟩ := k138
                                    exact ⟨rfl, rfl, Or.inr (rpF.tail h133 (k135.tr k138) m134)⟩
                                · replace h122 : (v 275 84 : Int) = 4 := by have q : ¬ ((v 275 84 : Int) ≠ 4) := h122; omega
                                  replace hM := hM.st (t' := (173, [(0, (1, 275))], [(1, 275)], v)) (fun _ _ q => e_Pn.run eAlk 1 rfl q)
                                  obtain ⟨b141, hM⟩ := hM.of (fun _ _ q => e_Pn.getf (z := v 275 85) eAlk rfl rfl rfl q)
                                  replace hM := hM.st (t' := (178, [(0, (1, 275))], [(0, 29), (0, v 275 85)], v)) (fun _ _ q => e_Pn.run eAlk 1 rfl q)
                                  rcases hM.or (fun _ _ q1 q2 => e_Pn.if2 eAlk rfl q1 q2) with ⟨h142, hM⟩ | ⟨h142, hM⟩
                                  · replace h142 : (v 275 85 : Int) < 29 := h142
                                    replace hM := hM.st (t' := (239, [(0, (1, 275))], [(0, 2), (1, 275)], v)) (fun _ _ q => e_Pn.run eAlk 2 rfl q)
                                    refine e_Pn.callI rfl (fun nq143 dq144 => ?_)
                                    show e_Pn 20 elay kcode eI nq143 dq144 165 (0, [(0, (1, 1))], [], w) _
                                    refine e_Pn.run (t' := (1, [(0, (1, 1))], [(1, 1)], w)) kAlk 1 rfl ?_
                                    refine e_Pn.getf (z := w 1 5) kAlk rfl rfl rfl (fun b145 => ?_)
                                    refine e_Pn.run (t' := (6, [(0, (1, 1))], [(0, 16), (0, w 1 5)], w)) kAlk 1 rfl ?_
                                    refine e_Pn.if2 kAlk rfl (fun h146 => ?_) (fun h146 => ?_)
                                    · replace h146 : (w 1 5 : Int) = 16 := h146
                                      exact (kM_no h0.1.2.1.2.2.1 (fun a b => decide ((a : Int) ≠ 9) && decide ((a : Int) ≠ 2) && decide ((a : Int) ≠ 1) && decide ((a : Int) ≠ 48) && decide ((a : Int) ≠ 49) && decide ((50 : Int) > a) && decide ((b : Int) ≠ 2) && decide ((b : Int) ≠ 1) && decide ((a : Int) ≠ 16) && decide ((b : Int) = 4) && decide ((a : Int) = 16)) (fun a b c => decide ((c : Int) < 29)) (by decide) (by decide) (by simp only [Bool.and_eq_true, decide_eq_true_eq]; exact ⟨⟨⟨⟨⟨⟨⟨⟨⟨⟨h3, h5⟩, h7⟩, h9⟩, h70⟩, h74⟩, h85⟩, h87⟩, z104q⟩, h122⟩, h146⟩) (decide_eq_true h142)).elim
                                    · replace h146 : (w 1 5 : Int) ≠ 16 := by have q : ¬ ((w 1 5 : Int) = 16) := h146; omega
                                      refine e_Pn.run (t' := (10, [(0, (1, 1))], [(1, 1)], w)) kAlk 1 rfl ?_
                                      obtain ⟨dc147, r148, v149, hc150, hM⟩ := hM.ca rfl
                                      have uhc150 := hc150.pn (fun nq => u_333 h0.1.2.2.2.2.1)
                                      refine e_Pn.callA rfl (fun nq dq => e_Pn.and (t_130 h0.1.2.1 (x := 2) (by decide) (d' := dc147) hc150) (u_130 h0.1.2.2.2.1)) (fun r151 w152 h153 => ?_)
                                      obtain ⟨⟨rfl, rfl, h153⟩, -, h153k⟩ := h153
                                      replace hM : e_Rn 20 elay ecode eI d' 346 (242, [(0, (1, 275))], [], v149) r' v' := hM
                                      obtain ⟨rfl, m154⟩ := (e_Rn.le eAlk [0] rfl rfl hM).pn (fun nq => v_346_242 (uhc150.2.rf h0.1.2.2.2.2.1) _  v149 mq.r)
                                      show e_Pn 20 elay kcode eI nq143 dq144 165 (13, [(0, (1, 1))], [], w152) _
                                      refine e_Pn.ord kAlk [0] rfl rfl ((v_165_13 (h153k.rf h0.1.2.2.2.1) _  w152 kq.r).imp (fun r156 w157 k155 => ?_))
                                      obtain ⟨rfl, k155⟩ := k155
                                      show e_Pn 20 elay kcode eI n d 164 (193, [(0, (1, 1))], [], w157) _
                                      refine e_Pn.ord kAlk [0] rfl rfl ((v_164_193 (k155.rf (h153k.rf h0.1.2.2.2.1)) _  w157 kq.r).imp (fun r159 w160 k158 => ?_))
                                      obtain ⟨rfl, k158⟩ := k158
                                      exact ⟨rfl, rfl, Or.inr (rpF.tail h153 (k155.tr k158) m154)⟩
                                  · replace h142 : (v 275 85 : Int) ≥ 29 := by have q : ¬ ((v 275 85 : Int) < 29) := h142; omega
                                    exact (kM_no h0.1.2.1.2.2.1 (fun a b => decide ((a : Int) ≠ 9) && decide ((a : Int) ≠ 2) && decide ((a : Int) ≠ 1) && decide ((a : Int) ≠ 48) && decide ((a : Int) ≠ 49) && decide ((50 : Int) > a) && decide ((b : Int) ≠ 2) && decide ((b : Int) ≠ 1) && decide ((a : Int) ≠ 16) && decide ((b : Int) = 4)) (fun a b c => decide ((c : Int) ≥ 29)) (by decide) (by decide) (by simp only [Bool.and_eq_true, decide_eq_true_eq]; exact ⟨⟨⟨⟨⟨⟨⟨⟨⟨h3, h5⟩, h7⟩, h9⟩, h70⟩, h74⟩, h85⟩, h87⟩, z104q⟩, h122⟩) (decide_eq_true h142)).elim
                              · replace h120 : (0 : Int) ≠ 0 := by have q : ¬ ((0 : Int) = 0) := h120; omega
                                exfalso; omega
                          · replace h99 : (0 : Int) ≠ 0 := by have q : ¬ ((0 : Int) = 0) := h99; omega
                            exfalso; omega
                      · replace h87 : (v 275 84 : Int) = 1 := by have q : ¬ ((v 275 84 : Int) ≠ 1) := h87; omega
                        exact (kM_no h0.1.2.1.2.2.1 (fun a b => decide ((a : Int) ≠ 9) && decide ((a : Int) ≠ 2) && decide ((a : Int) ≠ 1) && decide ((a : Int) ≠ 48) && decide ((a : Int) ≠ 49) && decide ((50 : Int) > a) && decide ((b : Int) ≠ 2) && decide ((b : Int) = 1)) (fun a b c => true) (by decide) (by decide) (by simp only [Bool.and_eq_true, decide_eq_true_eq]; exact ⟨⟨⟨⟨⟨⟨⟨h3, h5⟩, h7⟩, h9⟩, h70⟩, h74⟩, h85⟩, h87⟩) rfl).elim
                    · replace h85 : (v 275 84 : Int) = 2 := by have q : ¬ ((v 275 84 : Int) ≠ 2) := h85; omega
                      exact (kM_no h0.1.2.1.2.2.1 (fun a b => decide ((a : Int) ≠ 9) && decide ((a : Int) ≠ 2) && decide ((a : Int) ≠ 1) && decide ((a : Int) ≠ 48) && decide ((a : Int) ≠ 49) && decide ((50 : Int) > a) && decide ((b : Int) = 2)) (fun a b c => true) (by decide) (by decide) (by simp only [Bool.and_eq_true, decide_eq_true_eq]; exact ⟨⟨⟨⟨⟨⟨h3, h5⟩, h7⟩, h9⟩, h70⟩, h74⟩, h85⟩) rfl).elim
                  · replace h83 : (0 : Int) ≠ 0 := by have q : ¬ ((0 : Int) = 0) := h83; omega
                    exfalso; omega
                · replace h77 : (0 : Int) ≠ 0 := by have q : ¬ ((0 : Int) = 0) := h77; omega
                  exfalso; omega
              · replace h75 : (0 : Int) ≠ 0 := by have q : ¬ ((0 : Int) = 0) := h75; omega
                exfalso; omega
            · replace h74 : (50 : Int) ≤ w 1 5 := by have q : ¬ ((50 : Int) > w 1 5) := h74; omega
              refine e_Pn.run (t' := (7, [(0, (0, w 1 5)), (1, (0, 50)), (2, (0, 53))], [(0, 53), (0, w 1 5)], w)) kAlk 2 rfl ?_
              refine e_Pn.if2 kAlk rfl (fun h161 => ?_) (fun h161 => ?_)
              · replace h161 : (w 1 5 : Int) > 53 := h161
                exact (kM_no h0.1.2.1.2.2.1 (fun a b => decide ((a : Int) ≠ 9) && decide ((a : Int) ≠ 2) && decide ((a : Int) ≠ 1) && decide ((a : Int) ≠ 48) && decide ((a : Int) ≠ 49) && decide ((50 : Int) ≤ a) && decide ((a : Int) > 53)) (fun a b c => true) (by decide) (by decide) (by simp only [Bool.and_eq_true, decide_eq_true_eq]; exact ⟨⟨⟨⟨⟨⟨h3, h5⟩, h7⟩, h9⟩, h70⟩, h74⟩, h161⟩) rfl).elim
              · replace h161 : (w 1 5 : Int) ≤ 53 := by have q : ¬ ((w 1 5 : Int) > 53) := h161; omega
                refine e_Pn.run (t' := (15, [(0, (0, w 1 5)), (1, (0, 50)), (2, (0, 53))], [(0, 1)], w)) kAlk 2 rfl ?_
                refine e_Pn.ret4 rfl ?_
                show e_Pn 20 elay kcode eI n d 164 (161, [(0, (1, 1))], [(0, 1)], w) _
                refine e_Pn.if1 kAlk rfl (fun h162 => ?_) (fun h162 => ?_)
                · replace h162 : (1 : Int) = 0 := h162
                  exfalso; omega
                · replace h162 : (1 : Int) ≠ 0 := by have q : ¬ ((1 : Int) = 0) := h162; omega
                  refine e_Pn.run (t' := (165, [(0, (1, 1))], [(1, 1)], w)) kAlk 1 rfl ?_
                  refine e_Pn.getr (z := cd) kAlk rfl rfl h0.1.2.2.2.1.2.1 (by omega) ?_
                  refine e_Pn.run (t' := (170, [(0, (1, 1))], [(1, 1), (0, 5), (1, cd)], w)) kAlk 2 rfl ?_
                  refine e_Pn.getf (z := w 1 5) kAlk rfl rfl rfl (fun b163 => ?_)
                  refine e_Pn.add (z := w 1 5 + 5) kAlk rfl (by omega) (by omega) ?_
                  refine e_Pn.run (t' := (176, [(0, (1, 1))], [(0, 50), (0, w 1 5 + 5), (1, cd)], w)) kAlk 1 rfl ?_
                  refine e_Pn.sub' (z := w 1 5 - 45) kAlk rfl (by omega) (by omega) ?_
                  refine e_Pn.run (t' := (178, [(0, (1, 1))], [(0, 0), (0, w 1 5 - 45), (1, cd)], w)) kAlk 1 rfl ?_
                  refine e_Pn.callA rfl (fun nq dq => l_21 h0.1.2.2.2.1 (op := w 1 5 - 45) (od := 0) (by omega) (by omega) h0.1.2.2.2.2.2.1) (fun r164 w165 h166 => ?_)
                  obtain ⟨z167, rfl, w165f, w165q⟩ := h166
                  have w165k := kRw.em h0.1.2.2.2.1 w165f
                  have w165l := (emQ.len w165q h0.1.2.2.2.2.2.1).1
                  have w165e : w165 1 5 = w 1 5 ∧ w165 1 6 = w 1 6 ∧ w165 1 8 = w 1 8 := ⟨w165f 1 5 (by unfold kEm; omega), w165f 1 6 (by unfold kEm; omega), w165f 1 8 (by unfold kEm; omega)⟩
                  have s168 := st.em h0 w165f w165q (by omega) (by unfold isCl3; omega)
                  have q169 := st.nums s168
                  have z167r : 0 ≤ z167 ∧ z167 ≤ 4000 := emQ.z w165q h0.1.2.2.2.2.2.1
                  show e_Pn 20 elay kcode eI n d 164 (181, [(0, (1, 1))], [(0, z167)], w165) _
                  refine e_Pn.run (t' := (183, [(0, (1, 1))], [(1, 1)], w165)) kAlk 2 rfl ?_
                  replace hM := hM.st (t' := (1, [(0, (1, 275))], [(1, 275)], v)) (fun _ _ q => e_Pn.run eAlk 1 rfl q)
                  obtain ⟨b170, hM⟩ := hM.of (fun _ _ q => e_Pn.getf (z := 0) eAlk rfl rfl h0.1.2.1.1.2 q)
                  rcases hM.or (fun _ _ q1 q2 => e_Pn.if1 eAlk rfl q1 q2) with ⟨h171, hM⟩ | ⟨h171, hM⟩
                  · replace h171 : (0 : Int) = 0 := h171
                    replace hM := hM.st (t' := (11, [(0, (1, 275))], [(0, 45), (1, 275)], v)) (fun _ _ q => e_Pn.run eAlk 2 rfl q)
                    obtain ⟨dc172, r173, v174, hc175, hM⟩ := hM.ca rfl
                    obtain ⟨z176, rfl, rfl, z176q⟩ := hc175.pn (fun nq => l_331)
                    replace z176q := isS (kM_s45 h0.1.2.1.2.2.1) rfl rfl z176q
                    obtain rfl : z176 = 0 := by omega
                    clear z176q
                    replace hM : e_Rn 20 elay ecode eI d' 346 (14, [(0, (1, 275))], [(0, 0)], v) r' v' := hM
                    rcases hM.or (fun _ _ q1 q2 => e_Pn.if1 eAlk rfl q1 q2) with ⟨h177, hM⟩ | ⟨h177, hM⟩
                    · replace h177 : (0 : Int) = 0 := h177
                      replace hM := hM.st (t' := (51, [(0, (1, 275))], [(1, 275)], v)) (fun _ _ q => e_Pn.run eAlk 1 rfl q)
                      obtain ⟨b178, hM⟩ := hM.of (fun _ _ q => e_Pn.getf (z := v 275 84) eAlk rfl rfl rfl q)
                      replace hM := hM.st (t' := (55, [(0, (1, 275))], [(0, 2), (0, v 275 84)], v)) (fun _ _ q => e_Pn.run eAlk 1 rfl q)
                      rcases hM.or (fun _ _ q1 q2 => e_Pn.if2 eAlk rfl q1 q2) with ⟨h179, hM⟩ | ⟨h179, hM⟩
                      · replace h179 : (v 275 84 : Int) ≠ 2 := h179
                        replace hM := hM.st (t' := (76, [(0, (1, 275))], [(1, 275)], v)) (fun _ _ q => e_Pn.run eAlk 1 rfl q)
                        obtain ⟨b180, hM⟩ := hM.of (fun _ _ q => e_Pn.getf (z := v 275 84) eAlk rfl rfl rfl q)
                        replace hM := hM.st (t' := (80, [(0, (1, 275))], [(0, 1), (0, v 275 84)], v)) (fun _ _ q => e_Pn.run eAlk 1 rfl q)
                        rcases hM.or (fun _ _ q1 q2 => e_Pn.if2 eAlk rfl q1 q2) with ⟨h181, hM⟩ | ⟨h181, hM⟩
                        · replace h181 : (v 275 84 : Int) ≠ 1 := h181
                          replace hM := hM.st (t' := (100, [(0, (1, 275))], [(0, 27), (1, 275)], v)) (fun _ _ q => e_Pn.run eAlk 2 rfl q)
                          obtain ⟨dc182, r183, v184, hc185, hM⟩ := hM.ca rfl
                          obtain ⟨z186, rfl, rfl, z186q⟩ := hc185.pn (fun nq => l_332)
                          replace z186q := isS (kM_key (k := 27) h0.1.2.1.2.2.1 (by decide)) rfl rfl z186q
                          obtain rfl : z186 = 0 := by omega
                          clear z186q
                          replace hM : e_Rn 20 elay ecode eI d' 346 (103, [(0, (1, 275))], [(0, 0)], v) r' v' := hM
                          rcases hM.or (fun _ _ q1 q2 => e_Pn.if1 eAlk rfl q1 q2) with ⟨h187, hM⟩ | ⟨h187, hM⟩
                          · replace h187 : (0 : Int) ≠ 0 := h187
                            exfalso; omega
                          · replace h187 : (0 : Int) = 0 := by have q : ¬ ((0 : Int) ≠ 0) := h187; omega
                            replace hM := hM.st (t' := (109, [(0, (1, 275))], [(0, 28), (1, 275)], v)) (fun _ _ q => e_Pn.run eAlk 2 rfl q)
                            obtain ⟨dc188, r189, v190, hc191, hM⟩ := hM.ca rfl
                            obtain ⟨z192, rfl, rfl, z192q⟩ := hc191.pn (fun nq => l_332)
                            replace z192q := isS (kM_key (k := 28) h0.1.2.1.2.2.1 (by decide)) rfl rfl z192q
                            obtain rfl : z192 = 0 := by omega
                            clear z192q
                            replace hM : e_Rn 20 elay ecode eI d' 346 (112, [(0, (1, 275))], [(0, 0)], v) r' v' := hM
                            rcases hM.or (fun _ _ q1 q2 => e_Pn.if1 eAlk rfl q1 q2) with ⟨h193, hM⟩ | ⟨h193, hM⟩
                            · replace h193 : (0 : Int) = 0 := h193
                              replace hM := hM.st (t' := (151, [(0, (1, 275))], [(0, 40), (1, 275)], v)) (fun _ _ q => e_Pn.run eAlk 2 rfl q)
                              obtain ⟨dc194, r195, v196, hc197, hM⟩ := hM.ca rfl
                              obtain ⟨z198, rfl, rfl, z198q⟩ := hc197.pn (fun nq => l_331)
                              replace z198q := isS (kM_s40 h0.1.2.1.2.2.1) rfl rfl z198q
                              obtain rfl : z198 = 0 := by omega
                              clear z198q
                              replace hM : e_Rn 20 elay ecode eI d' 346 (154, [(0, (1, 275))], [(0, 0)], v) r' v' := hM
                              rcases hM.or (fun _ _ q1 q2 => e_Pn.if1 eAlk rfl q1 q2) with ⟨h199, hM⟩ | ⟨h199, hM⟩
                              · replace h199 : (0 : Int) = 0 := h199
                                replace hM := hM.st (t' := (165, [(0, (1, 275))], [(1, 275)], v)) (fun _ _ q => e_Pn.run eAlk 1 rfl q)
                                obtain ⟨b200, hM⟩ := hM.of (fun _ _ q => e_Pn.getf (z := v 275 84) eAlk rfl rfl rfl q)
                                replace hM := hM.st (t' := (169, [(0, (1, 275))], [(0, 4), (0, v 275 84)], v)) (fun _ _ q => e_Pn.run eAlk 1 rfl q)
                                rcases hM.or (fun _ _ q1 q2 => e_Pn.if2 eAlk rfl q1 q2) with ⟨h201, hM⟩ | ⟨h201, hM⟩
                                · replace h201 : (v 275 84 : Int) ≠ 4 := h201
                                  exact (kM_no h0.1.2.1.2.2.1 (fun a b => decide ((a : Int) ≠ 9) && decide ((a : Int) ≠ 2) && decide ((a : Int) ≠ 1) && decide ((a : Int) ≠ 48) && decide ((a : Int) ≠ 49) && decide ((50 : Int) ≤ a) && decide ((a : Int) ≤ 53) && decide ((b : Int) ≠ 2) && decide ((b : Int) ≠ 1) && decide ((b : Int) ≠ 4)) (fun a b c => true) (by decide) (by decide) (by simp only [Bool.and_eq_true, decide_eq_true_eq]; exact ⟨⟨⟨⟨⟨⟨⟨⟨⟨h3, h5⟩, h7⟩, h9⟩, h70⟩, h74⟩, h161⟩, h179⟩, h181⟩, h201⟩) rfl).elim
                                · replace h201 : (v 275 84 : Int) = 4 := by have q : ¬ ((v 275 84 : Int) ≠ 4) := h201; omega
                                  replace hM := hM.st (t' := (173, [(0, (1, 275))], [(1, 275)], v)) (fun _ _ q => e_Pn.run eAlk 1 rfl q)
                                  obtain ⟨b202, hM⟩ := hM.of (fun _ _ q => e_Pn.getf (z := v 275 85) eAlk rfl rfl rfl q)
                                  replace hM := hM.st (t' := (178, [(0, (1, 275))], [(0, 29), (0, v 275 85)], v)) (fun _ _ q => e_Pn.run eAlk 1 rfl q)
                                  rcases hM.or (fun _ _ q1 q2 => e_Pn.if2 eAlk rfl q1 q2) with ⟨h203, hM⟩ | ⟨h203, hM⟩
                                  · replace h203 : (v 275 85 : Int) < 29 := h203
                                    exact (kM_no h0.1.2.1.2.2.1 (fun a b => decide ((a : Int) ≠ 9) && decide ((a : Int) ≠ 2) && decide ((a : Int) ≠ 1) && decide ((a : Int) ≠ 48) && decide ((a : Int) ≠ 49) && decide ((50 : Int) ≤ a) && decide ((a : Int) ≤ 53) && decide ((b : Int) ≠ 2) && decide ((b : Int) ≠ 1) && decide ((b : Int) = 4)) (fun a b c => decide ((c : Int) < 29)) (by decide) (by decide) (by simp only [Bool.and_eq_true, decide_eq_true_eq]; exact ⟨⟨⟨⟨⟨⟨⟨⟨⟨h3, h5⟩, h7⟩, h9⟩, h70⟩, h74⟩, h161⟩, h179⟩, h181⟩, h201⟩) (decide_eq_true h203)).elim
                                  · replace h203 : (v 275 85 : Int) ≥ 29 := by have q : ¬ ((v 275 85 : Int) < 29) := h203; omega
                                    replace hM := hM.st (t' := (183, [(0, (1, 275))], [(1, 275), (1, 275)], v)) (fun _ _ q => e_Pn.run eAlk 2 rfl q)
                                    obtain ⟨b204, hM⟩ := hM.of (fun _ _ q => e_Pn.getf (z := v 275 85) eAlk rfl rfl rfl q)
                                    replace hM := hM.st (t' := (188, [(0, (1, 275))], [(0, 29), (0, v 275 85), (1, 275)], v)) (fun _ _ q => e_Pn.run eAlk 1 rfl q)
                                    rcases hM.or (fun _ _ q1 q2 => e_Pn.if2 eAlk rfl q1 q2) with ⟨h205, hM⟩ | ⟨h205, hM⟩
                                    · replace h205 : (v 275 85 : Int) ≠ 29 := h205
                                      replace hM := hM.st (t' := (196, [(0, (1, 275))], [(1, 275), (1, 275)], v)) (fun _ _ q => e_Pn.run eAlk 1 rfl q)
                                      obtain ⟨b206, hM⟩ := hM.of (fun _ _ q => e_Pn.getf (z := v 275 85) eAlk rfl rfl rfl q)
                                      replace hM := hM.st (t' := (201, [(0, (1, 275))], [(0, 30), (0, v 275 85), (1, 275)], v)) (fun _ _ q => e_Pn.run eAlk 1 rfl q)
                                      rcases hM.or (fun _ _ q1 q2 => e_Pn.if2 eAlk rfl q1 q2) with ⟨h207, hM⟩ | ⟨h207, hM⟩
                                      · replace h207 : (v 275 85 : Int) ≠ 30 := h207
                                        replace hM := hM.st (t' := (210, [(0, (1, 275))], [(1, 275), (1, 275)], v)) (fun _ _ q => e_Pn.run eAlk 1 rfl q)
                                        obtain ⟨b208, hM⟩ := hM.of (fun _ _ q => e_Pn.getf (z := v 275 85) eAlk rfl rfl rfl q)
                                        replace hM := hM.st (t' := (215, [(0, (1, 275))], [(0, 31), (0, v 275 85), (1, 275)], v)) (fun _ _ q => e_Pn.run eAlk 1 rfl q)
                                        rcases hM.or (fun _ _ q1 q2 => e_Pn.if2 eAlk rfl q1 q2) with ⟨h209, hM⟩ | ⟨h209, hM⟩
                                        · replace h209 : (v 275 85 : Int) ≠ 31 := h209
                                          replace hM := hM.st (t' := (226, [(0, (1, 275))], [(0, 0), (0, 8), (1, 275)], v)) (fun _ _ q => e_Pn.run eAlk 2 rfl q)
                                          obtain ⟨dc210, r211, v212, hc213, hM⟩ := hM.ca rfl
                                          obtain ⟨⟨z214, rfl⟩, v212f⟩ := hc213.pn (fun nq => x_336 h0.1.2.2.2.2.1)
                                          have v212m := mfr.rf v212f h0.1.2.2.2.2.1
                                          replace hM : e_Rn 20 elay ecode eI d' 346 (229, [(0, (1, 275))], [(0, z214)], v212) r' v' := hM
                                          replace hM := hM.st (t' := (231, [(0, (1, 275))], [(1, 275)], v212)) (fun _ _ q => e_Pn.run eAlk 2 rfl q)
                                          have e216a : w165 1 11 = w165 1 11 := rfl
                                          have e216b : v212 275 83 = v 275 83 := (v212f 275 83 (by unfold mEm; omega))
                                          have e216c : w165 1 13 = w165 1 13 := rfl
                                          have e216d : v212 275 82 = v 275 82 := (v212f 275 82 (by unfold mEm; omega))
                                          have e216f : w165 1 12 = w165 1 12 := rfl
                                          have e216e : v212 275 80 = v 275 80 := (v212f 275 80 (by unfold mEm; omega))
                                          have s215 := st.gen (o' := 0) (l' := w 1 13) (m' := v 275 82) (t' := w 1 12) (b' := 0) s168 (e_fr.refl w165) (e_fr.trans (e_fr.refl v) (e_fr.mono v212f (fun c k q => by unfold mEm at q; unfold mGs; omega))) (by omega) (by omega) (by omega) (by omega)
                                          have q217 := st.nums s215
                                          obtain ⟨dc218, r219, v220, hc221, hM⟩ := hM.ca rfl
                                          refine e_Pn.callA rfl (fun nq dq => t_123b s215.1.1 s215.1.2.1.1 s215.1.2.1.2.1.2.1 (st.nx s215) (d' := dc218) hc221) (fun r222 w223 h224 => ?_)
                                          obtain ⟨rfl, rfl, h224⟩ := h224
                                          have s225 := st.ad (k := 2) s215 h224 (st.len2 s215 (by omega)) (by omega)
                                          have s225n := h224.2.2.2.1
                                          have s225m := st.len2 s215 (by omega)
                                          have q226 := st.nums s225
                                          show e_Pn 20 elay kcode eI n d 164 (186, [(0, (1, 1))], [], w223) _
                                          replace hM : e_Rn 20 elay ecode eI d' 346 (234, [(0, (1, 275))], [], v220) r' v' := hM
                                          refine e_Pn.run (t' := (193, [(0, (1, 1))], [], w223)) kAlk 1 rfl ?_
                                          replace hM := hM.st (t' := (242, [(0, (1, 275))], [], v220)) (fun _ _ q => e_Pn.run eAlk 1 rfl q)
                                          obtain ⟨rfl, rfl⟩ := hM.re0 rfl
                                          refine e_Pn.ret0 rfl ?_
                                          exact ⟨rfl, rfl, Or.inl ⟨st.re s225 (by omega) (by omega) (by omega) (by omega) (by omega), by omega⟩⟩
                                        · replace h209 : (v 275 85 : Int) = 31 := by have q : ¬ ((v 275 85 : Int) ≠ 31) := h209; omega
                                          replace hM := hM.st (t' := (226, [(0, (1, 275))], [(0, 0), (0, 7), (1, 275)], v)) (fun _ _ q => e_Pn.run eAlk 3 rfl q)
                                          obtain ⟨dc227, r228, v229, hc230, hM⟩ := hM.ca rfl
                                          obtain ⟨⟨z231, rfl⟩, v229f⟩ := hc230.pn (fun nq => x_336 h0.1.2.2.2.2.1)
                                          have v229m := mfr.rf v229f h0.1.2.2.2.2.1
                                          replace hM : e_Rn 20 elay ecode eI d' 346 (229, [(0, (1, 275))], [(0, z231)], v229) r' v' := hM
                                          replace hM := hM.st (t' := (231, [(0, (1, 275))], [(1, 275)], v229)) (fun _ _ q => e_Pn.run eAlk 2 rfl q)
                                          have e233a : w165 1 11 = w165 1 11 := rfl
                                          have e233b : v229 275 83 = v 275 83 := (v229f 275 83 (by unfold mEm; omega))
                                          have e233c : w165 1 13 = w165 1 13 := rfl
                                          have e233d : v229 275 82 = v 275 82 := (v229f 275 82 (by unfold mEm; omega))
                                          have e233f : w165 1 12 = w165 1 12 := rfl
                                          have e233e : v229 275 80 = v 275 80 := (v229f 275 80 (by unfold mEm; omega))
                                          have s232 := st.gen (o' := 0) (l' := w 1 13) (m' := v 275 82) (t' := w 1 12) (b' := 0) s168 (e_fr.refl w165) (e_fr.trans (e_fr.refl v) (e_fr.mono v229f (fun c k q => by unfold mEm at q; unfold mGs; omega))) (by omega) (by omega) (by omega) (by omega)
                                          have q234 := st.nums s232
                                          obtain ⟨dc235, r236, v237, hc238, hM⟩ := hM.ca rfl
                                          refine e_Pn.callA rfl (fun nq dq => t_123b s232.1.1 s232.1.2.1.1 s232.1.2.1.2.1.2.1 (st.nx s232) (d' := dc235) hc238) (fun r239 w240 h241 => ?_)
                                          obtain ⟨rfl, rfl, h241⟩ := h241
                                          have s242 := st.ad (k := 2) s232 h241 (st.len2 s232 (by omega)) (by omega)
                                          have s242n := h241.2.2.2.1
                                          have s242m := st.len2 s232 (by omega)
                                          have q243 := st.nums s242
                                          show e_Pn 20 elay kcode eI n d 164 (186, [(0, (1, 1))], [], w240) _
                                          replace hM : e_Rn 20 elay ecode eI d' 346 (234, [(0, (1, 275))], [], v237) r' v' := hM
                                          refine e_Pn.run (t' := (193, [(0, (1, 1))], [], w240)) kAlk 1 rfl ?_
                                          replace hM := hM.st (t' := (242, [(0, (1, 275))], [], v237)) (fun _ _ q => e_Pn.run eAlk 1 rfl q)
                                          obtain ⟨rfl, rfl⟩ := hM.re0 rfl
                                          refine e_Pn.ret0 rfl ?_
                                          exact ⟨rfl, rfl, Or.inl ⟨st.re s242 (by omega) (by omega) (by omega) (by omega) (by omega), by omega⟩⟩
                                      · replace h207 : (v 275 85 : Int) = 30 := by have q : ¬ ((v 275 85 : Int) ≠ 30) := h207; omega
                                        replace hM := hM.st (t' := (226, [(0, (1, 275))], [(0, 0), (0, 6), (1, 275)], v)) (fun _ _ q => e_Pn.run eAlk 3 rfl q)
                                        obtain ⟨dc244, r245, v246, hc247, hM⟩ := hM.ca rfl
                                        obtain ⟨⟨z248, rfl⟩, v246f⟩ := hc247.pn (fun nq => x_336 h0.1.2.2.2.2.1)
                                        have v246m := mfr.rf v246f h0.1.2.2.2.2.1
                                        replace hM : e_Rn 20 elay ecode eI d' 346 (229, [(0, (1, 275))], [(0, z248)], v246) r' v' := hM
                                        replace hM := hM.st (t' := (231, [(0, (1, 275))], [(1, 275)], v246)) (fun _ _ q => e_Pn.run eAlk 2 rfl q)
                                        have e250a : w165 1 11 = w165 1 11 := rfl
                                        have e250b : v246 275 83 = v 275 83 := (v246f 275 83 (by unfold mEm; omega))
                                        have e250c : w165 1 13 = w165 1 13 := rfl
                                        have e250d : v246 275 82 = v 275 82 := (v246f 275 82 (by unfold mEm; omega))
                                        have e250f : w165 1 12 = w165 1 12 := rfl
                                        have e250e : v246 275 80 = v 275 80 := (v246f 275 80 (by unfold mEm; omega))
                                        have s249 := st.gen (o' := 0) (l' := w 1 13) (m' := v 275 82) (t' := w 1 12) (b' := 0) s168 (e_fr.refl w165) (e_fr.trans (e_fr.refl v) (e_fr.mono v246f (fun c k q => by unfold mEm at q; unfold mGs; omega))) (by omega) (by omega) (by omega) (by omega)
                                        have q251 := st.nums s249
                                        obtain ⟨dc252, r253, v254, hc255, hM⟩ := hM.ca rfl
                                        refine e_Pn.callA rfl (fun nq dq => t_123b s249.1.1 s249.1.2.1.1 s249.1.2.1.2.1.2.1 (st.nx s249) (d' := dc252) hc255) (fun r256 w257 h258 => ?_)
                                        obtain ⟨rfl, rfl, h258⟩ := h258
                                        have s259 := st.ad (k := 2) s249 h258 (st.len2 s249 (by omega)) (by omega)
                                        have s259n := h258.2.2.2.1
                                        have s259m := st.len2 s249 (by omega)
                                        have q260 := st.nums s259
                                        show e_Pn 20 elay kcode eI n d 164 (186, [(0, (1, 1))], [], w257) _
                                        replace hM : e_Rn 20 elay ecode eI d' 346 (234, [(0, (1, 275))], [], v254) r' v' := hM
                                        refine e_Pn.run (t' := (193, [(0, (1, 1))], [], w257)) kAlk 1 rfl ?_
                                        replace hM := hM.st (t' := (242, [(0, (1, 275))], [], v254)) (fun _ _ q => e_Pn.run eAlk 1 rfl q)
                                        obtain ⟨rfl, rfl⟩ := hM.re0 rfl
                                        refine e_Pn.ret0 rfl ?_
                                        exact ⟨rfl, rfl, Or.inl ⟨st.re s259 (by omega) (by omega) (by omega) (by omega) (by omega), by omega⟩⟩
                                    · replace h205 : (v 275 85 : Int) = 29 := by have q : ¬ ((v 275 85 : Int) ≠ 29) := h205; omega
                                      replace hM := hM.st (t' := (226, [(0, (1, 275))], [(0, 0), (0, 5), (1, 275)], v)) (fun _ _ q => e_Pn.run eAlk 3 rfl q)
                                      obtain ⟨dc261, r262, v263, hc264, hM⟩ := hM.ca rfl
                                      obtain ⟨⟨z265, rfl⟩, v263f⟩ := hc264.pn (fun nq => x_336 h0.1.2.2.2.2.1)
                                      have v263m := mfr.rf v263f h0.1.2.2.2.2.1
                                      replace hM : e_Rn 20 elay ecode eI d' 346 (229, [(0, (1, 275))], [(0, z265)], v263) r' v' := hM
                                      replace hM := hM.st (t' := (231, [(0, (1, 275))], [(1, 275)], v263)) (fun _ _ q => e_Pn.run eAlk 2 rfl q)
                                      have e267a : w165 1 11 = w165 1 11 := rfl
                                      have e267b : v263 275 83 = v 275 83 := (v263f 275 83 (by unfold mEm; omega))
                                      have e267c : w165 1 13 = w165 1 13 := rfl
                                      have e267d : v263 275 82 = v 275 82 := (v263f 275 82 (by unfold mEm; omega))
                                      have e267f : w165 1 12 = w165 1 12 := rfl
                                      have e267e : v263 275 80 = v 275 80 := (v263f 275 80 (by unfold mEm; omega))
                                      have s266 := st.gen (o' := 0) (l' := w 1 13) (m' := v 275 82) (t' := w 1 12) (b' := 0) s168 (e_fr.refl w165) (e_fr.trans (e_fr.refl v) (e_fr.mono v263f (fun c k q => by unfold mEm at q; unfold mGs; omega))) (by omega) (by omega) (by omega) (by omega)
                                      have q268 := st.nums s266
                                      obtain ⟨dc269, r270, v271, hc272, hM⟩ := hM.ca rfl
                                      refine e_Pn.callA rfl (fun nq dq => t_123b s266.1.1 s266.1.2.1.1 s266.1.2.1.2.1.2.1 (st.nx s266) (d' := dc269) hc272) (fun r273 w274 h275 => ?_)
                                      obtain ⟨rfl, rfl, h275⟩ := h275
                                      have s276 := st.ad (k := 2) s266 h275 (st.len2 s266 (by omega)) (by omega)
                                      have s276n := h275.2.2.2.1
                                      have s276m := st.len2 s266 (by omega)
                                      have q277 := st.nums s276
                                      show e_Pn 20 elay kcode eI n d 164 (186, [(0, (1, 1))], [], w274) _
                                      replace hM : e_Rn 20 elay ecode eI d' 346 (234, [(0, (1, 275))], [], v271) r' v' := hM
                                      refine e_Pn.run (t' := (193, [(0, (1, 1))], [], w274)) kAlk 1 rfl ?_
                                      replace hM := hM.st (t' := (242, [(0, (1, 275))], [], v271)) (fun _ _ q => e_Pn.run eAlk 1 rfl q)
                                      obtain ⟨rfl, rfl⟩ := hM.re0 rfl
                                      refine e_Pn.ret0 rfl ?_
                                      exact ⟨rfl, rfl, Or.inl ⟨st.re s276 (by omega) (by omega) (by omega) (by omega) (by omega), by omega⟩⟩
                              · replace h199 : (0 : Int) ≠ 0 := by have q : ¬ ((0 : Int) = 0) := h199; omega
                                exfalso; omega
                            · replace h193 : (0 : Int) ≠ 0 := by have q : ¬ ((0 : Int) = 0) := h193; omega
                              exfalso; omega
                        · replace h181 : (v 275 84 : Int) = 1 := by have q : ¬ ((v 275 84 : Int) ≠ 1) := h181; omega
                          exact (kM_no h0.1.2.1.2.2.1 (fun a b => decide ((a : Int) ≠ 9) && decide ((a : Int) ≠ 2) && decide ((a : Int) ≠ 1) && decide ((a : Int) ≠ 48) && decide ((a : Int) ≠ 49) && decide ((50 : Int) ≤ a) && decide ((a : Int) ≤ 53) && decide ((b : Int) ≠ 2) && decide ((b : Int) = 1)) (fun a b c => true) (by decide) (by decide) (by simp only [Bool.and_eq_true, decide_eq_true_eq]; exact ⟨⟨⟨⟨⟨⟨⟨⟨h3, h5⟩, h7⟩, h9⟩, h70⟩, h74⟩, h161⟩, h179⟩, h181⟩) rfl).elim
                      · replace h179 : (v 275 84 : Int) = 2 := by have q : ¬ ((v 275 84 : Int) ≠ 2) := h179; omega
                        exact (kM_no h0.1.2.1.2.2.1 (fun a b => decide ((a : Int) ≠ 9) && decide ((a : Int) ≠ 2) && decide ((a : Int) ≠ 1) && decide ((a : Int) ≠ 48) && decide ((a : Int) ≠ 49) && decide ((50 : Int) ≤ a) && decide ((a : Int) ≤ 53) && decide ((b : Int) = 2)) (fun a b c => true) (by decide) (by decide) (by simp only [Bool.and_eq_true, decide_eq_true_eq]; exact ⟨⟨⟨⟨⟨⟨⟨h3, h5⟩, h7⟩, h9⟩, h70⟩, h74⟩, h161⟩, h179⟩) rfl).elim
                    · replace h177 : (0 : Int) ≠ 0 := by have q : ¬ ((0 : Int) = 0) := h177; omega
                      exfalso; omega
                  · replace h171 : (0 : Int) ≠ 0 := by have q : ¬ ((0 : Int) = 0) := h171; omega
                    exfalso; omega
          · replace h70 : (w 1 5 : Int) = 49 := by have q : ¬ ((w 1 5 : Int) ≠ 49) := h70; omega
            refine e_Pn.run (t' := (115, [(0, (1, 1))], [(1, 1)], w)) kAlk 1 rfl ?_
            refine e_Pn.getf (z := w 1 5) kAlk rfl rfl rfl (fun b278 => ?_)
            refine e_Pn.run (t' := (120, [(0, (1, 1))], [(0, 48), (0, w 1 5)], w)) kAlk 1 rfl ?_
            refine e_Pn.if2 kAlk rfl (fun h279 => ?_) (fun h279 => ?_)
            · replace h279 : (w 1 5 : Int) ≠ 48 := h279
              refine e_Pn.run (t' := (130, [(1, (0, 4)), (0, (1, 1))], [(1, 1)], w)) kAlk 3 rfl ?_
              replace hM := hM.st (t' := (1, [(0, (1, 275))], [(1, 275)], v)) (fun _ _ q => e_Pn.run eAlk 1 rfl q)
              obtain ⟨b280, hM⟩ := hM.of (fun _ _ q => e_Pn.getf (z := 0) eAlk rfl rfl h0.1.2.1.1.2 q)
              rcases hM.or (fun _ _ q1 q2 => e_Pn.if1 eAlk rfl q1 q2) with ⟨h281, hM⟩ | ⟨h281, hM⟩
              · replace h281 : (0 : Int) = 0 := h281
                replace hM := hM.st (t' := (11, [(0, (1, 275))], [(0, 45), (1, 275)], v)) (fun _ _ q => e_Pn.run eAlk 2 rfl q)
                obtain ⟨dc282, r283, v284, hc285, hM⟩ := hM.ca rfl
                obtain ⟨z286, rfl, rfl, z286q⟩ := hc285.pn (fun nq => l_331)
                replace z286q := isS (kM_s45 h0.1.2.1.2.2.1) rfl rfl z286q
                obtain rfl : z286 = 0 := by omega
                clear z286q
                replace hM : e_Rn 20 elay ecode eI d' 346 (14, [(0, (1, 275))], [(0, 0)], v) r' v' := hM
                rcases hM.or (fun _ _ q1 q2 => e_Pn.if1 eAlk rfl q1 q2) with ⟨h287, hM⟩ | ⟨h287, hM⟩
                · replace h287 : (0 : Int) = 0 := h287
                  replace hM := hM.st (t' := (51, [(0, (1, 275))], [(1, 275)], v)) (fun _ _ q => e_Pn.run eAlk 1 rfl q)
                  obtain ⟨b288, hM⟩ := hM.of (fun _ _ q => e_Pn.getf (z := 4) eAlk rfl rfl (kM_w5 h0.1.2.1.2.2.1 (by omega)).1 q)
                  replace hM := hM.st (t' := (55, [(0, (1, 275))], [(0, 2), (0, 4)], v)) (fun _ _ q => e_Pn.run eAlk 1 rfl q)
                  rcases hM.or (fun _ _ q1 q2 => e_Pn.if2 eAlk rfl q1 q2) with ⟨h289, hM⟩ | ⟨h289, hM⟩
                  · replace h289 : (4 : Int) ≠ 2 := h289
                    replace hM := hM.st (t' := (76, [(0, (1, 275))], [(1, 275)], v)) (fun _ _ q => e_Pn.run eAlk 1 rfl q)
                    obtain ⟨b290, hM⟩ := hM.of (fun _ _ q => e_Pn.getf (z := 4) eAlk rfl rfl (kM_w5 h0.1.2.1.2.2.1 (by omega)).1 q)
                    replace hM := hM.st (t' := (80, [(0, (1, 275))], [(0, 1), (0, 4)], v)) (fun _ _ q => e_Pn.run eAlk 1 rfl q)
                    rcases hM.or (fun _ _ q1 q2 => e_Pn.if2 eAlk rfl q1 q2) with ⟨h291, hM⟩ | ⟨h291, hM⟩
                    · replace h291 : (4 : Int) ≠ 1 := h291
                      replace hM := hM.st (t' := (100, [(0, (1, 275))], [(0, 27), (1, 275)], v)) (fun _ _ q => e_Pn.run eAlk 2 rfl q)
                      obtain ⟨dc292, r293, v294, hc295, hM⟩ := hM.ca rfl
                      obtain ⟨z296, rfl, rfl, z296q⟩ := hc295.pn (fun nq => l_332)
                      replace z296q := isS (kM_key (k := 27) h0.1.2.1.2.2.1 (by decide)) rfl rfl z296q
                      obtain rfl : z296 = 0 := by omega
                      clear z296q
                      replace hM : e_Rn 20 elay ecode eI d' 346 (103, [(0, (1, 275))], [(0, 0)], v) r' v' := hM
                      rcases hM.or (fun _ _ q1 q2 => e_Pn.if1 eAlk rfl q1 q2) with ⟨h297, hM⟩ | ⟨h297, hM⟩
                      · replace h297 : (0 : Int) ≠ 0 := h297
                        exfalso; omega
                      · replace h297 : (0 : Int) = 0 := by have q : ¬ ((0 : Int) ≠ 0) := h297; omega
                        replace hM := hM.st (t' := (109, [(0, (1, 275))], [(0, 28), (1, 275)], v)) (fun _ _ q => e_Pn.run eAlk 2 rfl q)
                        obtain ⟨dc298, r299, v300, hc301, hM⟩ := hM.ca rfl
                        obtain ⟨z302, rfl, rfl, z302q⟩ := hc301.pn (fun nq => l_332)
                        replace z302q := isS (kM_key (k := 28) h0.1.2.1.2.2.1 (by decide)) rfl rfl z302q
                        obtain rfl : z302 = 1 := by omega
                        clear z302q
                        replace hM : e_Rn 20 elay ecode eI d' 346 (112, [(0, (1, 275))], [(0, 1)], v) r' v' := hM
                        rcases hM.or (fun _ _ q1 q2 => e_Pn.if1 eAlk rfl q1 q2) with ⟨h303, hM⟩ | ⟨h303, hM⟩
                        · replace h303 : (1 : Int) = 0 := h303
                          exfalso; omega
                        · replace h303 : (1 : Int) ≠ 0 := by have q : ¬ ((1 : Int) = 0) := h303; omega
                          replace hM := hM.st (t' := (116, [(0, (1, 275))], [(1, 275)], v)) (fun _ _ q => e_Pn.run eAlk 1 rfl q)
                          obtain ⟨b304, hM⟩ := hM.of (fun _ _ q => e_Pn.getf (z := 28) eAlk rfl rfl (Eq.trans (kM_w5 h0.1.2.1.2.2.1 (by omega)).2 (by omega)) q)
                          replace hM := hM.st (t' := (121, [(0, (1, 275))], [(0, 27), (0, 28)], v)) (fun _ _ q => e_Pn.run eAlk 1 rfl q)
                          rcases hM.or (fun _ _ q1 q2 => e_Pn.if2 eAlk rfl q1 q2) with ⟨h305, hM⟩ | ⟨h305, hM⟩
                          · replace h305 : (28 : Int) ≠ 27 := h305
                            replace hM := hM.st (t' := (131, [(1, (0, 4)), (0, (1, 275))], [(1, 275)], v)) (fun _ _ q => e_Pn.run eAlk 3 rfl q)
                            obtain ⟨dc306, r307, v308, hc309, hM⟩ := hM.ca rfl
                            refine e_Pn.callA rfl (fun nq dq => t_123b h0.1.1 h0.1.2.1.1 h0.1.2.1.2.1.2.1 (st.nx h0) (d' := dc306) hc309) (fun r310 w311 h312 => ?_)
                            obtain ⟨rfl, rfl, h312⟩ := h312
                            have s313 := st.ad (k := 2) h0 h312 (st.len2 h0 (by omega)) (by omega)
                            have s313n := h312.2.2.2.1
                            have s313m := st.len2 h0 (by omega)
                            have q314 := st.nums s313
                            show e_Pn 20 elay kcode eI n d 164 (133, [(1, (0, 4)), (0, (1, 1))], [], w311) _
                            replace hM : e_Rn 20 elay ecode eI d' 346 (134, [(1, (0, 4)), (0, (1, 275))], [], v308) r' v' := hM
                            refine e_Pn.run (t' := (134, [(1, (0, 4)), (0, (1, 1))], [(1, 1)], w311)) kAlk 1 rfl ?_
                            replace hM := hM.st (t' := (135, [(1, (0, 4)), (0, (1, 275))], [(1, 275)], v308)) (fun _ _ q => e_Pn.run eAlk 1 rfl q)
                            obtain ⟨dc315, r316, v317, hc318, hM⟩ := hM.ca rfl
                            have uhc318 := hc318.pn (fun nq => uE_all nq 345 (by decide) _ _ s313.1.2.2.2.2.1)
                            have z322 : stE N cd w311 v308 := st.zE s313 (by omega) (by omega)
                            refine e_Pn.callB rfl (fun k9 hk9 d9 => e_Pn.and (ihG k9 (by omega) 165 345 (by decide) _ _ _ _ _ _ z322 hc318) (kE_all k9 165 (by decide) d9 _ _ s313.1.2.2.2.1)) (fun r319 w320 h321 => ?_)
                            obtain ⟨⟨rfl, rfl, h321⟩, -, h321k⟩ := h321
                            rcases h321.symm with h321 | ⟨h321, h321p⟩
                            · skip
                              replace hM : e_Rn 20 elay ecode eI d' 346 (138, [(1, (0, 4)), (0, (1, 275))], [], v317) r' v' := hM
                              obtain ⟨rfl, m323⟩ := (e_Rn.le eAlk [0, 1] rfl rfl hM).pn (fun nq => v_346_138 (uhc318.2.rf s313.1.2.2.2.2.1) _ 4 v317 mq.r)
                              show e_Pn 20 elay kcode eI n d 164 (137, [(1, (0, 4)), (0, (1, 1))], [], w320) _
                              refine e_Pn.ord kAlk [0, 1] rfl rfl ((v_164_137 (h321k.rf s313.1.2.2.2.1) _ 4 w320 kq.r).imp (fun r325 w326 k324 => ?_))
                              obtain ⟨rfl, k324⟩ := k324
                              exact ⟨rfl, rfl, Or.inr (rpF.tail h321 k324 m323)⟩
                            have s327 := st.re (l' := w 1 13) (m' := v 275 82) (t' := w 1 12) (st.tr s313 h321) (Int.le_refl _) rfl (by omega) (by omega) (by omega)
                            have q328 := st.nums s327
                            show e_Pn 20 elay kcode eI n d 164 (137, [(1, (0, 4)), (0, (1, 1))], [], w320) _
                            replace hM : e_Rn 20 elay ecode eI d' 346 (138, [(1, (0, 4)), (0, (1, 275))], [], v317) r' v' := hM
                            refine e_Pn.run (t' := (138, [(1, (0, 4)), (0, (1, 1))], [(1, 1)], w320)) kAlk 1 rfl ?_
                            refine e_Pn.getr (z := cd) kAlk rfl rfl s327.1.2.2.2.1.2.1 (by omega) ?_
                            refine e_Pn.run (t' := (143, [(1, (0, 4)), (0, (1, 1))], [(0, 0), (0, 4), (1, cd)], w320)) kAlk 2 rfl ?_
                            refine e_Pn.callA rfl (fun nq dq => l_21 s327.1.2.2.2.1 (op := 4) (od := 0) (by omega) (by omega) s327.1.2.2.2.2.2.1) (fun r329 w330 h331 => ?_)
                            obtain ⟨z332, rfl, w330f, w330q⟩ := h331
                            have w330k := kRw.em s327.1.2.2.2.1 w330f
                            have w330l := (emQ.len w330q s327.1.2.2.2.2.2.1).1
                            have w330e : w330 1 5 = w320 1 5 ∧ w330 1 6 = w320 1 6 ∧ w330 1 8 = w320 1 8 := ⟨w330f 1 5 (by unfold kEm; omega), w330f 1 6 (by unfold kEm; omega), w330f 1 8 (by unfold kEm; omega)⟩
                            have s333 := st.em s327 w330f w330q (by omega) (by unfold isCl3; omega)
                            have q334 := st.nums s333
                            have z332r : 0 ≤ z332 ∧ z332 ≤ 4000 := emQ.z w330q s327.1.2.2.2.2.2.1
                            show e_Pn 20 elay kcode eI n d 164 (146, [(1, (0, 4)), (0, (1, 1))], [(0, z332)], w330) _
                            refine e_Pn.run (t' := (193, [(1, (0, 4)), (0, (1, 1))], [], w330)) kAlk 2 rfl ?_
                            replace hM := hM.st (t' := (141, [(1, (0, 4)), (0, (1, 275))], [(0, 0), (0, 4), (1, 275)], v317)) (fun _ _ q => e_Pn.run eAlk 3 rfl q)
                            obtain ⟨dc335, r336, v337, hc338, hM⟩ := hM.ca rfl
                            obtain ⟨⟨z339, rfl⟩, v337f⟩ := hc338.pn (fun nq => x_336 s327.1.2.2.2.2.1)
                            have v337m := mfr.rf v337f s327.1.2.2.2.2.1
                            replace hM : e_Rn 20 elay ecode eI d' 346 (144, [(1, (0, 4)), (0, (1, 275))], [(0, z339)], v337) r' v' := hM
                            replace hM := hM.st (t' := (242, [(1, (0, 4)), (0, (1, 275))], [], v337)) (fun _ _ q => e_Pn.run eAlk 2 rfl q)
                            have e341a : w330 1 11 = w330 1 11 := rfl
                            have e341b : v337 275 83 = v317 275 83 := (v337f 275 83 (by unfold mEm; omega))
                            have e341c : w330 1 13 = w330 1 13 := rfl
                            have e341d : v337 275 82 = v317 275 82 := (v337f 275 82 (by unfold mEm; omega))
                            have e341f : w330 1 12 = w330 1 12 := rfl
                            have e341e : v337 275 80 = v317 275 80 := (v337f 275 80 (by unfold mEm; omega))
                            have s340 := st.gen (o' := 0) (l' := w 1 13) (m' := v 275 82) (t' := w 1 12) (b' := 0) s333 (e_fr.refl w330) (e_fr.trans (e_fr.refl v317) (e_fr.mono v337f (fun c k q => by unfold mEm at q; unfold mGs; omega))) (by omega) (by omega) (by omega) (by omega)
                            have q342 := st.nums s340
                            obtain ⟨rfl, rfl⟩ := hM.re0 rfl
                            refine e_Pn.ret0 rfl ?_
                            exact ⟨rfl, rfl, Or.inl ⟨st.re s340 (by omega) (by omega) (by omega) (by omega) (by omega), by omega⟩⟩
                          · replace h305 : (28 : Int) = 27 := by have q : ¬ ((28 : Int) ≠ 27) := h305; omega
                            exfalso; omega
                    · replace h291 : (4 : Int) = 1 := by have q : ¬ ((4 : Int) ≠ 1) := h291; omega
                      exfalso; omega
                  · replace h289 : (4 : Int) = 2 := by have q : ¬ ((4 : Int) ≠ 2) := h289; omega
                    exfalso; omega
                · replace h287 : (0 : Int) ≠ 0 := by have q : ¬ ((0 : Int) = 0) := h287; omega
                  exfalso; omega
              · replace h281 : (0 : Int) ≠ 0 := by have q : ¬ ((0 : Int) = 0) := h281; omega
                exfalso; omega
            · replace h279 : (w 1 5 : Int) = 48 := by have q : ¬ ((w 1 5 : Int) ≠ 48) := h279; omega
              exact (kM_no h0.1.2.1.2.2.1 (fun a b => decide ((a : Int) ≠ 9) && decide ((a : Int) ≠ 2) && decide ((a : Int) ≠ 1) && decide ((a : Int) ≠ 48) && decide ((a : Int) = 49) && decide ((a : Int) = 48)) (fun a b c => true) (by decide) (by decide) (by simp only [Bool.and_eq_true, decide_eq_true_eq]; exact ⟨⟨⟨⟨⟨h3, h5⟩, h7⟩, h9⟩, h70⟩, h279⟩) rfl).elim
      · replace h7 : (w 1 5 : Int) = 1 := by have q : ¬ ((w 1 5 : Int) ≠ 1) := h7; omega
        refine e_Pn.run (t' := (77, [(0, (1, 1))], [(1, 1)], w)) kAlk 1 rfl ?_
        refine e_Pn.getr (z := cd) kAlk rfl rfl h0.1.2.2.2.1.2.1 (by omega) ?_
        refine e_Pn.run (t' := (82, [(0, (1, 1))], [(1, 1), (0, 2), (1, cd)], w)) kAlk 2 rfl ?_
        have hOw344 := NR.names h0.2.1 (by omega)
        refine e_Pn.callA rfl (fun nq dq => l_137 h0.1.2.2.2.1 h0.1.1.2.2.1 h0.1.1.2.2.2.1 h0.1.1.1.1 (by omega) hOw344.1 (NR.v32 h0.2.1)) (fun r343 w344 h345 => ?_)
        obtain ⟨z346, z346', rfl, w344q, w344c⟩ := h345
        have w344f := usQ.fr w344c
        have z346r := usQ.r w344q w344c (NR.v32 h0.2.1)
        have w344k := kRw.rc h0.1.2.2.2.1 w344f
        have w344l : 0 ≤ w344 cd 0 ∧ w344 cd 0 ≤ 4000 := by rw [w344f cd 0 (by unfold kRc; omega)]; exact h0.1.2.2.2.2.2.1
        have w344e : w344 1 5 = w 1 5 ∧ w344 1 6 = w 1 6 ∧ w344 1 8 = w 1 8 := ⟨w344f 1 5 (by unfold kRc; omega), w344f 1 6 (by unfold kRc; omega), w344f 1 8 (by unfold kRc; omega)⟩
        show e_Pn 20 elay kcode eI n d 164 (85, [(0, (1, 1))], [(0, z346), (0, 2), (1, cd)], w344) _
        refine e_Pn.callA rfl (fun nq dq => l_21 w344k (op := 2) (od := z346) (by omega) (by omega) w344l) (fun r347 w348 h349 => ?_)
        obtain ⟨z350, rfl, w348f, w348q⟩ := h349
        have w348k := kRw.em w344k w348f
        have w348l := (emQ.len w348q w344l).1
        have w348e : w348 1 5 = w344 1 5 ∧ w348 1 6 = w344 1 6 ∧ w348 1 8 = w344 1 8 := ⟨w348f 1 5 (by unfold kEm; omega), w348f 1 6 (by unfold kEm; omega), w348f 1 8 (by unfold kEm; omega)⟩
        have z350r : 0 ≤ z350 ∧ z350 ≤ 4000 := emQ.z w348q w344l
        show e_Pn 20 elay kcode eI n d 164 (88, [(0, (1, 1))], [(0, z350)], w348) _
        refine e_Pn.run (t' := (90, [(0, (1, 1))], [(1, 1)], w348)) kAlk 2 rfl ?_
        replace hM := hM.st (t' := (1, [(0, (1, 275))], [(1, 275)], v)) (fun _ _ q => e_Pn.run eAlk 1 rfl q)
        obtain ⟨b351, hM⟩ := hM.of (fun _ _ q => e_Pn.getf (z := 0) eAlk rfl rfl h0.1.2.1.1.2 q)
        rcases hM.or (fun _ _ q1 q2 => e_Pn.if1 eAlk rfl q1 q2) with ⟨h352, hM⟩ | ⟨h352, hM⟩
        · replace h352 : (0 : Int) = 0 := h352
          replace hM := hM.st (t' := (11, [(0, (1, 275))], [(0, 45), (1, 275)], v)) (fun _ _ q => e_Pn.run eAlk 2 rfl q)
          obtain ⟨dc353, r354, v355, hc356, hM⟩ := hM.ca rfl
          obtain ⟨z357, rfl, rfl, z357q⟩ := hc356.pn (fun nq => l_331)
          replace z357q := isS (kM_s45 h0.1.2.1.2.2.1) rfl rfl z357q
          obtain rfl : z357 = 0 := by omega
          clear z357q
          replace hM : e_Rn 20 elay ecode eI d' 346 (14, [(0, (1, 275))], [(0, 0)], v) r' v' := hM
          rcases hM.or (fun _ _ q1 q2 => e_Pn.if1 eAlk rfl q1 q2) with ⟨h358, hM⟩ | ⟨h358, hM⟩
          · replace h358 : (0 : Int) = 0 := h358
            replace hM := hM.st (t' := (51, [(0, (1, 275))], [(1, 275)], v)) (fun _ _ q => e_Pn.run eAlk 1 rfl q)
            obtain ⟨b359, hM⟩ := hM.of (fun _ _ q => e_Pn.getf (z := 1) eAlk rfl rfl (kM_k1 h0.1.2.1.2.2.1 (by omega)) q)
            replace hM := hM.st (t' := (55, [(0, (1, 275))], [(0, 2), (0, 1)], v)) (fun _ _ q => e_Pn.run eAlk 1 rfl q)
            rcases hM.or (fun _ _ q1 q2 => e_Pn.if2 eAlk rfl q1 q2) with ⟨h360, hM⟩ | ⟨h360, hM⟩
            · replace h360 : (1 : Int) ≠ 2 := h360
              replace hM := hM.st (t' := (76, [(0, (1, 275))], [(1, 275)], v)) (fun _ _ q => e_Pn.run eAlk 1 rfl q)
              obtain ⟨b361, hM⟩ := hM.of (fun _ _ q => e_Pn.getf (z := 1) eAlk rfl rfl (kM_k1 h0.1.2.1.2.2.1 (by omega)) q)
              replace hM := hM.st (t' := (80, [(0, (1, 275))], [(0, 1), (0, 1)], v)) (fun _ _ q => e_Pn.run eAlk 1 rfl q)
              rcases hM.or (fun _ _ q1 q2 => e_Pn.if2 eAlk rfl q1 q2) with ⟨h362, hM⟩ | ⟨h362, hM⟩
              · replace h362 : (1 : Int) ≠ 1 := h362
                exfalso; omega
              · replace h362 : (1 : Int) = 1 := by have q : ¬ ((1 : Int) ≠ 1) := h362; omega
                replace hM := hM.st (t' := (88, [(0, (1, 275))], [(0, 0), (0, 2), (1, 275), (0, 2), (1, 275)], v)) (fun _ _ q => e_Pn.run eAlk 5 rfl q)
                obtain ⟨dc363, r364, v365, hc366, hM⟩ := hM.ca rfl
                obtain ⟨⟨z367, rfl⟩, v365f⟩ := hc366.pn (fun nq => x_336 h0.1.2.2.2.2.1)
                have v365m := mfr.rf v365f h0.1.2.2.2.2.1
                replace hM : e_Rn 20 elay ecode eI d' 346 (91, [(0, (1, 275))], [(0, z367), (0, 2), (1, 275)], v365) r' v' := hM
                obtain ⟨dhc368, r369, v370, hc368, hM⟩ := hM.ca rfl
                replace hc368 : e_Rn 20 elay ecode eI dhc368 338 (0, [(0, (1, 275)), (1, (0, 2)), (2, (0, z367))], [], v365) r369 v370 := hc368
                replace hc368 := hc368.st (t' := (1, [(0, (1, 275)), (1, (0, 2)), (2, (0, z367))], [(1, 275)], v365)) (fun _ _ q => e_Pn.run eAlk 1 rfl q)
                obtain ⟨b371, hc368⟩ := hc368.of (fun _ _ q => e_Pn.getf (z := 0) eAlk rfl rfl ((v365f 275 88 (by unfold mEm; omega)).trans h0.1.2.1.1.2) q)
                rcases hc368.or (fun _ _ q1 q2 => e_Pn.if1 eAlk rfl q1 q2) with ⟨h372, hc368⟩ | ⟨h372, hc368⟩
                · replace h372 : (0 : Int) ≠ 0 := h372
                  exfalso; omega
                · replace h372 : (0 : Int) = 0 := by have q : ¬ ((0 : Int) ≠ 0) := h372; omega
                  replace hc368 := hc368.st (t' := (8, [(0, (1, 275)), (1, (0, 2)), (2, (0, z367))], [(1, 275)], v365)) (fun _ _ q => e_Pn.run eAlk 1 rfl q)
                  obtain ⟨b373, hc368⟩ := hc368.of (fun _ _ q => e_Pn.getf (z := 1) eAlk rfl rfl ((v365f 275 84 (by unfold mEm; omega)).trans (kM_k1 h0.1.2.1.2.2.1 (by omega))) q)
                  replace hc368 := hc368.st (t' := (12, [(0, (1, 275)), (1, (0, 2)), (2, (0, z367))], [(0, 1), (0, 1)], v365)) (fun _ _ q => e_Pn.run eAlk 1 rfl q)
                  rcases hc368.or (fun _ _ q1 q2 => e_Pn.if2 eAlk rfl q1 q2) with ⟨h374, hc368⟩ | ⟨h374, hc368⟩
                  · replace h374 : (1 : Int) ≠ 1 := h374
                    exfalso; omega
                  · replace h374 : (1 : Int) = 1 := by have q : ¬ ((1 : Int) ≠ 1) := h374; omega
                    replace hc368 := hc368.st (t' := (16, [(0, (1, 275)), (1, (0, 2)), (2, (0, z367))], [(1, 275)], v365)) (fun _ _ q => e_Pn.run eAlk 1 rfl q)
                    replace hc368 := hc368.st (fun _ _ q => e_Pn.getr (z := 341) eAlk rfl rfl ((v365f 275 90 (by unfold mEm; omega)).trans (h0.1.2.2.2.2.1 (90, 341) (by decide))) (by omega) q)
                    replace hc368 := hc368.st (t' := (20, [(0, (1, 275)), (1, (0, 2)), (2, (0, z367))], [(1, 275), (1, 341)], v365)) (fun _ _ q => e_Pn.run eAlk 1 rfl q)
                    obtain ⟨b375, hc368⟩ := hc368.of (fun _ _ q => e_Pn.getf (z := v 275 94) eAlk rfl rfl ((v365f 275 94 (by unfold mEm; omega)).trans rfl) q)
                    replace hc368 := hc368.st (t' := (24, [(0, (1, 275)), (1, (0, 2)), (2, (0, z367))], [(0, 2), (0, v 275 94), (1, 341)], v365)) (fun _ _ q => e_Pn.run eAlk 1 rfl q)
                    obtain ⟨b376, b377, hc368⟩ := hc368.of2 (fun _ _ q => e_Pn.ast eAlk rfl rfl rfl q)
                    generalize hv378 : e_up v365 341 (v 275 94) 2 = v378 at hc368
                    have v378m := mRw.upd hv378 (fun _ => by omega) v365m
                    replace hc368 := hc368.st (t' := (26, [(0, (1, 275)), (1, (0, 2)), (2, (0, z367))], [(1, 275)], v378)) (fun _ _ q => e_Pn.run eAlk 1 rfl q)
                    replace hc368 := hc368.st (fun _ _ q => e_Pn.getr (z := 342) eAlk rfl rfl (by rw [← hv378]; exact (e_up_ne _ _ (Or.inl (by omega))).trans ((v365f 275 91 (by unfold mEm; omega)).trans (h0.1.2.2.2.2.1 (91, 342) (by decide)))) (by omega) q)
                    replace hc368 := hc368.st (t' := (30, [(0, (1, 275)), (1, (0, 2)), (2, (0, z367))], [(1, 275), (1, 342)], v378)) (fun _ _ q => e_Pn.run eAlk 1 rfl q)
                    obtain ⟨b379, hc368⟩ := hc368.of (fun _ _ q => e_Pn.getf (z := v 275 94) eAlk rfl rfl (by rw [← hv378]; exact (e_up_ne _ _ (Or.inl (by omega))).trans ((v365f 275 94 (by unfold mEm; omega)).trans rfl)) q)
                    replace hc368 := hc368.st (t' := (34, [(0, (1, 275)), (1, (0, 2)), (2, (0, z367))], [(1, 275), (0, v 275 94), (1, 342)], v378)) (fun _ _ q => e_Pn.run eAlk 1 rfl q)
                    obtain ⟨b380, hc368⟩ := hc368.of (fun _ _ q => e_Pn.getf (z := v 275 86) eAlk rfl rfl (by rw [← hv378]; exact (e_up_ne _ _ (Or.inl (by omega))).trans ((v365f 275 86 (by unfold mEm; omega)).trans rfl)) q)
                    obtain ⟨b381, b382, hc368⟩ := hc368.of2 (fun _ _ q => e_Pn.ast eAlk rfl rfl rfl q)
                    generalize hv383 : e_up v378 342 (v 275 94) (v 275 86) = v383 at hc368
                    have v383m := mRw.upd hv383 (fun _ => by omega) v378m
                    replace hc368 := hc368.st (t' := (39, [(0, (1, 275)), (1, (0, 2)), (2, (0, z367))], [(1, 275)], v383)) (fun _ _ q => e_Pn.run eAlk 1 rfl q)
                    replace hc368 := hc368.st (fun _ _ q => e_Pn.getr (z := 343) eAlk rfl rfl (by rw [← hv383]; exact (e_up_ne _ _ (Or.inl (by omega))).trans (by rw [← hv378]; exact (e_up_ne _ _ (Or.inl (by omega))).trans ((v365f 275 92 (by unfold mEm; omega)).trans (h0.1.2.2.2.2.1 (92, 343) (by decide))))) (by omega) q)
                    replace hc368 := hc368.st (t' := (43, [(0, (1, 275)), (1, (0, 2)), (2, (0, z367))], [(1, 275), (1, 343)], v383)) (fun _ _ q => e_Pn.run eAlk 1 rfl q)
                    obtain ⟨b384, hc368⟩ := hc368.of (fun _ _ q => e_Pn.getf (z := v 275 94) eAlk rfl rfl (by rw [← hv383]; exact (e_up_ne _ _ (Or.inl (by omega))).trans (by rw [← hv378]; exact (e_up_ne _ _ (Or.inl (by omega))).trans ((v365f 275 94 (by unfold mEm; omega)).trans rfl))) q)
                    replace hc368 := hc368.st (t' := (47, [(0, (1, 275)), (1, (0, 2)), (2, (0, z367))], [(1, 275), (0, v 275 94), (1, 343)], v383)) (fun _ _ q => e_Pn.run eAlk 1 rfl q)
                    obtain ⟨b385, hc368⟩ := hc368.of (fun _ _ q => e_Pn.getf (z := v 275 87) eAlk rfl rfl (by rw [← hv383]; exact (e_up_ne _ _ (Or.inl (by omega))).trans (by rw [← hv378]; exact (e_up_ne _ _ (Or.inl (by omega))).trans ((v365f 275 87 (by unfold mEm; omega)).trans rfl))) q)
                    replace hc368 := hc368.st (t' := (51, [(0, (1, 275)), (1, (0, 2)), (2, (0, z367))], [(1, 275), (0, v 275 87), (0, v 275 94), (1, 343)], v383)) (fun _ _ q => e_Pn.run eAlk 1 rfl q)
                    obtain ⟨b386, hc368⟩ := hc368.of (fun _ _ q => e_Pn.getf (z := v 275 86) eAlk rfl rfl (by rw [← hv383]; exact (e_up_ne _ _ (Or.inl (by omega))).trans (by rw [← hv378]; exact (e_up_ne _ _ (Or.inl (by omega))).trans ((v365f 275 86 (by unfold mEm; omega)).trans rfl))) q)
                    replace hc368 := hc368.st (fun _ _ q => e_Pn.sub' (z := v 275 87 - v 275 86) eAlk rfl (by omega) (by omega) q)
                    obtain ⟨b387, b388, hc368⟩ := hc368.of2 (fun _ _ q => e_Pn.ast eAlk rfl rfl rfl q)
                    generalize hv389 : e_up v383 343 (v 275 94) (v 275 87 - v 275 86) = v389 at hc368
                    have v389m := mRw.upd hv389 (fun _ => by omega) v383m
                    replace hc368 := hc368.st (t' := (57, [(0, (1, 275)), (1, (0, 2)), (2, (0, z367))], [(1, 275)], v389)) (fun _ _ q => e_Pn.run eAlk 1 rfl q)
                    replace hc368 := hc368.st (fun _ _ q => e_Pn.getr (z := 344) eAlk rfl rfl (by rw [← hv389]; exact (e_up_ne _ _ (Or.inl (by omega))).trans (by rw [← hv383]; exact (e_up_ne _ _ (Or.inl (by omega))).trans (by rw [← hv378]; exact (e_up_ne _ _ (Or.inl (by omega))).trans ((v365f 275 93 (by unfold mEm; omega)).trans (h0.1.2.2.2.2.1 (93, 344) (by decide)))))) (by omega) q)
                    replace hc368 := hc368.st (t' := (61, [(0, (1, 275)), (1, (0, 2)), (2, (0, z367))], [(1, 275), (1, 344)], v389)) (fun _ _ q => e_Pn.run eAlk 1 rfl q)
                    obtain ⟨b390, hc368⟩ := hc368.of (fun _ _ q => e_Pn.getf (z := v 275 94) eAlk rfl rfl (by rw [← hv389]; exact (e_up_ne _ _ (Or.inl (by omega))).trans (by rw [← hv383]; exact (e_up_ne _ _ (Or.inl (by omega))).trans (by rw [← hv378]; exact (e_up_ne _ _ (Or.inl (by omega))).trans ((v365f 275 94 (by unfold mEm; omega)).trans rfl)))) q)
                    replace hc368 := hc368.st (t' := (65, [(0, (1, 275)), (1, (0, 2)), (2, (0, z367))], [(0, z367), (0, v 275 94), (1, 344)], v389)) (fun _ _ q => e_Pn.run eAlk 1 rfl q)
                    obtain ⟨b391, b392, hc368⟩ := hc368.of2 (fun _ _ q => e_Pn.ast eAlk rfl rfl rfl q)
                    generalize hv393 : e_up v389 344 (v 275 94) z367 = v393 at hc368
                    have v393m := mRw.upd hv393 (fun _ => by omega) v389m
                    replace hc368 := hc368.st (t' := (68, [(0, (1, 275)), (1, (0, 2)), (2, (0, z367))], [(1, 275), (1, 275)], v393)) (fun _ _ q => e_Pn.run eAlk 2 rfl q)
                    obtain ⟨b394, hc368⟩ := hc368.of (fun _ _ q => e_Pn.getf (z := v 275 94) eAlk rfl rfl (by rw [← hv393]; exact (e_up_ne _ _ (Or.inl (by omega))).trans (by rw [← hv389]; exact (e_up_ne _ _ (Or.inl (by omega))).trans (by rw [← hv383]; exact (e_up_ne _ _ (Or.inl (by omega))).trans (by rw [← hv378]; exact (e_up_ne _ _ (Or.inl (by omega))).trans ((v365f 275 94 (by unfold mEm; omega)).trans rfl))))) q)
                    replace hc368 := hc368.st (t' := (72, [(0, (1, 275)), (1, (0, 2)), (2, (0, z367))], [(0, 1), (0, v 275 94), (1, 275)], v393)) (fun _ _ q => e_Pn.run eAlk 1 rfl q)
                    replace hc368 := hc368.st (fun _ _ q => e_Pn.add (z := v 275 94 + 1) eAlk rfl (by omega) (by omega) q)
                    replace hc368 := hc368.st (fun _ _ q => e_Pn.putf eAlk rfl rfl q)
                    generalize hv395 : e_up v393 275 94 (v 275 94 + 1) = v395 at hc368
                    have v395m := mRw.upd hv395 (fun _ => by omega) v393m
                    replace hc368 := hc368.st (t' := (78, [(0, (1, 275)), (1, (0, 2)), (2, (0, z367))], [(1, 275), (1, 275)], v395)) (fun _ _ q => e_Pn.run eAlk 2 rfl q)
                    obtain ⟨b396, hc368⟩ := hc368.of (fun _ _ q => e_Pn.getf (z := 1) eAlk rfl rfl (by rw [← hv395]; exact (e_up_ne _ _ (Or.inr (by omega))).trans (by rw [← hv393]; exact (e_up_ne _ _ (Or.inl (by omega))).trans (by rw [← hv389]; exact (e_up_ne _ _ (Or.inl (by omega))).trans (by rw [← hv383]; exact (e_up_ne _ _ (Or.inl (by omega))).trans (by rw [← hv378]; exact (e_up_ne _ _ (Or.inl (by omega))).trans ((v365f 275 84 (by unfold mEm; omega)).trans (kM_k1 h0.1.2.1.2.2.1 (by omega)))))))) q)
                    replace hc368 := hc368.st (t' := (82, [(0, (1, 275)), (1, (0, 2)), (2, (0, z367))], [(0, 1), (0, 1), (1, 275)], v395)) (fun _ _ q => e_Pn.run eAlk 1 rfl q)
                    rcases hc368.or (fun _ _ q1 q2 => e_Pn.if2 eAlk rfl q1 q2) with ⟨h397, hc368⟩ | ⟨h397, hc368⟩
                    · replace h397 : (1 : Int) ≠ 1 := h397
                      exfalso; omega
                    · replace h397 : (1 : Int) = 1 := by have q : ¬ ((1 : Int) ≠ 1) := h397; omega
                      replace hc368 := hc368.st (t' := (90, [(0, (1, 275)), (1, (0, 2)), (2, (0, z367))], [(0, 1), (1, 275)], v395)) (fun _ _ q => e_Pn.run eAlk 2 rfl q)
                      obtain ⟨dhc398, r399, v400, hc398, hc368⟩ := hc368.ca rfl
                      replace hc398 : e_Rn 20 elay ecode eI dhc398 334 (0, [(0, (1, 275)), (1, (0, 1))], [], v395) r399 v400 := hc398
                      replace hc398 := hc398.st (t' := (1, [(0, (1, 275)), (1, (0, 1))], [(1, 275)], v395)) (fun _ _ q => e_Pn.run eAlk 1 rfl q)
                      obtain ⟨b401, hc398⟩ := hc398.of (fun _ _ q => e_Pn.getf (z := 0) eAlk rfl rfl (by rw [← hv395]; exact (e_up_ne _ _ (Or.inr (by omega))).trans (by rw [← hv393]; exact (e_up_ne _ _ (Or.inl (by omega))).trans (by rw [← hv389]; exact (e_up_ne _ _ (Or.inl (by omega))).trans (by rw [← hv383]; exact (e_up_ne _ _ (Or.inl (by omega))).trans (by rw [← hv378]; exact (e_up_ne _ _ (Or.inl (by omega))).trans ((v365f 275 88 (by unfold mEm; omega)).trans h0.1.2.1.1.2)))))) q)
                      rcases hc398.or (fun _ _ q1 q2 => e_Pn.if1 eAlk rfl q1 q2) with ⟨h402, hc398⟩ | ⟨h402, hc398⟩
                      · replace h402 : (0 : Int) = 0 := h402
                        replace hc398 := hc398.st (t' := (9, [(0, (1, 275)), (1, (0, 1))], [(0, 1)], v395)) (fun _ _ q => e_Pn.run eAlk 1 rfl q)
                        rcases hc398.or (fun _ _ q1 q2 => e_Pn.if1 eAlk rfl q1 q2) with ⟨h403, hc398⟩ | ⟨h403, hc398⟩
                        · replace h403 : (1 : Int) = 0 := h403
                          exfalso; omega
                        · replace h403 : (1 : Int) ≠ 0 := by have q : ¬ ((1 : Int) = 0) := h403; omega
                          replace hc398 := hc398.st (t' := (13, [(0, (1, 275)), (1, (0, 1))], [(1, 275)], v395)) (fun _ _ q => e_Pn.run eAlk 1 rfl q)
                          have e405a : w 1 11 = w 1 11 := rfl
                          have e405b : v365 275 83 = v 275 83 := (v365f 275 83 (by unfold mEm; omega))
                          have e405c : w 1 13 = w 1 13 := rfl
                          have e405d : v365 275 82 = v 275 82 := (v365f 275 82 (by unfold mEm; omega))
                          have e405f : w 1 12 = w 1 12 := rfl
                          have e405e : v365 275 80 = v 275 80 := (v365f 275 80 (by unfold mEm; omega))
                          have s404 := st.gen (o' := 0) (l' := w 1 13) (m' := v 275 82) (t' := w 1 12) (b' := 0) h0 (e_fr.refl w) (e_fr.trans (e_fr.refl v) (e_fr.mono v365f (fun c k q => by unfold mEm at q; unfold mGs; omega))) (by omega) (by omega) (by omega) (by omega)
                          have q406 := st.nums s404
                          have as40794 : v365 275 94 = v 275 94 := ((v365f 275 94 (by unfold mEm; omega)).trans rfl)
                          have as40786 : v365 275 86 = v 275 86 := ((v365f 275 86 (by unfold mEm; omega)).trans rfl)
                          have as40787 : v365 275 87 = v 275 87 := ((v365f 275 87 (by unfold mEm; omega)).trans rfl)
                          obtain ⟨as407, as407g⟩ := nmA.mk hv378 hv383 hv389 hv393 hv395 (by omega) (by omega)
                          have s407 := st.use (by decide) s404 (by omega) w344q (usQ.c w344c) as407 (by omega) (by omega) as407g
                          have q408 := st.nums s407
                          have s409 := st.em s407 w348f w348q (by omega) (by unfold isCl3; omega)
                          have q410 := st.nums s409
                          obtain ⟨dc411, r412, v413, hc414, hc398⟩ := hc398.ca rfl
                          refine e_Pn.callA rfl (fun nq dq => t_123b s409.1.1 s409.1.2.1.1 s409.1.2.1.2.1.2.1 (st.nx s409) (d' := dc411) hc414) (fun r415 w416 h417 => ?_)
                          obtain ⟨rfl, rfl, h417⟩ := h417
                          have s418 := st.ad (k := 1) s409 h417 (st.len1 s409 (by omega)) (by omega)
                          have s418n := h417.2.2.2.1
                          have s418m := st.len1 s409 (by omega)
                          have q419 := st.nums s418
                          show e_Pn 20 elay kcode eI n d 164 (93, [(0, (1, 1))], [], w416) _
                          replace hc398 : e_Rn 20 elay ecode eI dhc398 334 (16, [(0, (1, 275)), (1, (0, 1))], [], v413) r399 v400 := hc398
                          refine e_Pn.run (t' := (193, [(0, (1, 1))], [], w416)) kAlk 1 rfl ?_
                          replace hc398 := hc398.st (t' := (24, [(0, (1, 275)), (1, (0, 1))], [], v413)) (fun _ _ q => e_Pn.run eAlk 1 rfl q)
                          obtain ⟨rfl, rfl⟩ := hc398.re0 rfl
                          replace hc368 : e_Rn 20 elay ecode eI dhc368 338 (93, [(0, (1, 275)), (1, (0, 2)), (2, (0, z367))], [], v413) r369 v370 := hc368
                          obtain ⟨rfl, rfl⟩ := hc368.re0 rfl
                          replace hM : e_Rn 20 elay ecode eI d' 346 (94, [(0, (1, 275))], [], v413) r' v' := hM
                          replace hM := hM.st (t' := (242, [(0, (1, 275))], [], v413)) (fun _ _ q => e_Pn.run eAlk 1 rfl q)
                          obtain ⟨rfl, rfl⟩ := hM.re0 rfl
                          refine e_Pn.ret0 rfl ?_
                          exact ⟨rfl, rfl, Or.inl ⟨st.re s418 (by omega) (by omega) (by omega) (by omega) (by omega), by omega⟩⟩
                      · replace h402 : (0 : Int) ≠ 0 := by have q : ¬ ((0 : Int) = 0) := h402; omega
                        exact (kM_no h0.1.2.1.2.2.1 (fun a b => decide ((a : Int) ≠ 9) && decide ((a : Int) ≠ 2) && decide ((a : Int) = 1) && decide ((0 : Int) ≠ 0)) (fun a b c => true) (by decide) (by decide) (by simp only [Bool.and_eq_true, decide_eq_true_eq]; exact ⟨⟨⟨h3, h5⟩, h7⟩, h402⟩) rfl).elim
            · replace h360 : (1 : Int) = 2 := by have q : ¬ ((1 : Int) ≠ 2) := h360; omega
              exfalso; omega
          · replace h358 : (0 : Int) ≠ 0 := by have q : ¬ ((0 : Int) = 0) := h358; omega
            exfalso; omega
        · replace h352 : (0 : Int) ≠ 0 := by have q : ¬ ((0 : Int) = 0) := h352; omega
          exfalso; omega
    · replace h5 : (w 1 5 : Int) = 2 := by have q : ¬ ((w 1 5 : Int) ≠ 2) := h5; omega
      refine e_Pn.run (t' := (58, [(0, (1, 1))], [(1, 1)], w)) kAlk 1 rfl ?_
      have nb := st.num h0 (by omega)
      refine e_Pn.callI rfl (fun nq420 dq421 => ?_)
      show e_Pn 20 elay kcode eI nq420 dq421 166 (0, [(0, (1, 1))], [], w) _
      refine e_Pn.run (t' := (1, [(0, (1, 1))], [(1, 1)], w)) kAlk 1 rfl ?_
      refine e_Pn.getf (z := w 1 8) kAlk rfl rfl rfl (fun b422 => ?_)
      refine e_Pn.run (t' := (6, [(0, (1, 1))], [(0, 16), (0, w 1 8)], w)) kAlk 1 rfl ?_
      refine e_Pn.shr16 kAlk rfl (by omega) (fun z423 hz423 => ?_)
      replace hz423 : z423 = (w 1 8) / 65536 := hz423
      refine e_Pn.run (t' := (9, [(1, (0, z423)), (0, (1, 1))], [(0, z423)], w)) kAlk 2 rfl ?_
      refine e_Pn.if1 kAlk rfl (fun h424 => ?_) (fun h424 => ?_)
      · replace h424 : (z423 : Int) ≠ 0 := h424
        refine e_Pn.run (t' := (29, [(1, (0, z423)), (0, (1, 1))], [(1, 1)], w)) kAlk 1 rfl ?_
        refine e_Pn.getr (z := cd) kAlk rfl rfl h0.1.2.2.2.1.2.1 (by omega) ?_
        refine e_Pn.run (t' := (34, [(1, (0, z423)), (0, (1, 1))], [(0, z423), (0, 0), (1, cd)], w)) kAlk 2 rfl ?_
        refine e_Pn.callA rfl (fun nq dq => l_21 h0.1.2.2.2.1 (op := 0) (od := z423) (by omega) (by omega) h0.1.2.2.2.2.2.1) (fun r425 w426 h427 => ?_)
        obtain ⟨z428, rfl, w426f, w426q⟩ := h427
        have w426k := kRw.em h0.1.2.2.2.1 w426f
        have w426l := (emQ.len w426q h0.1.2.2.2.2.2.1).1
        have w426e : w426 1 5 = w 1 5 ∧ w426 1 6 = w 1 6 ∧ w426 1 8 = w 1 8 := ⟨w426f 1 5 (by unfold kEm; omega), w426f 1 6 (by unfold kEm; omega), w426f 1 8 (by unfold kEm; omega)⟩
        have s429 := st.em h0 w426f w426q (by omega) (by unfold isCl3; omega)
        have q430 := st.nums s429
        have z428r : 0 ≤ z428 ∧ z428 ≤ 4000 := emQ.z w426q h0.1.2.2.2.2.2.1
        show e_Pn 20 elay kcode eI nq420 dq421 166 (37, [(1, (0, z423)), (0, (1, 1))], [(0, z428)], w426) _
        refine e_Pn.run (t' := (39, [(1, (0, z423)), (0, (1, 1))], [(1, 1)], w426)) kAlk 2 rfl ?_
        refine e_Pn.getr (z := cd) kAlk rfl rfl ((w426f 1 3 (by unfold kEm; omega)).trans h0.1.2.2.2.1.2.1) (by omega) ?_
        refine e_Pn.run (t' := (44, [(1, (0, z423)), (0, (1, 1))], [(1, 1), (0, 1), (1, cd)], w426)) kAlk 2 rfl ?_
        refine e_Pn.getf (z := w 1 8) kAlk rfl rfl ((w426f 1 8 (by unfold kEm; omega)).trans rfl) (fun b431 => ?_)
        refine e_Pn.run (t' := (50, [(1, (0, z423)), (0, (1, 1))], [(0, 65535), (0, w 1 8), (0, 1), (1, cd)], w426)) kAlk 1 rfl ?_
        refine e_Pn.andm kAlk 65535 16 rfl (by decide) (fun z432 hz432 => ?_)
        replace hz432 : z432 = (w 1 8) % 65536 := hz432
        have hz432r : 0 ≤ z432 ∧ z432 ≤ 65535 := by omega
        refine e_Pn.callA rfl (fun nq dq => l_21 w426k (op := 1) (od := z432) (by omega) (by omega) w426l) (fun r433 w434 h435 => ?_)
        obtain ⟨z436, rfl, w434f, w434q⟩ := h435
        have w434k := kRw.em w426k w434f
        have w434l := (emQ.len w434q w426l).1
        have w434e : w434 1 5 = w426 1 5 ∧ w434 1 6 = w426 1 6 ∧ w434 1 8 = w426 1 8 := ⟨w434f 1 5 (by unfold kEm; omega), w434f 1 6 (by unfold kEm; omega), w434f 1 8 (by unfold kEm; omega)⟩
        have s437 := st.em s429 w434f w434q (by omega) (by unfold isCl3; omega)
        have q438 := st.nums s437
        have z436r : 0 ≤ z436 ∧ z436 ≤ 4000 := emQ.z w434q w426l
        show e_Pn 20 elay kcode eI nq420 dq421 166 (54, [(1, (0, z423)), (0, (1, 1))], [(0, z436)], w434) _
        refine e_Pn.run (t' := (55, [(1, (0, z423)), (0, (1, 1))], [], w434)) kAlk 1 rfl ?_
        refine e_Pn.ret0 rfl ?_
        show e_Pn 20 elay kcode eI n d 164 (61, [(0, (1, 1))], [], w434) _
        refine e_Pn.run (t' := (62, [(0, (1, 1))], [(1, 1)], w434)) kAlk 1 rfl ?_
        replace hM := hM.st (t' := (1, [(0, (1, 275))], [(1, 275)], v)) (fun _ _ q => e_Pn.run eAlk 1 rfl q)
        obtain ⟨b439, hM⟩ := hM.of (fun _ _ q => e_Pn.getf (z := 0) eAlk rfl rfl h0.1.2.1.1.2 q)
        rcases hM.or (fun _ _ q1 q2 => e_Pn.if1 eAlk rfl q1 q2) with ⟨h440, hM⟩ | ⟨h440, hM⟩
        · replace h440 : (0 : Int) = 0 := h440
          replace hM := hM.st (t' := (11, [(0, (1, 275))], [(0, 45), (1, 275)], v)) (fun _ _ q => e_Pn.run eAlk 2 rfl q)
          obtain ⟨dc441, r442, v443, hc444, hM⟩ := hM.ca rfl
          obtain ⟨z445, rfl, rfl, z445q⟩ := hc444.pn (fun nq => l_331)
          replace z445q := isS (kM_s45 h0.1.2.1.2.2.1) rfl rfl z445q
          obtain rfl : z445 = 0 := by omega
          clear z445q
          replace hM : e_Rn 20 elay ecode eI d' 346 (14, [(0, (1, 275))], [(0, 0)], v) r' v' := hM
          rcases hM.or (fun _ _ q1 q2 => e_Pn.if1 eAlk rfl q1 q2) with ⟨h446, hM⟩ | ⟨h446, hM⟩
          · replace h446 : (0 : Int) = 0 := h446
            replace hM := hM.st (t' := (51, [(0, (1, 275))], [(1, 275)], v)) (fun _ _ q => e_Pn.run eAlk 1 rfl q)
            obtain ⟨b447, hM⟩ := hM.of (fun _ _ q => e_Pn.getf (z := 2) eAlk rfl rfl (kM_k2 h0.1.2.1.2.2.1 (by omega)) q)
            replace hM := hM.st (t' := (55, [(0, (1, 275))], [(0, 2), (0, 2)], v)) (fun _ _ q => e_Pn.run eAlk 1 rfl q)
            rcases hM.or (fun _ _ q1 q2 => e_Pn.if2 eAlk rfl q1 q2) with ⟨h448, hM⟩ | ⟨h448, hM⟩
            · replace h448 : (2 : Int) ≠ 2 := h448
              exfalso; omega
            · replace h448 : (2 : Int) = 2 := by have q : ¬ ((2 : Int) ≠ 2) := h448; omega
              replace hM := hM.st (t' := (61, [(0, (1, 275))], [(1, 275), (0, 1), (1, 275)], v)) (fun _ _ q => e_Pn.run eAlk 3 rfl q)
              obtain ⟨b449, hM⟩ := hM.of (fun _ _ q => e_Pn.getf (z := v 275 85) eAlk rfl rfl rfl q)
              obtain ⟨dc450, r451, v452, hc453, hM⟩ := hM.ca rfl
              obtain ⟨⟨z454, rfl⟩, v452f⟩ := hc453.pn (fun nq => x_336 h0.1.2.2.2.2.1)
              have v452m := mfr.rf v452f h0.1.2.2.2.2.1
              replace hM : e_Rn 20 elay ecode eI d' 346 (67, [(0, (1, 275))], [(0, z454)], v452) r' v' := hM
              replace hM := hM.st (t' := (69, [(0, (1, 275))], [(1, 275)], v452)) (fun _ _ q => e_Pn.run eAlk 2 rfl q)
              have e456a : w434 1 11 = w434 1 11 := rfl
              have e456b : v452 275 83 = v 275 83 := (v452f 275 83 (by unfold mEm; omega))
              have e456c : w434 1 13 = w434 1 13 := rfl
              have e456d : v452 275 82 = v 275 82 := (v452f 275 82 (by unfold mEm; omega))
              have e456f : w434 1 12 = w434 1 12 := rfl
              have e456e : v452 275 80 = v 275 80 := (v452f 275 80 (by unfold mEm; omega))
              have s455 := st.gen (o' := 0) (l' := w 1 13) (m' := v 275 82) (t' := w 1 12) (b' := 0) s437 (e_fr.refl w434) (e_fr.trans (e_fr.refl v) (e_fr.mono v452f (fun c k q => by unfold mEm at q; unfold mGs; omega))) (by omega) (by omega) (by omega) (by omega)
              have q457 := st.nums s455
              obtain ⟨dc458, r459, v460, hc461, hM⟩ := hM.ca rfl
              refine e_Pn.callA rfl (fun nq dq => t_123b s455.1.1 s455.1.2.1.1 s455.1.2.1.2.1.2.1 (st.nx s455) (d' := dc458) hc461) (fun r462 w463 h464 => ?_)
              obtain ⟨rfl, rfl, h464⟩ := h464
              have s465 := st.ad (k := 2) s455 h464 (st.lenN s455 (by omega) (by omega)) (by omega)
              have s465n := h464.2.2.2.1
              have s465m := st.lenN s455 (by omega) (by omega)
              have q466 := st.nums s465
              show e_Pn 20 elay kcode eI n d 164 (65, [(0, (1, 1))], [], w463) _
              replace hM : e_Rn 20 elay ecode eI d' 346 (72, [(0, (1, 275))], [], v460) r' v' := hM
              refine e_Pn.run (t' := (193, [(0, (1, 1))], [], w463)) kAlk 1 rfl ?_
              replace hM := hM.st (t' := (242, [(0, (1, 275))], [], v460)) (fun _ _ q => e_Pn.run eAlk 1 rfl q)
              obtain ⟨rfl, rfl⟩ := hM.re0 rfl
              refine e_Pn.ret0 rfl ?_
              exact ⟨rfl, rfl, Or.inl ⟨st.re s465 (by omega) (by omega) (by omega) (by omega) (by omega), by omega⟩⟩
          · replace h446 : (0 : Int) ≠ 0 := by have q : ¬ ((0 : Int) = 0) := h446; omega
            exfalso; omega
        · replace h440 : (0 : Int) ≠ 0 := by have q : ¬ ((0 : Int) = 0) := h440; omega
          exfalso; omega
      · replace h424 : (z423 : Int) = 0 := by have q : ¬ ((z423 : Int) ≠ 0) := h424; omega
        refine e_Pn.run (t' := (13, [(1, (0, z423)), (0, (1, 1))], [(1, 1)], w)) kAlk 1 rfl ?_
        refine e_Pn.getr (z := cd) kAlk rfl rfl h0.1.2.2.2.1.2.1 (by omega) ?_
        refine e_Pn.run (t' := (18, [(1, (0, z423)), (0, (1, 1))], [(1, 1), (0, 0), (1, cd)], w)) kAlk 2 rfl ?_
        refine e_Pn.getf (z := w 1 8) kAlk rfl rfl rfl (fun b467 => ?_)
        refine e_Pn.callA rfl (fun nq dq => l_21 h0.1.2.2.2.1 (op := 0) (od := w 1 8) (by omega) (by omega) h0.1.2.2.2.2.2.1) (fun r468 w469 h470 => ?_)
        obtain ⟨z471, rfl, w469f, w469q⟩ := h470
        have w469k := kRw.em h0.1.2.2.2.1 w469f
        have w469l := (emQ.len w469q h0.1.2.2.2.2.2.1).1
        have w469e : w469 1 5 = w 1 5 ∧ w469 1 6 = w 1 6 ∧ w469 1 8 = w 1 8 := ⟨w469f 1 5 (by unfold kEm; omega), w469f 1 6 (by unfold kEm; omega), w469f 1 8 (by unfold kEm; omega)⟩
        have s472 := st.em h0 w469f w469q (by omega) (by unfold isCl3; omega)
        have q473 := st.nums s472
        have z471r : 0 ≤ z471 ∧ z471 ≤ 4000 := emQ.z w469q h0.1.2.2.2.2.2.1
        show e_Pn 20 elay kcode eI nq420 dq421 166 (24, [(1, (0, z423)), (0, (1, 1))], [(0, z471)], w469) _
        refine e_Pn.run (t' := (55, [(1, (0, z423)), (0, (1, 1))], [], w469)) kAlk 2 rfl ?_
        refine e_Pn.ret0 rfl ?_
        show e_Pn 20 elay kcode eI n d 164 (61, [(0, (1, 1))], [], w469) _
        refine e_Pn.run (t' := (62, [(0, (1, 1))], [(1, 1)], w469)) kAlk 1 rfl ?_
        replace hM := hM.st (t' := (1, [(0, (1, 275))], [(1, 275)], v)) (fun _ _ q => e_Pn.run eAlk 1 rfl q)
        obtain ⟨b474, hM⟩ := hM.of (fun _ _ q => e_Pn.getf (z := 0) eAlk rfl rfl h0.1.2.1.1.2 q)
        rcases hM.or (fun _ _ q1 q2 => e_Pn.if1 eAlk rfl q1 q2) with ⟨h475, hM⟩ | ⟨h475, hM⟩
        · replace h475 : (0 : Int) = 0 := h475
          replace hM := hM.st (t' := (11, [(0, (1, 275))], [(0, 45), (1, 275)], v)) (fun _ _ q => e_Pn.run eAlk 2 rfl q)
          obtain ⟨dc476, r477, v478, hc479, hM⟩ := hM.ca rfl
          obtain ⟨z480, rfl, rfl, z480q⟩ := hc479.pn (fun nq => l_331)
          replace z480q := isS (kM_s45 h0.1.2.1.2.2.1) rfl rfl z480q
          obtain rfl : z480 = 0 := by omega
          clear z480q
          replace hM : e_Rn 20 elay ecode eI d' 346 (14, [(0, (1, 275))], [(0, 0)], v) r' v' := hM
          rcases hM.or (fun _ _ q1 q2 => e_Pn.if1 eAlk rfl q1 q2) with ⟨h481, hM⟩ | ⟨h481, hM⟩
          · replace h481 : (0 : Int) = 0 := h481
            replace hM := hM.st (t' := (51, [(0, (1, 275))], [(1, 275)], v)) (fun _ _ q => e_Pn.run eAlk 1 rfl q)
            obtain ⟨b482, hM⟩ := hM.of (fun _ _ q => e_Pn.getf (z := 2) eAlk rfl rfl (kM_k2 h0.1.2.1.2.2.1 (by omega)) q)
            replace hM := hM.st (t' := (55, [(0, (1, 275))], [(0, 2), (0, 2)], v)) (fun _ _ q => e_Pn.run eAlk 1 rfl q)
            rcases hM.or (fun _ _ q1 q2 => e_Pn.if2 eAlk rfl q1 q2) with ⟨h483, hM⟩ | ⟨h483, hM⟩
            · replace h483 : (2 : Int) ≠ 2 := h483
              exfalso; omega
            · replace h483 : (2 : Int) = 2 := by have q : ¬ ((2 : Int) ≠ 2) := h483; omega
              replace hM := hM.st (t' := (61, [(0, (1, 275))], [(1, 275), (0, 1), (1, 275)], v)) (fun _ _ q => e_Pn.run eAlk 3 rfl q)
              obtain ⟨b484, hM⟩ := hM.of (fun _ _ q => e_Pn.getf (z := v 275 85) eAlk rfl rfl rfl q)
              obtain ⟨dc485, r486, v487, hc488, hM⟩ := hM.ca rfl
              obtain ⟨⟨z489, rfl⟩, v487f⟩ := hc488.pn (fun nq => x_336 h0.1.2.2.2.2.1)
              have v487m := mfr.rf v487f h0.1.2.2.2.2.1
              replace hM : e_Rn 20 elay ecode eI d' 346 (67, [(0, (1, 275))], [(0, z489)], v487) r' v' := hM
              replace hM := hM.st (t' := (69, [(0, (1, 275))], [(1, 275)], v487)) (fun _ _ q => e_Pn.run eAlk 2 rfl q)
              have e491a : w469 1 11 = w469 1 11 := rfl
              have e491b : v487 275 83 = v 275 83 := (v487f 275 83 (by unfold mEm; omega))
              have e491c : w469 1 13 = w469 1 13 := rfl
              have e491d : v487 275 82 = v 275 82 := (v487f 275 82 (by unfold mEm; omega))
              have e491f : w469 1 12 = w469 1 12 := rfl
              have e491e : v487 275 80 = v 275 80 := (v487f 275 80 (by unfold mEm; omega))
              have s490 := st.gen (o' := 0) (l' := w 1 13) (m' := v 275 82) (t' := w 1 12) (b' := 0) s472 (e_fr.refl w469) (e_fr.trans (e_fr.refl v) (e_fr.mono v487f (fun c k q => by unfold mEm at q; unfold mGs; omega))) (by omega) (by omega) (by omega) (by omega)
              have q492 := st.nums s490
              obtain ⟨dc493, r494, v495, hc496, hM⟩ := hM.ca rfl
              refine e_Pn.callA rfl (fun nq dq => t_123b s490.1.1 s490.1.2.1.1 s490.1.2.1.2.1.2.1 (st.nx s490) (d' := dc493) hc496) (fun r497 w498 h499 => ?_)
              obtain ⟨rfl, rfl, h499⟩ := h499
              have s500 := st.ad (k := 1) s490 h499 (st.len1 s490 (by omega)) (by omega)
              have s500n := h499.2.2.2.1
              have s500m := st.len1 s490 (by omega)
              have q501 := st.nums s500
              show e_Pn 20 elay kcode eI n d 164 (65, [(0, (1, 1))], [], w498) _
              replace hM : e_Rn 20 elay ecode eI d' 346 (72, [(0, (1, 275))], [], v495) r' v' := hM
              refine e_Pn.run (t' := (193, [(0, (1, 1))], [], w498)) kAlk 1 rfl ?_
              replace hM := hM.st (t' := (242, [(0, (1, 275))], [], v495)) (fun _ _ q => e_Pn.run eAlk 1 rfl q)
              obtain ⟨rfl, rfl⟩ := hM.re0 rfl
              refine e_Pn.ret0 rfl ?_
              exact ⟨rfl, rfl, Or.inl ⟨st.re s500 (by omega) (by omega) (by omega) (by omega) (by omega), by omega⟩⟩
          · replace h481 : (0 : Int) ≠ 0 := by have q : ¬ ((0 : Int) = 0) := h481; omega
            exfalso; omega
        · replace h475 : (0 : Int) ≠ 0 := by have q : ¬ ((0 : Int) = 0) := h475; omega
          exfalso; omega
  · replace h3 : (w 1 5 : Int) = 9 := by have q : ¬ ((w 1 5 : Int) ≠ 9) := h3; omega
    refine e_Pn.run (t' := (10, [(0, (1, 1))], [(1, 1)], w)) kAlk 1 rfl ?_
    replace hM := hM.st (t' := (1, [(0, (1, 275))], [(1, 275)], v)) (fun _ _ q => e_Pn.run eAlk 1 rfl q)
    obtain ⟨b502, hM⟩ := hM.of (fun _ _ q => e_Pn.getf (z := 0) eAlk rfl rfl h0.1.2.1.1.2 q)
    rcases hM.or (fun _ _ q1 q2 => e_Pn.if1 eAlk rfl q1 q2) with ⟨h503, hM⟩ | ⟨h503, hM⟩
    · replace h503 : (0 : Int) = 0 := h503
      replace hM := hM.st (t' := (11, [(0, (1, 275))], [(0, 45), (1, 275)], v)) (fun _ _ q => e_Pn.run eAlk 2 rfl q)
      obtain ⟨dc504, r505, v506, hc507, hM⟩ := hM.ca rfl
      obtain ⟨z508, rfl, rfl, z508q⟩ := hc507.pn (fun nq => l_331)
      replace z508q := isS (kM_s45 h0.1.2.1.2.2.1) rfl rfl z508q
      obtain rfl : z508 = 1 := by omega
      clear z508q
      replace hM : e_Rn 20 elay ecode eI d' 346 (14, [(0, (1, 275))], [(0, 1)], v) r' v' := hM
      rcases hM.or (fun _ _ q1 q2 => e_Pn.if1 eAlk rfl q1 q2) with ⟨h509, hM⟩ | ⟨h509, hM⟩
      · replace h509 : (1 : Int) = 0 := h509
        exfalso; omega
      · replace h509 : (1 : Int) ≠ 0 := by have q : ¬ ((1 : Int) = 0) := h509; omega
        replace hM := hM.st (t' := (18, [(0, (1, 275))], [(1, 275)], v)) (fun _ _ q => e_Pn.run eAlk 1 rfl q)
        obtain ⟨dc510, r511, v512, hc513, hM⟩ := hM.ca rfl
        have uhc513 := hc513.pn (fun nq => u_335 h0.1.2.2.2.2.1)
        refine e_Pn.callA rfl (fun nq dq => e_Pn.and (t_132 h0.1.2.1 (by omega) (d' := dc510) hc513) (u_132 h0.1.2.2.2.1)) (fun r514 w515 h516 => ?_)
        obtain ⟨h516, -, h516k⟩ := h516
        rcases h516.symm with ⟨rfl, rfl, h516F⟩ | ⟨rfl, rfl, h516b, h516w, h516v⟩
        · skip
          replace hM : e_Rn 20 elay ecode eI d' 346 (21, [(0, (1, 275))], [], v512) r' v' := hM
          obtain ⟨rfl, m517⟩ := (e_Rn.le eAlk [0] rfl rfl hM).pn (fun nq => v_346_21 (uhc513.2.rf h0.1.2.2.2.2.1) _  v512 mq.r)
          show e_Pn 20 elay kcode eI n d 164 (13, [(0, (1, 1))], [(0, 0)], w515) _
          refine e_Pn.ord kAlk [0] rfl rfl ((v_164_13 (h516k.rf h0.1.2.2.2.1) _ 0 w515 kq.r).imp (fun r519 w520 k518 => ?_))
          obtain ⟨rfl, k518⟩ := k518
          exact ⟨rfl, rfl, Or.inr (rpF.tail h516F k518 m517)⟩
        have s521 := st.opn h0 h516w.symm h516v.symm (by omega)
        have w515g : e_fr (kGs cd) w w515 := e_fr.up (e_fr.refl w) h516w.symm (by unfold kGs; omega)
        have q522 := st.nums s521
        have s521t : w515 1 5 = w 1 5 := by rw [h516w]; exact e_up_ne _ _ (Or.inr (by decide))
        have t523 : (w515 1 5 : Int) = 9 := by rw [s521t]; exact h3
        show e_Pn 20 elay kcode eI n d 164 (13, [(0, (1, 1))], [(0, 1)], w515) _
        replace hM : e_Rn 20 elay ecode eI d' 346 (21, [(0, (1, 275))], [], v512) r' v' := hM
        refine e_Pn.if1 kAlk rfl (fun h524 => ?_) (fun h524 => ?_)
        · replace h524 : (1 : Int) ≠ 0 := h524
          refine e_Pn.run (t' := (18, [(0, (1, 1))], [(1, 1)], w515)) kAlk 1 rfl ?_
          replace hM := hM.st (t' := (22, [(0, (1, 275))], [(1, 275)], v512)) (fun _ _ q => e_Pn.run eAlk 1 rfl q)
          obtain ⟨dc525, r526, v527, hc528, hM⟩ := hM.ca rfl
          refine e_Pn.callA rfl (fun nq dq => t_123b s521.1.1 s521.1.2.1.1 s521.1.2.1.2.1.2.1 (st.nx s521) (d' := dc525) hc528) (fun r529 w530 h531 => ?_)
          obtain ⟨rfl, rfl, h531⟩ := h531
          have s532 := st.ad (k := 1) s521 h531 (st.len1 s521 (by omega)) (by omega)
          have s532n := h531.2.2.2.1
          have s532m := st.len1 s521 (by omega)
          have q533 := st.nums s532
          show e_Pn 20 elay kcode eI n d 164 (21, [(0, (1, 1))], [], w530) _
          replace hM : e_Rn 20 elay ecode eI d' 346 (25, [(0, (1, 275))], [], v527) r' v' := hM
          refine e_Pn.run (t' := (22, [(0, (1, 1))], [(1, 1)], w530)) kAlk 1 rfl ?_
          replace hM := hM.st (t' := (26, [(0, (1, 275))], [(1, 275)], v527)) (fun _ _ q => e_Pn.run eAlk 1 rfl q)
          obtain ⟨dc534, r535, v536, hc537, hM⟩ := hM.ca rfl
          have uhc537 := hc537.pn (fun nq => uE_all nq 346 (by decide) _ _ s532.1.2.2.2.2.1)
          have z541 : stE N cd w530 v527 := st.zE s532 (by omega) (by omega)
          refine e_Pn.callB rfl (fun k9 hk9 d9 => e_Pn.and (ihG k9 (by omega) 164 346 (by decide) _ _ _ _ _ _ z541 hc537) (kE_all k9 164 (by decide) d9 _ _ s532.1.2.2.2.1)) (fun r538 w539 h540 => ?_)
          obtain ⟨⟨rfl, rfl, h540⟩, -, h540k⟩ := h540
          rcases h540.symm with h540 | ⟨h540, h540p⟩
          · skip
            replace hM : e_Rn 20 elay ecode eI d' 346 (29, [(0, (1, 275))], [], v536) r' v' := hM
            obtain ⟨rfl, m542⟩ := (e_Rn.le eAlk [0] rfl rfl hM).pn (fun nq => v_346_29 (uhc537.2.rf s532.1.2.2.2.2.1) _  v536 mq.r)
            show e_Pn 20 elay kcode eI n d 164 (25, [(0, (1, 1))], [], w539) _
            refine e_Pn.ord kAlk [0] rfl rfl ((v_164_25 (h540k.rf s532.1.2.2.2.1) _  w539 kq.r).imp (fun r544 w545 k543 => ?_))
            obtain ⟨rfl, k543⟩ := k543
            exact ⟨rfl, rfl, Or.inr (rpF.tail h540 k543 m542)⟩
          have s546 := st.re (l' := w 1 13) (m' := v 275 82) (t' := w 1 12) (st.tr s532 h540) (Int.le_refl _) rfl (by omega) (by omega) (by omega)
          have q547 := st.nums s546
          show e_Pn 20 elay kcode eI n d 164 (25, [(0, (1, 1))], [], w539) _
          replace hM : e_Rn 20 elay ecode eI d' 346 (29, [(0, (1, 275))], [], v536) r' v' := hM
          refine e_Pn.run (t' := (27, [(0, (1, 1))], [(1, 1), (1, 1)], w539)) kAlk 2 rfl ?_
          refine e_Pn.getf (z := w539 1 11) kAlk rfl rfl rfl (fun b548 => ?_)
          refine e_Pn.run (t' := (31, [(0, (1, 1))], [(0, 1), (0, w539 1 11), (1, 1)], w539)) kAlk 1 rfl ?_
          refine e_Pn.sub' (z := w539 1 11 - 1) kAlk rfl (by omega) (by omega) ?_
          refine e_Pn.putf kAlk rfl rfl ?_
          generalize hw549 : e_up w539 1 11 (w539 1 11 - 1) = w549
          have w549g : e_fr (kGs cd) w539 w549 := (e_fr.up (e_fr.refl w539) hw549 (by unfold kGs; omega))
          have w549k := kRw.gs s546.1.2.2.2.1 w549g
          have w549l : 0 ≤ w549 cd 0 ∧ w549 cd 0 ≤ 4000 := by rw [w549g cd 0 (by unfold kGs; omega)]; exact s546.1.2.2.2.2.2.1
          have w549e : w549 1 5 = w539 1 5 ∧ w549 1 6 = w539 1 6 ∧ w549 1 8 = w539 1 8 := ⟨w549g 1 5 (by unfold kGs; omega), w549g 1 6 (by unfold kGs; omega), w549g 1 8 (by unfold kGs; omega)⟩
          refine e_Pn.run (t' := (36, [(0, (1, 1))], [(1, 1)], w549)) kAlk 1 rfl ?_
          refine e_Pn.getr (z := cd) kAlk rfl rfl (by rw [← hw549]; exact (e_up_ne _ _ (Or.inr (by omega))).trans s546.1.2.2.2.1.2.1) (by omega) ?_
          refine e_Pn.run (t' := (42, [(0, (1, 1))], [(0, 0), (0, 9), (1, cd)], w549)) kAlk 2 rfl ?_
          refine e_Pn.callA rfl (fun nq dq => l_21 w549k (op := 9) (od := 0) (by omega) (by omega) w549l) (fun r550 w551 h552 => ?_)
          obtain ⟨z553, rfl, w551f, w551q⟩ := h552
          have w551k := kRw.em w549k w551f
          have w551l := (emQ.len w551q w549l).1
          have w551e : w551 1 5 = w549 1 5 ∧ w551 1 6 = w549 1 6 ∧ w551 1 8 = w549 1 8 := ⟨w551f 1 5 (by unfold kEm; omega), w551f 1 6 (by unfold kEm; omega), w551f 1 8 (by unfold kEm; omega)⟩
          have z553r : 0 ≤ z553 ∧ z553 ≤ 4000 := emQ.z w551q w549l
          show e_Pn 20 elay kcode eI n d 164 (45, [(0, (1, 1))], [(0, z553)], w551) _
          refine e_Pn.run (t' := (193, [(0, (1, 1))], [], w551)) kAlk 2 rfl ?_
          replace hM := hM.st (t' := (31, [(0, (1, 275))], [(1, 275), (1, 275)], v536)) (fun _ _ q => e_Pn.run eAlk 2 rfl q)
          obtain ⟨b554, hM⟩ := hM.of (fun _ _ q => e_Pn.getf (z := v536 275 83) eAlk rfl rfl rfl q)
          replace hM := hM.st (t' := (35, [(0, (1, 275))], [(0, 1), (0, v536 275 83), (1, 275)], v536)) (fun _ _ q => e_Pn.run eAlk 1 rfl q)
          replace hM := hM.st (fun _ _ q => e_Pn.sub' (z := v536 275 83 - 1) eAlk rfl (by omega) (by omega) q)
          replace hM := hM.st (fun _ _ q => e_Pn.putf eAlk rfl rfl q)
          generalize hv555 : e_up v536 275 83 (v536 275 83 - 1) = v555 at hM
          have v555m := mRw.upd hv555 (fun _ => by omega) s546.1.2.2.2.2.1
          replace hM := hM.st (t' := (43, [(0, (1, 275))], [(0, 0), (0, 9), (1, 275)], v555)) (fun _ _ q => e_Pn.run eAlk 3 rfl q)
          obtain ⟨dc556, r557, v558, hc559, hM⟩ := hM.ca rfl
          obtain ⟨⟨z560, rfl⟩, v558f⟩ := hc559.pn (fun nq => x_336 v555m)
          have v558m := mfr.rf v558f v555m
          replace hM : e_Rn 20 elay ecode eI d' 346 (46, [(0, (1, 275))], [(0, z560)], v558) r' v' := hM
          replace hM := hM.st (t' := (242, [(0, (1, 275))], [], v558)) (fun _ _ q => e_Pn.run eAlk 2 rfl q)
          have e562a : w549 1 11 = w539 1 11 - 1 := (by rw [← hw549]; exact e_up_eq _ _ _ _)
          have e562b : v558 275 83 = v536 275 83 - 1 := (Eq.trans (v558f 275 83 (by unfold mEm; omega)) (by rw [← hv555]; exact e_up_eq _ _ _ _))
          have e562c : w549 1 13 = w539 1 13 := (by rw [← hw549]; exact e_up_ne _ _ (Or.inr (by omega)))
          have e562d : v558 275 82 = v536 275 82 := (Eq.trans (v558f 275 82 (by unfold mEm; omega)) (show v555 275 82 = v536 275 82 by rw [← hv555]; exact e_up_ne _ _ (Or.inr (by omega))))
          have e562f : w549 1 12 = w539 1 12 := (by rw [← hw549]; exact e_up_ne _ _ (Or.inr (by omega)))
          have e562e : v558 275 80 = v536 275 80 := (Eq.trans (v558f 275 80 (by unfold mEm; omega)) (show v555 275 80 = v536 275 80 by rw [← hv555]; exact e_up_ne _ _ (Or.inr (by omega))))
          have s561 := st.gen (o' := 0) (l' := w 1 13) (m' := v 275 82) (t' := w 1 12) (b' := 0) s546 (e_fr.up (e_fr.refl w539) hw549 (by unfold kGs; omega)) (e_fr.trans (e_fr.up (e_fr.refl v536) hv555 (by unfold mGs; omega)) (e_fr.mono v558f (fun c k q => by unfold mEm at q; unfold mGs; omega))) (by omega) (by omega) (by omega) (by omega)
          have q563 := st.nums s561
          have s564 := st.em s561 w551f w551q (by omega) (by unfold isCl3; omega)
          have q565 := st.nums s564
          obtain ⟨rfl, rfl⟩ := hM.re0 rfl
          refine e_Pn.ret0 rfl ?_
          exact ⟨rfl, rfl, Or.inl ⟨st.re s564 (by omega) (by omega) (by omega) (by omega) (by omega), by omega⟩⟩
        · replace h524 : (1 : Int) = 0 := by have q : ¬ ((1 : Int) ≠ 0) := h524; omega
          exfalso; omega
    · replace h503 : (0 : Int) ≠ 0 := by have q : ¬ ((0 : Int) = 0) := h503; omega
      exfalso; omega
set_option maxHeartbeats 4000000 in
theorem e_165 {n : Nat} {N cd : Int} {w v : eW} (hz : stE N cd w v) (ihG : ∀ k, k < n → eEg k) {d d' : Nat} {r' : List eV} {v' : eW} (hM : e_Rn 20 elay ecode eI d' 345 (0, [(0, (1, 275))], [], v) r' v') : e_Pn 20 elay kcode eI n d 165 (0, [(0, (1, 1))], [], w) (fun r w' => r = [] ∧ r' = [] ∧ ((st N cd w v w' v' 0 0 0 (-1) (w 1 13) (v 275 82) (w 1 12) 2 ∧ w 1 6 < w' 1 6) ∨ rpF w' v')) := by
  have h0 := hz.st (ka := 2)
  have hm := hz.1.2.2.2.1.1.m
  have hn := hz.1.2.2.2.1.1.n
  have hzo := hz.2.2.2
  have q1 := st.nums h0
  refine e_Pn.run (t' := (1, [(0, (1, 1))], [(1, 1)], w)) kAlk 1 rfl ?_
  refine e_Pn.getf (z := w 1 5) kAlk rfl rfl rfl (fun b2 => ?_)
  refine e_Pn.run (t' := (6, [(0, (1, 1))], [(0, 16), (0, w 1 5)], w)) kAlk 1 rfl ?_
  refine e_Pn.if2 kAlk rfl (fun h3 => ?_) (fun h3 => ?_)
  · replace h3 : (w 1 5 : Int) = 16 := h3
    refine e_Pn.run (t' := (15, [(0, (1, 1))], [(1, 1)], w)) kAlk 1 rfl ?_
    replace hM := hM.st (t' := (1, [(0, (1, 275))], [(1, 275)], v)) (fun _ _ q => e_Pn.run eAlk 1 rfl q)
    obtain ⟨b4, hM⟩ := hM.of (fun _ _ q => e_Pn.getf (z := 0) eAlk rfl rfl h0.1.2.1.1.2 q)
    rcases hM.or (fun _ _ q1 q2 => e_Pn.if1 eAlk rfl q1 q2) with ⟨h5, hM⟩ | ⟨h5, hM⟩
    · replace h5 : (0 : Int) ≠ 0 := h5
      exfalso; omega
    · replace h5 : (0 : Int) = 0 := by have q : ¬ ((0 : Int) ≠ 0) := h5; omega
      replace hM := hM.st (t' := (10, [(0, (1, 275))], [(0, 40), (1, 275)], v)) (fun _ _ q => e_Pn.run eAlk 2 rfl q)
      obtain ⟨dc6, r7, v8, hc9, hM⟩ := hM.ca rfl
      obtain ⟨z10, rfl, rfl, z10q⟩ := hc9.pn (fun nq => l_331)
      replace z10q := isS (kM_s40 h0.1.2.1.2.2.1) rfl rfl z10q
      obtain rfl : z10 = 1 := by omega
      clear z10q
      replace hM : e_Rn 20 elay ecode eI d' 345 (13, [(0, (1, 275))], [(0, 1)], v) r' v' := hM
      rcases hM.or (fun _ _ q1 q2 => e_Pn.if1 eAlk rfl q1 q2) with ⟨h11, hM⟩ | ⟨h11, hM⟩
      · replace h11 : (1 : Int) = 0 := h11
        exfalso; omega
      · replace h11 : (1 : Int) ≠ 0 := by have q : ¬ ((1 : Int) = 0) := h11; omega
        replace hM := hM.st (t' := (17, [(0, (1, 275))], [(1, 275)], v)) (fun _ _ q => e_Pn.run eAlk 1 rfl q)
        obtain ⟨dc12, r13, v14, hc15, hM⟩ := hM.ca rfl
        have uhc15 := hc15.pn (fun nq => u_335 h0.1.2.2.2.2.1)
        refine e_Pn.callA rfl (fun nq dq => e_Pn.and (t_132 h0.1.2.1 (by omega) (d' := dc12) hc15) (u_132 h0.1.2.2.2.1)) (fun r16 w17 h18 => ?_)
        obtain ⟨h18, -, h18k⟩ := h18
        rcases h18.symm with ⟨rfl, rfl, h18F⟩ | ⟨rfl, rfl, h18b, h18w, h18v⟩
        · skip
          replace hM : e_Rn 20 elay ecode eI d' 345 (20, [(0, (1, 275))], [], v14) r' v' := hM
          obtain ⟨rfl, m19⟩ := (e_Rn.le eAlk [0] rfl rfl hM).pn (fun nq => v_345_20 (uhc15.2.rf h0.1.2.2.2.2.1) _  v14 mq.r)
          show e_Pn 20 elay kcode eI n d 165 (18, [(0, (1, 1))], [(0, 0)], w17) _
          refine e_Pn.ord kAlk [0] rfl rfl ((v_165_18 (h18k.rf h0.1.2.2.2.1) _ 0 w17 kq.r).imp (fun r21 w22 k20 => ?_))
          obtain ⟨rfl, k20⟩ := k20
          exact ⟨rfl, rfl, Or.inr (rpF.tail h18F k20 m19)⟩
        have s23 := st.opn h0 h18w.symm h18v.symm (by omega)
        have w17g : e_fr (kGs cd) w w17 := e_fr.up (e_fr.refl w) h18w.symm (by unfold kGs; omega)
        have q24 := st.nums s23
        have s23t : w17 1 5 = w 1 5 := by rw [h18w]; exact e_up_ne _ _ (Or.inr (by decide))
        have t25 : (w17 1 5 : Int) = 16 := by rw [s23t]; exact h3
        show e_Pn 20 elay kcode eI n d 165 (18, [(0, (1, 1))], [(0, 1)], w17) _
        replace hM : e_Rn 20 elay ecode eI d' 345 (20, [(0, (1, 275))], [], v14) r' v' := hM
        refine e_Pn.if1 kAlk rfl (fun h26 => ?_) (fun h26 => ?_)
        · replace h26 : (1 : Int) ≠ 0 := h26
          refine e_Pn.run (t' := (23, [(0, (1, 1))], [(1, 1)], w17)) kAlk 1 rfl ?_
          replace hM := hM.st (t' := (24, [(0, (1, 275))], [(0, 40), (1, 275), (1, 275)], v14)) (fun _ _ q => e_Pn.run eAlk 3 rfl q)
          obtain ⟨dc27, r28, v29, hc30, hM⟩ := hM.ca rfl
          obtain ⟨z31, rfl, rfl, z31q⟩ := hc30.pn (fun nq => l_331)
          replace z31q := isS (kM_s40 s23.1.2.1.2.2.1) rfl rfl z31q
          obtain rfl : z31 = 1 := by omega
          clear z31q
          replace hM : e_Rn 20 elay ecode eI d' 345 (27, [(0, (1, 275))], [(0, 1), (1, 275)], v14) r' v' := hM
          obtain ⟨dhc32, r33, v34, hc32, hM⟩ := hM.ca rfl
          replace hc32 : e_Rn 20 elay ecode eI dhc32 334 (0, [(0, (1, 275)), (1, (0, 1))], [], v14) r33 v34 := hc32
          replace hc32 := hc32.st (t' := (1, [(0, (1, 275)), (1, (0, 1))], [(1, 275)], v14)) (fun _ _ q => e_Pn.run eAlk 1 rfl q)
          obtain ⟨b35, hc32⟩ := hc32.of (fun _ _ q => e_Pn.getf (z := 0) eAlk rfl rfl s23.1.2.1.1.2 q)
          rcases hc32.or (fun _ _ q1 q2 => e_Pn.if1 eAlk rfl q1 q2) with ⟨h36, hc32⟩ | ⟨h36, hc32⟩
          · replace h36 : (0 : Int) = 0 := h36
            have kw37 : (w17 1 5 : Int) ≠ 1 := fun e9 => absurd (kM_k1 s23.1.2.1.2.2.1 e9) (by omega)
            replace hc32 := hc32.st (t' := (9, [(0, (1, 275)), (1, (0, 1))], [(0, 1)], v14)) (fun _ _ q => e_Pn.run eAlk 1 rfl q)
            rcases hc32.or (fun _ _ q1 q2 => e_Pn.if1 eAlk rfl q1 q2) with ⟨h38, hc32⟩ | ⟨h38, hc32⟩
            · replace h38 : (1 : Int) = 0 := h38
              exfalso; omega
            · replace h38 : (1 : Int) ≠ 0 := by have q : ¬ ((1 : Int) = 0) := h38; omega
              replace hc32 := hc32.st (t' := (13, [(0, (1, 275)), (1, (0, 1))], [(1, 275)], v14)) (fun _ _ q => e_Pn.run eAlk 1 rfl q)
              obtain ⟨dc39, r40, v41, hc42, hc32⟩ := hc32.ca rfl
              refine e_Pn.callA rfl (fun nq dq => t_123b s23.1.1 s23.1.2.1.1 s23.1.2.1.2.1.2.1 (st.nx s23) (d' := dc39) hc42) (fun r43 w44 h45 => ?_)
              obtain ⟨rfl, rfl, h45⟩ := h45
              have s46 := st.ad (k := 1) s23 h45 (st.len1 s23 (by omega)) (by omega)
              have s46n := h45.2.2.2.1
              have s46m := st.len1 s23 (by omega)
              have q47 := st.nums s46
              show e_Pn 20 elay kcode eI n d 165 (26, [(0, (1, 1))], [], w44) _
              replace hc32 : e_Rn 20 elay ecode eI dhc32 334 (16, [(0, (1, 275)), (1, (0, 1))], [], v41) r33 v34 := hc32
              refine e_Pn.run (t' := (27, [(0, (1, 1))], [(1, 1)], w44)) kAlk 1 rfl ?_
              replace hc32 := hc32.st (t' := (24, [(0, (1, 275)), (1, (0, 1))], [], v41)) (fun _ _ q => e_Pn.run eAlk 1 rfl q)
              obtain ⟨rfl, rfl⟩ := hc32.re0 rfl
              replace hM : e_Rn 20 elay ecode eI d' 345 (30, [(0, (1, 275))], [], v41) r' v' := hM
              replace hM := hM.st (t' := (31, [(0, (1, 275))], [(1, 275)], v41)) (fun _ _ q => e_Pn.run eAlk 1 rfl q)
              obtain ⟨dc48, r49, v50, hc51, hM⟩ := hM.ca rfl
              have uhc51 := hc51.pn (fun nq => uE_all nq 339 (by decide) _ _ s46.1.2.2.2.2.1)
              have z55 : stE N cd w44 v41 := st.zE s46 (by omega) (by omega)
              refine e_Pn.callB rfl (fun k9 hk9 d9 => e_Pn.and (ihG k9 (by omega) 158 339 (by decide) _ _ _ _ _ _ z55 hc51) (kE_all k9 158 (by decide) d9 _ _ s46.1.2.2.2.1)) (fun r52 w53 h54 => ?_)
              obtain ⟨⟨rfl, rfl, h54⟩, -, h54k⟩ := h54
              rcases h54.symm with h54 | ⟨h54, h54p⟩
              · skip
                replace hM : e_Rn 20 elay ecode eI d' 345 (34, [(0, (1, 275))], [], v50) r' v' := hM
                obtain ⟨rfl, m56⟩ := (e_Rn.le eAlk [0] rfl rfl hM).pn (fun nq => v_345_34 (uhc51.2.rf s46.1.2.2.2.2.1) _  v50 mq.r)
                show e_Pn 20 elay kcode eI n d 165 (30, [(0, (1, 1))], [], w53) _
                refine e_Pn.ord kAlk [0] rfl rfl ((v_165_30 (h54k.rf s46.1.2.2.2.1) _  w53 kq.r).imp (fun r58 w59 k57 => ?_))
                obtain ⟨rfl, k57⟩ := k57
                exact ⟨rfl, rfl, Or.inr (rpF.tail h54 k57 m56)⟩
              have s60 := st.re (l' := w 1 13) (m' := v 275 82) (t' := w 1 12) (st.tr s46 h54) (Int.le_refl _) rfl (by omega) (by omega) (by omega)
              have q61 := st.nums s60
              show e_Pn 20 elay kcode eI n d 165 (30, [(0, (1, 1))], [], w53) _
              replace hM : e_Rn 20 elay ecode eI d' 345 (34, [(0, (1, 275))], [], v50) r' v' := hM
              refine e_Pn.run (t' := (33, [(0, (1, 1))], [(0, 17), (1, 1)], w53)) kAlk 2 rfl ?_
              replace hM := hM.st (t' := (38, [(0, (1, 275))], [(0, 41), (1, 275), (1, 275)], v50)) (fun _ _ q => e_Pn.run eAlk 3 rfl q)
              obtain ⟨dc62, r63, v64, hc65, hM⟩ := hM.ca rfl
              obtain ⟨z66, rfl, rfl, z66q⟩ := hc65.pn (fun nq => l_331)
              replace z66q := isS (kM_s41 s60.1.2.1.2.2.1) rfl rfl z66q
              replace hM : e_Rn 20 elay ecode eI d' 345 (41, [(0, (1, 275))], [(0, z66), (1, 275)], v50) r' v' := hM
              obtain ⟨dc67, r68, v69, hc70, hM⟩ := hM.ca rfl
              have uhc70 := hc70.pn (fun nq => u_334 s60.1.2.2.2.2.1)
              refine e_Pn.callA rfl (fun nq dq => e_Pn.and (t_129b s60.1.1 s60.1.2.1 z66q (d' := dc67) hc70) (u_129 s60.1.2.2.2.1)) (fun r71 w72 h73 => ?_)
              obtain ⟨⟨rfl, rfl, h73⟩, -, h73k⟩ := h73
              rcases h73.symm with h73 | ⟨h73c, h73⟩
              · skip
                replace hM : e_Rn 20 elay ecode eI d' 345 (44, [(0, (1, 275))], [], v69) r' v' := hM
                obtain ⟨rfl, m74⟩ := (e_Rn.le eAlk [0] rfl rfl hM).pn (fun nq => v_345_44 (uhc70.2.rf s60.1.2.2.2.2.1) _  v69 mq.r)
                show e_Pn 20 elay kcode eI n d 165 (36, [(0, (1, 1))], [], w72) _
                refine e_Pn.ord kAlk [0] rfl rfl ((v_165_36 (h73k.rf s60.1.2.2.2.1) _  w72 kq.r).imp (fun r76 w77 k75 => ?_))
                obtain ⟨rfl, k75⟩ := k75
                exact ⟨rfl, rfl, Or.inr (rpF.tail h73 k75 m74)⟩
              have s78 := st.ad (k := 1) s60 h73 (st.len1 s60 (by omega)) (by omega)
              have s78n := h73.2.2.2.1
              have s78m := st.len1 s60 (by omega)
              have q79 := st.nums s78
              show e_Pn 20 elay kcode eI n d 165 (36, [(0, (1, 1))], [], w72) _
              replace hM : e_Rn 20 elay ecode eI d' 345 (44, [(0, (1, 275))], [], v69) r' v' := hM
              refine e_Pn.run (t' := (38, [(0, (1, 1))], [(1, 1), (1, 1)], w72)) kAlk 2 rfl ?_
              refine e_Pn.getf (z := w72 1 11) kAlk rfl rfl rfl (fun b80 => ?_)
              refine e_Pn.run (t' := (42, [(0, (1, 1))], [(0, 1), (0, w72 1 11), (1, 1)], w72)) kAlk 1 rfl ?_
              refine e_Pn.sub' (z := w72 1 11 - 1) kAlk rfl (by omega) (by omega) ?_
              refine e_Pn.putf kAlk rfl rfl ?_
              generalize hw81 : e_up w72 1 11 (w72 1 11 - 1) = w81
              have w81g : e_fr (kGs cd) w72 w81 := (e_fr.up (e_fr.refl w72) hw81 (by unfold kGs; omega))
              have w81k := kRw.gs s78.1.2.2.2.1 w81g
              have w81l : 0 ≤ w81 cd 0 ∧ w81 cd 0 ≤ 4000 := by rw [w81g cd 0 (by unfold kGs; omega)]; exact s78.1.2.2.2.2.2.1
              have w81e : w81 1 5 = w72 1 5 ∧ w81 1 6 = w72 1 6 ∧ w81 1 8 = w72 1 8 := ⟨w81g 1 5 (by unfold kGs; omega), w81g 1 6 (by unfold kGs; omega), w81g 1 8 (by unfold kGs; omega)⟩
              replace hM := hM.st (t' := (46, [(0, (1, 275))], [(1, 275), (1, 275)], v69)) (fun _ _ q => e_Pn.run eAlk 2 rfl q)
              obtain ⟨b82, hM⟩ := hM.of (fun _ _ q => e_Pn.getf (z := v69 275 83) eAlk rfl rfl rfl q)
              replace hM := hM.st (t' := (50, [(0, (1, 275))], [(0, 1), (0, v69 275 83), (1, 275)], v69)) (fun _ _ q => e_Pn.run eAlk 1 rfl q)
              replace hM := hM.st (fun _ _ q => e_Pn.sub' (z := v69 275 83 - 1) eAlk rfl (by omega) (by omega) q)
              replace hM := hM.st (fun _ _ q => e_Pn.putf eAlk rfl rfl q)
              generalize hv83 : e_up v69 275 83 (v69 275 83 - 1) = v83 at hM
              have v83m := mRw.upd hv83 (fun _ => by omega) s78.1.2.2.2.2.1
              have e85a : w81 1 11 = w72 1 11 - 1 := (by rw [← hw81]; exact e_up_eq _ _ _ _)
              have e85b : v83 275 83 = v69 275 83 - 1 := (by rw [← hv83]; exact e_up_eq _ _ _ _)
              have e85c : w81 1 13 = w72 1 13 := (by rw [← hw81]; exact e_up_ne _ _ (Or.inr (by omega)))
              have e85d : v83 275 82 = v69 275 82 := (by rw [← hv83]; exact e_up_ne _ _ (Or.inr (by omega)))
              have e85f : w81 1 12 = w72 1 12 := (by rw [← hw81]; exact e_up_ne _ _ (Or.inr (by omega)))
              have e85e : v83 275 80 = v69 275 80 := (by rw [← hv83]; exact e_up_ne _ _ (Or.inr (by omega)))
              have s84 := st.gen (o' := 0) (l' := w 1 13) (m' := v 275 82) (t' := w 1 12) (b' := 0) s78 (e_fr.up (e_fr.refl w72) hw81 (by unfold kGs; omega)) (e_fr.up (e_fr.refl v69) hv83 (by unfold mGs; omega)) (by omega) (by omega) (by omega) (by omega)
              have q86 := st.nums s84
              obtain ⟨rfl, rfl⟩ := hM.re0 rfl
              refine e_Pn.ret0 rfl ?_
              exact ⟨rfl, rfl, Or.inl ⟨st.re s84 (by omega) (by omega) (by omega) (by omega) (by omega), by omega⟩⟩
          · replace h36 : (0 : Int) ≠ 0 := by have q : ¬ ((0 : Int) = 0) := h36; omega
            exact (kM_no s23.1.2.1.2.2.1 (fun a b => decide ((a : Int) = 16) && decide ((0 : Int) ≠ 0)) (fun a b c => true) (by decide) (by decide) (by simp only [Bool.and_eq_true, decide_eq_true_eq]; exact ⟨t25, h36⟩) rfl).elim
        · replace h26 : (1 : Int) = 0 := by have q : ¬ ((1 : Int) ≠ 0) := h26; omega
          exfalso; omega
  · replace h3 : (w 1 5 : Int) ≠ 16 := by have q : ¬ ((w 1 5 : Int) = 16) := h3; omega
    refine e_Pn.run (t' := (10, [(0, (1, 1))], [(1, 1)], w)) kAlk 1 rfl ?_
    replace hM := hM.st (t' := (1, [(0, (1, 275))], [(1, 275)], v)) (fun _ _ q => e_Pn.run eAlk 1 rfl q)
    obtain ⟨b87, hM⟩ := hM.of (fun _ _ q => e_Pn.getf (z := 0) eAlk rfl rfl h0.1.2.1.1.2 q)
    rcases hM.or (fun _ _ q1 q2 => e_Pn.if1 eAlk rfl q1 q2) with ⟨h88, hM⟩ | ⟨h88, hM⟩
    · replace h88 : (0 : Int) ≠ 0 := h88
      exfalso; omega
    · replace h88 : (0 : Int) = 0 := by have q : ¬ ((0 : Int) ≠ 0) := h88; omega
      replace hM := hM.st (t' := (10, [(0, (1, 275))], [(0, 40), (1, 275)], v)) (fun _ _ q => e_Pn.run eAlk 2 rfl q)
      obtain ⟨dc89, r90, v91, hc92, hM⟩ := hM.ca rfl
      obtain ⟨z93, rfl, rfl, z93q⟩ := hc92.pn (fun nq => l_331)
      replace z93q := isS (kM_s40 h0.1.2.1.2.2.1) rfl rfl z93q
      obtain rfl : z93 = 0 := by omega
      clear z93q
      replace hM : e_Rn 20 elay ecode eI d' 345 (13, [(0, (1, 275))], [(0, 0)], v) r' v' := hM
      rcases hM.or (fun _ _ q1 q2 => e_Pn.if1 eAlk rfl q1 q2) with ⟨h94, hM⟩ | ⟨h94, hM⟩
      · replace h94 : (0 : Int) = 0 := h94
        replace hM := hM.st (t' := (24, [(0, (1, 275))], [(0, 40), (1, 275), (1, 275)], v)) (fun _ _ q => e_Pn.run eAlk 3 rfl q)
        obtain ⟨dc95, r96, v97, hc98, hM⟩ := hM.ca rfl
        obtain ⟨z99, rfl, rfl, z99q⟩ := hc98.pn (fun nq => l_331)
        replace z99q := isS (kM_s40 h0.1.2.1.2.2.1) rfl rfl z99q
        obtain rfl : z99 = 0 := by omega
        clear z99q
        replace hM : e_Rn 20 elay ecode eI d' 345 (27, [(0, (1, 275))], [(0, 0), (1, 275)], v) r' v' := hM
        obtain ⟨dhc100, r101, v102, hc100, hM⟩ := hM.ca rfl
        replace hc100 : e_Rn 20 elay ecode eI dhc100 334 (0, [(0, (1, 275)), (1, (0, 0))], [], v) r101 v102 := hc100
        replace hc100 := hc100.st (t' := (1, [(0, (1, 275)), (1, (0, 0))], [(1, 275)], v)) (fun _ _ q => e_Pn.run eAlk 1 rfl q)
        obtain ⟨b103, hc100⟩ := hc100.of (fun _ _ q => e_Pn.getf (z := 0) eAlk rfl rfl h0.1.2.1.1.2 q)
        rcases hc100.or (fun _ _ q1 q2 => e_Pn.if1 eAlk rfl q1 q2) with ⟨h104, hc100⟩ | ⟨h104, hc100⟩
        · replace h104 : (0 : Int) = 0 := h104
          replace hc100 := hc100.st (t' := (9, [(0, (1, 275)), (1, (0, 0))], [(0, 0)], v)) (fun _ _ q => e_Pn.run eAlk 1 rfl q)
          rcases hc100.or (fun _ _ q1 q2 => e_Pn.if1 eAlk rfl q1 q2) with ⟨h106, hc100⟩ | ⟨h106, hc100⟩
          · replace h106 : (0 : Int) = 0 := h106
            replace hc100 := hc100.st (t' := (21, [(0, (1, 275)), (1, (0, 0))], [(0, 2), (1, 275)], v)) (fun _ _ q => e_Pn.run eAlk 2 rfl q)
            obtain ⟨dc108, r109, v110, hc111, hc100⟩ := hc100.ca rfl
            have uhc111 := hc111.pn (fun nq => u_333 h0.1.2.2.2.2.1)
            refine e_Pn.callA rfl (fun nq dq => e_Pn.and (t_130 h0.1.2.1 (x := 2) (by decide) (d' := dc108) hc111) (u_130 h0.1.2.2.2.1)) (fun r112 w113 h114 => ?_)
            obtain ⟨⟨rfl, rfl, h114⟩, -, h114k⟩ := h114
            replace hc100 : e_Rn 20 elay ecode eI dhc100 334 (24, [(0, (1, 275)), (1, (0, 0))], [], v110) r101 v102 := hc100
            obtain ⟨rfl, m115⟩ := (e_Rn.le eAlk [0, 1] rfl rfl hc100).pn (fun nq => v_334_24 (uhc111.2.rf h0.1.2.2.2.2.1) _ 0 v110 mq.r)
            replace hM : e_Rn 20 elay ecode eI d' 345 (30, [(0, (1, 275))], [], v102) r' v' := hM
            obtain ⟨rfl, m116⟩ := (e_Rn.le eAlk [0] rfl rfl hM).pn (fun nq => v_345_30 (m115.rf (uhc111.2.rf h0.1.2.2.2.2.1)) _  v102 mq.r)
            show e_Pn 20 elay kcode eI n d 165 (13, [(0, (1, 1))], [], w113) _
            refine e_Pn.ord kAlk [0] rfl rfl ((v_165_13 (h114k.rf h0.1.2.2.2.1) _  w113 kq.r).imp (fun r118 w119 k117 => ?_))
            obtain ⟨rfl, k117⟩ := k117
            exact ⟨rfl, rfl, Or.inr (rpF.tail h114 k117 (m115.tr m116))⟩
          · replace h106 : (0 : Int) ≠ 0 := by have q : ¬ ((0 : Int) = 0) := h106; omega
            exfalso; omega
        · replace h104 : (0 : Int) ≠ 0 := by have q : ¬ ((0 : Int) = 0) := h104; omega
          exfalso; omega
      · replace h94 : (0 : Int) ≠ 0 := by have q : ¬ ((0 : Int) = 0) := h94; omega
        exfalso; omega
theorem eEg_all : ∀ n, eEg n := fun n => Nat.strongRecOn n (fun n ih a b hM => by
  unfold eEgL at hM
  simp only [List.mem_cons, List.not_mem_nil, or_false, Prod.mk.injEq] at hM
  rcases hM with ⟨rfl, rfl⟩ | ⟨rfl, rfl⟩ | ⟨rfl, rfl⟩ | ⟨rfl, rfl⟩ | ⟨rfl, rfl⟩ | ⟨rfl, rfl⟩ | ⟨rfl, rfl⟩
  · exact fun N cd d d' w v r' v' hz hM => e_158 hz (fun k hk => ih k hk) hM
  · exact fun N cd d d' w v r' v' hz hM => e_159 hz (fun k hk => ih k hk) hM
  · exact fun N cd d d' w v r' v' hz hM => e_160 hz (fun k hk => ih k hk) hM
  · exact fun N cd d d' w v r' v' hz hM => e_162 hz (fun k hk => ih k hk) hM
  · exact fun N cd d d' w v r' v' hz hM => e_163 hz (fun k hk => ih k hk) hM
  · exact fun N cd d d' w v r' v' hz hM => e_164 hz (fun k hk => ih k hk) hM
  · exact fun N cd d d' w v r' v' hz hM => e_165 hz (fun k hk => ih k hk) hM)
end
