noncomputable section
/-! the machine does what a table with macros says, from every contents that know more -/
def e_Mac (fd : Nat) (ft : Nat → Nat → Nat) (cl : List vw_C) (lay : List eY) (q : xM) (l : Launch) (pc : Nat) (f : eS → Option eS) : Prop :=
  ∀ {d : Nat} {ad : List Nat} {ce sl : Nat} {p : Program} {e : Env} {R : Room} {s : State} {m : MethodId} {args : Array Value} {below : List Frame} {meth : Method} {c : Code} {D : va_G} {A : Nat → Prop} {H0 : Heap} {Q : State → Prop},
    fd ≤ d → x_Cx (xm_b q) (xm_y q).cls (xm_l q) (xm_y q).name (xm_c q) (xm_s q) p R s m args meth c → ce ≤ xm_c q → sl ≤ xm_s q → d ≤ R.frames → 64 * d ≤ R.locals → (∀ q : Nat, H0.size ≤ q → A q) →
    ∀ (t t' : eS) (l' : eL) (u : eW), t.1 = pc → f t = some t' → e_sub t.2.1 l' → e_rf t.2.2.2 u → (∀ (l1 : eL) (u1 : eW), e_sub t'.2.1 l1 → e_rf t'.2.2.2 u1 → e_Good ft cl lay ad ce sl (xm_l q) p l e R s m args below meth c D A H0 Q (t'.1, l1, t'.2.2.1, u1)) → e_Good ft cl lay ad ce sl (xm_l q) p l e R s m args below meth c D A H0 Q (t.1, l', t.2.2.1, u)
def e_EOR (fd : Nat) (ft : Nat → Nat → Nat) (cl : List vw_C) (lay : List eY) (I : Nat → xM) (q : xM) (l : Launch) (pc : Nat) (en : eE) : Prop := match en with
  | (0, f, _, _) => (e_Snd ft cl lay (xm_b q) (xm_y q).cls (xm_l q) (xm_y q).name (xm_c q) (xm_s q) pc f ∧ e_NI lay f) ∨ e_Mac fd ft cl lay q l pc f
  | (1, _, k, _) => x_Rt (xm_b q) (xm_r q) pc k
  | (2, _, M', na) => x_Cl (xm_b q) (xm_y q).cls (xm_l q) (xm_y q).name (xm_c q) (xm_s q) pc (I M') na
  | _ => True
def e_TabR (fd : Nat) (ft : Nat → Nat → Nat) (cl : List vw_C) (lay : List eY) (I : Nat → xM) (code : Nat → Nat → eE) (l : Launch) : Prop :=
  1 ≤ fd ∧ (∀ M pc, e_EOR fd ft cl lay I (I M) l pc (code M pc)) ∧ (∀ M, plainName (xm_y (I M)).cls = true) ∧ (∀ M, xm_o (I M) ≠ 999 → (xm_o (I M) = 998 ∧ (xm_y (I M)).cls = "java/lang/String" ∧ ∀ (k n : Nat), lay[k]? ≠ some (0, 998, n)) ∨ (xm_o (I M) ≠ 998 ∧ ∃ r, cl[xm_o (I M)]? = some r ∧ r.1 = (xm_y (I M)).cls))
def e_QR (ft : Nat → Nat → Nat) (cl : List vw_C) (lay : List eY) (ad : List Nat) (D : va_G) (ws0 : va_W) (sz : Nat) (r : List eV) (Wc : eW → Prop) : Array Value → State → Outcome → State → Prop := fun _ st oc t =>
  (∃ (v : Option Value) (ws : va_W) (tys : List (ClassId × FieldType)) (w : eW), Wc w ∧ oc = .returned v ∧ x_all2 (e_rel ad) r v.toList ∧ e_world ft cl lay ad tys w ws ∧ va_K D cl tys t ∧ va_P D cl ws t.heap ∧ va_D (va_A ws0 sz) ws) ∧ va_F (va_A ws0 sz) st t
def e_MetR (ft : Nat → Nat → Nat) (cl : List vw_C) (lay : List eY) (I : Nat → xM) (l : Launch) (d M : Nat) (as : List eV) (w : eW) (r : List eV) (Wc : eW → Prop) : Prop :=
  ∀ (ad : List Nat) (D : va_G) (ws : va_W) (tys : List (ClassId × FieldType)) (vs : List Value) (sz : Nat), x_all2 (e_rel ad) as vs → e_world ft cl lay ad tys w ws →
    Met l (xm_y (I M)) (x_ws (I M)) (x_rm d (I M)) (va_Pc vs (fun U => U.heap.size = sz ∧ va_P D cl ws U.heap ∧ va_K D cl tys U ∧ va_D (fun _ => True) ws ∧ x_Ex U ∧ e_Old ad (va_A ws sz) U U.heap)) (e_QR ft cl lay ad D ws sz r Wc) (xm_c (I M)) (xm_s (I M)) (va_A ws sz)
def e_FrmR (fd : Nat) (ft : Nat → Nat → Nat) (cl : List vw_C) (lay : List eY) (I : Nat → xM) (code : Nat → Nat → eE) (l : Launch) (n : Nat) : Prop :=
  ∀ (d M : Nat) (t : eS) (r : List eV) (w' : eW), fd ≤ d → e_go fd lay code I n d M t = some (r, w') → ∀ (l' : eL) (u : eW), e_sub t.2.1 l' → e_rf t.2.2.2 u → ∀ {ad : List Nat} {ce sl : Nat} {p : Program} {e : Env} {R : Room} {s : State} {m : MethodId} {args : Array Value} {below : List Frame} {meth : Method} {c : Code} {D : va_G} {A : Nat → Prop} {H0 : Heap} {Q : State → Prop},
    x_Cx (xm_b (I M)) (xm_y (I M)).cls (xm_l (I M)) (xm_y (I M)).name (xm_c (I M)) (xm_s (I M)) p R s m args meth c → ce ≤ xm_c (I M) → sl ≤ xm_s (I M) → d ≤ R.frames → 64 * d ≤ R.locals → (∀ q : Nat, H0.size ≤ q → A q) →
    (∀ (t' : eS) (f : eS → Option eS) (k b : Nat), code M t'.1 = (1, f, k, b) → e_retv k t'.2.2.1 = some r → e_rf w' t'.2.2.2 → e_Good ft cl lay ad ce sl (xm_l (I M)) p l e R s m args below meth c D A H0 Q t') → e_Good ft cl lay ad ce sl (xm_l (I M)) p l e R s m args below meth c D A H0 Q (t.1, l', t.2.2.1, u)
section EDZ
variable {fd : Nat} {ft : Nat → Nat → Nat} {cl : List vw_C} {lay : List eY} {I : Nat → xM} {code : Nat → Nat → eE} {l : Launch}
theorem e_met_ofR (hT : e_TabR fd ft cl lay I code l) {n : Nat} (hF : e_FrmR fd ft cl lay I code l n) {d M : Nat} {as : List eV} {w : eW} {r : List eV} {w' : eW} (hd : fd ≤ d) (hl : e_cats as ≤ xm_l (I M)) (h : e_go fd lay code I n d M (0, e_ent 0 as, [], w) = some (r, w')) {u : eW} (hu : e_rf w u) : e_MetR ft cl lay I l d M as u r (fun u' => e_rf w' u') := by
  intro ad D ws tys vs sz has hw
  refine Met.ofW (cc := xm_b (I M)) (maxL := xm_l (I M)) (ret := xm_r (I M)) (hT.2.2.1 M) rfl ?_
  intro p e s m args below meth c s₁ B hml hv
  obtain ⟨rfl, hsz, hP, hK, hD0, hEx, hOld⟩ := hv
  have hx := B.exec
  have hb := B.bytes
  have hr := B.returns
  have hts := atoms_spec (ws := x_ws (I M)) B.pre
  have hown : s.vm.findClass (xm_y (I M)).cls = some m.cls := findClass_of_methodNamed B.named
  have hlocks := B.notSynchronized
  have hin : meth.name = (xm_y (I M)).name := (name_of_methodNamed B.named B.method).1
  subst hsz
  have hD := hD0.self (sz := s.heap.size)
  have hA : ∀ q : Nat, s.heap.size ≤ q → va_A ws s.heap.size q := fun q h => Or.inr h
  rw [lg_entry_eq]
  have hle : (lg_sl vs).length ≤ xm_l (I M) := by rw [(e_cats_ok has).2]; exact hl
  refine hF d M _ r w' hd h (e_ent 0 as) u (e_sub.ent as) hu (ce := 0) (sl := 0) (D := D) (A := va_A ws s.heap.size) (H0 := s.heap) ⟨⟨hx, hb, hml, hown, fun w hw => hts w (List.mem_cons_of_mem _ hw)⟩, hin, rfl, rfl, by show 1 ≤ d; have := hT.1; omega, by show 32 ≤ 64 * d; have := hT.1; omega, hEx⟩ (Nat.zero_le _) (Nat.zero_le _) (Nat.le_refl d) (Nat.le_refl (64 * d)) hA ?_ _ [] s.heap [] ⟨lv_args 0 vs, ws, tys, lv_entry vs hle, e_ent_ok 0 has, trivial, hw, ⟨hK, hOld⟩, hP, hD, va_S.rf⟩
  intro t f k b hc hlf hw' ls' stk H locs hI
  obtain ⟨lv, ws', tys', h1, h2, h3, h4, h5, h6, h7, h8⟩ := hI
  have hE := hT.2.1 M t.1
  rw [hc] at hE
  replace hE : x_Rt (xm_b (I M)) (xm_r (I M)) t.1 k := hE
  refine W.widen (k := xm_c (I M)) (n := xm_s (I M)) (Nat.zero_le _) (Nat.zero_le _) ?_
  have fin : ∀ (v : Option Value) (T : State), x_all2 (e_rel ad) r v.toList → T.heap = H → s.WarmedH T.vm → e_QR ft cl lay ad D ws s.heap.size r (fun u' => e_rf w' u') vs.toArray s (.returned v) T := by
    intro v T hr hTh hW
    exact ⟨⟨v, ws', tys', t.2.2.2, hw', rfl, hr, h4, va_K.moved hW.alike h5.1, by rw [hTh]; exact h6, h7⟩, h8.F hTh⟩
  unfold e_retv at hlf
  split at hlf
  · rename_i hst
    cases hlf
    rw [hst] at h3
    match stk, h3 with
    | [], _ =>
      obtain ⟨g1, g2⟩ := hE
      exact W.vret hx hb (by rw [hr, g2]) (fun T hTh hW => fin none T trivial hTh hW) h8.2.2 g1
  · rename_i x hst
    cases hy : Nat.beq (e_ty x) 0 with
    | false => rw [hy] at hlf; cases hlf
    | true =>
      rw [hy] at hlf
      cases hlf
      rw [hst] at h3
      match stk, h3 with
      | [v], h3 =>
        obtain ⟨g1, g2⟩ := hE
        have hk := e_ty_ok h3.1
        rw [Nat.eq_of_beq_eq_true hy] at hk
        obtain ⟨z, rfl⟩ := hk
        exact W.iret hx hb (by rw [hr, g2]) (fun T hTh hW => fin (some (.int z)) T h3 hTh hW) h8.2.2 g1
  · rename_i x hst
    cases hy : Nat.beq (e_ty x) 1 with
    | false => rw [hy] at hlf; cases hlf
    | true =>
      rw [hy] at hlf
      cases hlf
      rw [hst] at h3
      match stk, h3 with
      | [v], h3 =>
        obtain ⟨g1, g2⟩ := hE
        have hk := e_ty_ok h3.1
        rw [Nat.eq_of_beq_eq_true hy] at hk
        obtain ⟨z, rfl⟩ := hk
        exact W.lret hx hb (by rw [hr, g2]) (fun T hTh hW => fin (some (.long z)) T h3 hTh hW) h8.2.2 g1
  · rename_i x hst
    cases hy : Nat.beq (e_ty x) 2 with
    | false => rw [hy] at hlf; cases hlf
    | true =>
      rw [hy] at hlf
      cases hlf
      rw [hst] at h3
      match stk, h3 with
      | [v], h3 =>
        obtain ⟨g1, rt, g2, g3⟩ := hE
        have hk := e_ty_ok h3.1
        rw [Nat.eq_of_beq_eq_true hy] at hk
        exact W.aret hx hb (by rw [hr, g2]) g3 hk (fun T hTh hW => fin (some v) T h3 hTh hW) h8.2.2 g1
  · rename_i x hst
    cases hy : e_pk 1 x with
    | false => rw [hy] at hlf; cases hlf
    | true =>
      rw [hy] at hlf
      cases hlf
      rw [hst] at h3
      match stk, h3 with
      | [v], h3 =>
        obtain ⟨g1, g2⟩ := hE
        have hk : v = .int 0 ∨ v = .int 1 := e_pk_ok h3.1 hy
        rcases hk with rfl | rfl
        · exact W.zret hx hb (by rw [hr, g2]) (by decide) (fun T hTh hW => fin (some (.int 0)) T h3 hTh hW) h8.2.2 g1
        · exact W.zret hx hb (by rw [hr, g2]) (by decide) (fun T hTh hW => fin (some (.int 1)) T h3 hTh hW) h8.2.2 g1
  · rename_i x hst
    cases hy : e_pc x with
    | false => rw [hy] at hlf; cases hlf
    | true =>
      rw [hy] at hlf
      cases hlf
      rw [hst] at h3
      match stk, h3 with
      | [v], h3 =>
        obtain ⟨g1, g2⟩ := hE
        obtain ⟨z, rfl, n1, n2⟩ := e_pc_ok h3.1 hy
        rcases g2 with g2 | g2
        · exact W.zret hx hb (by rw [hr, g2]) n1 (fun T hTh hW => fin (some (.int z)) T h3 hTh hW) h8.2.2 g1
        · exact W.zret hx hb (by rw [hr, g2]) n2 (fun T hTh hW => fin (some (.int z)) T h3 hTh hW) h8.2.2 g1
  · cases hlf
/-- a call of a method of which it is known what it does -/
theorem e_callR (hT : e_TabR fd ft cl lay I code l) {d' M M' na : Nat} {t : eS} {r : List eV} {Wc : eW → Prop} (hE : x_Cl (xm_b (I M)) (xm_y (I M)).cls (xm_l (I M)) (xm_y (I M)).name (xm_c (I M)) (xm_s (I M)) t.1 (I M') na) (hb : e_may fd lay d' M' na (I M') t.2.2.1 (t.2.2.1.take na).reverse (t.2.2.1.drop na) = true) (hMet : e_MetR ft cl lay I l d' M' (t.2.2.1.take na).reverse t.2.2.2 r Wc)
    {ad : List Nat} {ce sl : Nat} {p : Program} {e : Env} {R : Room} {s : State} {m : MethodId} {args : Array Value} {below : List Frame} {meth : Method} {c : Code} {D : va_G} {A : Nat → Prop} {H0 : Heap} {Q : State → Prop} (C : x_Cx (xm_b (I M)) (xm_y (I M)).cls (xm_l (I M)) (xm_y (I M)).name (xm_c (I M)) (xm_s (I M)) p R s m args meth c) (hce : ce ≤ xm_c (I M)) (hsl : sl ≤ xm_s (I M)) (hd : d' + 1 ≤ R.frames) (hdl : 64 * (d' + 1) ≤ R.locals) (hA : ∀ q : Nat, H0.size ≤ q → A q)
    (hgo : ∀ u', Wc u' → e_Good ft cl lay ad ce sl (xm_l (I M)) p l e R s m args below meth c D A H0 Q (t.1 + 3, t.2.1, r ++ t.2.2.1.drop na, u')) : e_Good ft cl lay ad ce sl (xm_l (I M)) p l e R s m args below meth c D A H0 Q t := by
  obtain ⟨h64, hE⟩ := hE
  unfold e_may at hb
  simp only [Bool.and_eq_true] at hb
  obtain ⟨b1, b2, b3, b4, b5, b6, b7, b8⟩ := hb
  have b1 := Nat.le_of_ble_eq_true b1
  have b2 := Nat.le_of_ble_eq_true b2
  have b3 := Nat.le_of_ble_eq_true b3
  have b4 := Nat.le_of_ble_eq_true b4
  have b5 := Nat.le_of_ble_eq_true b5
  have b6 := Nat.eq_of_beq_eq_true b6
  have b7 := Nat.eq_of_beq_eq_true b7
  intro lsl stk H locs hI
  obtain ⟨lv, ws, tys, h1, h2, h3, h4, h5, h6, h7, h8⟩ := hI
  have hspl := x_split na h3
  have hargs := x_all2_rev hspl.1
  have hM := hMet ad D ws tys (stk.take na).reverse H.size hargs h4
  have hlen : stk.length = t.2.2.1.length := (x_all2_len h3).symm
  have hvA : ∀ q : Nat, va_A ws H.size q → A q := by
    intro q hq
    rcases hq with ⟨k, e9, hk⟩ | hq
    · exact h7.2 k _ hk
    · exact hA q (Nat.le_trans h8.1 hq)
  have hrun := hE (e := e) (below := below) C (H := H) (locs := locs) (cells := ce) (slots := sl) (ls := lsl) (rest := stk.drop na) hM
    (fun a U g mk q => by obtain ⟨q0, q1, qP, qK, qD, qE, qO⟩ := q; exact ⟨q0, q1, qP, va_K.moved (u := U) (U := U.calling g mk a) (Vm.Alike.refl U.vm) qK, qD, qE.same (U := U.calling g mk a) rfl, qO.same (U := U.calling g mk a) rfl⟩)
    (fun U hU hW => ⟨rfl, by rw [hU], by rw [hU]; exact h6, va_K.moved hW.alike h5.1, h7.weaken (fun _ _ _ _ => trivial), C.2.2.2.2.2.2.warm hW, by rw [hU]; exact ((h5.2.kept h8.2.1).narrow hvA).warm hW⟩)
    (by
      by_cases ho : xm_o (I M') = 999
      · exact Or.inl ho
      · refine Or.inr ?_
        unfold e_rcv at b8
        rw [x_nb ho] at b8
        simp only [cond_false] at b8
        split at b8
        · rename_i j as' has'
          split at b8
          · rename_i c9 r9 hcell
            have e9 := Nat.eq_of_beq_eq_true b8
            rw [has'] at hargs
            match hv : (stk.take na).reverse, hargs with
            | v :: As, hargs =>
              obtain ⟨a, ee, hq, rfl, hcc, -⟩ := e_ref h4 hargs.1 hcell
              obtain ⟨fs, rfl, -, -⟩ := hcc
              rcases hT.2.2.2 M' ho with ⟨h998, -, hno⟩ | ⟨-, r, hr1, hr2⟩
              · rw [e9, h998] at hcell
                exact absurd hcell (hno _ _)
              · rw [← e9] at hr1
                obtain ⟨cellB, k1, k2, k3⟩ := va_recv h5.1 h6 hr1 hq
                exact ⟨a, As, rfl, cellB, k1, k2, by rw [← hr2]; exact k3⟩
          · simp only [Bool.and_eq_true, Bool.or_eq_true, decide_eq_true_eq] at b8
            have e9 := Nat.eq_of_beq_eq_true b8.1
            rw [has'] at hargs
            match hv : (stk.take na).reverse, hargs with
            | v :: As, hargs =>
              rcases hT.2.2.2 M' ho with ⟨-, hstr, -⟩ | ⟨h998, -⟩
              · obtain ⟨a, rfl, cellB, k1, k2, k3⟩ := e_Old.recv h5.2 h8 hargs.1 b8.2
                exact ⟨a, As, rfl, cellB, k1, k2, by rw [hstr]; exact k3⟩
              · exact absurd e9 h998
          · cases b8
        · cases b8)
    (by rw [List.length_reverse, List.length_take, hlen]; omega) rfl rfl (by show d' + 1 ≤ R.frames; omega) (by show 8 + (xm_l (I M') + 11) + 64 * d' ≤ R.locals; omega) h1.1
    (by rw [(e_cats_ok hspl.2).1]; exact b4) ⟨by rw [C.2.2.1, b6]; exact hce, by rw [C.2.2.2.1, b7]; exact hsl⟩
  rw [List.reverse_reverse, List.take_append_drop] at hrun
  refine x_after hrun h8 (fun st v T hq => hq.2) (fun q _ h => hvA q h) hvA (fun v st T H1 locs1 hst hTh hal hq hS1 => ?_)
  obtain ⟨⟨v', ws', tys', u9, hu9, ev, hr, hw', hK', hP', hD'⟩, hFr⟩ := hq
  cases ev
  rw [b6, b7]
  exact hgo u9 hu9 lsl (v.toList ++ stk.drop na) H1 locs1 ⟨lv, ws', tys', h1, h2, x_all2_app hr hspl.2, hw', ⟨va_K.moved hal.symm hK', h5.2⟩, by rw [← hTh]; exact hP', hD'.weaken (fun _ q _ h => hvA q.1 h), hS1⟩
theorem e_frmR (hT : e_TabR fd ft cl lay I code l) : ∀ n, e_FrmR fd ft cl lay I code l n := by
  intro n
  induction n with
  | zero => intro d M t r w' _ h; cases h
  | succ n ih =>
    intro d M t r w' hfd h l' u hs hu ad ce sl p e R s m args below meth c D A H0 Q C hce hsl hd hdl hA hret
    unfold e_go at h
    have hE := hT.2.1 M t.1
    split at h
    · rename_i f a b hc
      rw [hc] at hE
      replace hE : (e_Snd ft cl lay (xm_b (I M)) (xm_y (I M)).cls (xm_l (I M)) (xm_y (I M)).name (xm_c (I M)) (xm_s (I M)) t.1 f ∧ e_NI lay f) ∨ e_Mac fd ft cl lay (I M) l t.1 f := hE
      split at h
      · rename_i t' hf
        rcases hE with ⟨hE, hN⟩ | hE
        · obtain ⟨l1, v1, g1, g2, g3, g4⟩ := hN.1 t.1 t.2.1 l' t.2.2.1 t.2.2.2 u t' hf hs hu
          exact hE C hce hsl hA (t.1, l', t.2.2.1, u) (t'.1, l1, t'.2.2.1, v1) rfl g1 (ih d M t' r w' hfd h l1 v1 g2 g3 C hce hsl hd hdl hA hret)
        · exact hE hfd C hce hsl hd hdl hA t t' l' u rfl hf hs hu (fun l1 u1 g2 g3 => ih d M t' r w' hfd h l1 u1 g2 g3 C hce hsl hd hdl hA hret)
      · cases h
    · rename_i f k b hc
      split at h
      · rename_i r' hr
        cases h
        exact hret (t.1, l', t.2.2.1, u) f k b hc hr hu
      · cases h
    · rename_i f M' na hc
      rw [hc] at hE
      replace hE : x_Cl (xm_b (I M)) (xm_y (I M)).cls (xm_l (I M)) (xm_y (I M)).name (xm_c (I M)) (xm_s (I M)) t.1 (I M') na := hE
      cases d with
      | zero => cases h
      | succ d' =>
        simp only at h
        cases hb : e_may fd lay d' M' na (I M') t.2.2.1 (t.2.2.1.take na).reverse (t.2.2.1.drop na) with
        | false => rw [hb] at h; cases h
        | true =>
          rw [hb] at h
          simp only [cond_true] at h
          split at h
          · rename_i rw9 hls
            obtain ⟨r9, w9⟩ := rw9
            have hbb := hb
            unfold e_may at hbb
            simp only [Bool.and_eq_true] at hbb
            exact e_callR hT (t := (t.1, l', t.2.2.1, u)) hE hb (e_met_ofR hT ih (Nat.le_of_ble_eq_true hbb.1) (Nat.le_of_ble_eq_true hbb.2.2.2.2.1) hls hu) C hce hsl hd hdl hA (fun u' hu' => ih (d' + 1) M _ r w' hfd h l' u' hs hu' C hce hsl hd hdl hA hret)
          · cases h
    · cases h
/-- a contract over a table with macros, on the machine: from every contents that know more -/
theorem e_Ok.metR (hT : e_TabR fd ft cl lay I code l) {d M : Nat} {as : List eV} {w : eW} {Q : List eV → eW → Prop} (hd : fd ≤ d) (hl : e_cats as ≤ xm_l (I M)) (h : e_Ok fd lay code I d M (0, e_ent 0 as, [], w) Q) {u : eW} (hu : e_rf w u) : ∃ r w', Q r w' ∧ e_MetR ft cl lay I l d M as u r (fun u' => e_rf w' u') := by
  obtain ⟨n, r, w', h1, h2⟩ := h
  exact ⟨r, w', h2, e_met_ofR hT (e_frmR hT n) hd hl h1 hu⟩
end EDZ
end
