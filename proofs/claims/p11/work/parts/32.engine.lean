noncomputable section
/-! exact: methods and calls; what it says of a method is a contract -/
abbrev eE : Type := Nat × (eS → Option eS) × Nat × Nat
def e_ent : Nat → List eV → eL
  | _, [] => []
  | i, x :: r => (i, x) :: e_ent (bif Nat.beq (e_ty x) 1 then i + 2 else i + 1) r
def e_cats : List eV → Nat
  | [] => 0
  | x :: r => (bif Nat.beq (e_ty x) 1 then 2 else 1) + e_cats r
/-- a small number: the same as a byte, a char -/
def e_pc (x : eV) : Bool := Nat.beq x.1 0 && (decide (0 ≤ x.2) && decide (x.2 ≤ 127))
theorem e_nr5 {z : Int32} (h0 : 0 ≤ z.toInt) (h1 : z.toInt ≤ 127) : narrow .byte (.int z) = .int z ∧ narrow .char (.int z) = .int z := by
  have key : ∀ n : Nat, n < 128 → narrow .byte (.int (Int32.ofInt (n : Int))) = .int (Int32.ofInt (n : Int)) ∧ narrow .char (.int (Int32.ofInt (n : Int))) = .int (Int32.ofInt (n : Int)) := by decide +kernel
  have e : Int32.ofInt ((z.toInt.toNat : Nat) : Int) = z := by rw [Int.toNat_of_nonneg h0, Int32.ofInt_toInt]
  have k := key z.toInt.toNat (by omega)
  rw [e] at k
  exact k
theorem e_pc_ok {ad : List Nat} {x : eV} {v : Value} (hr : e_rel ad x v) (h : e_pc x = true) : ∃ z : Int32, v = .int z ∧ narrow .byte (.int z) = .int z ∧ narrow .char (.int z) = .int z := by
  unfold e_pc at h
  simp only [Bool.and_eq_true, decide_eq_true_eq] at h
  obtain ⟨t, a⟩ := x
  obtain ⟨q1, q2, q3⟩ := h
  have e := Nat.eq_of_beq_eq_true q1
  simp only at e q2 q3
  subst e
  obtain ⟨z, rfl, hz⟩ := e_int hr
  subst hz
  exact ⟨z, rfl, e_nr5 q2 q3⟩
def e_retv (k : Nat) (st : List eV) : Option (List eV) := match k, st with
  | 0, [] => some []
  | 1, [x] => bif Nat.beq (e_ty x) 0 then some [x] else none
  | 2, [x] => bif Nat.beq (e_ty x) 1 then some [x] else none
  | 3, [x] => bif Nat.beq (e_ty x) 2 then some [x] else none
  | 4, [x] => bif e_pk 1 x then some [x] else none
  | 5, [x] => bif e_pc x then some [x] else none
  | _, _ => none
def e_rcv (lay : List eY) (o : Nat) (as : List eV) : Bool := bif Nat.beq o 999 then true else match as with
  | (1, j) :: _ => match lay[j.toNat]? with
    | some (0, c, _) => Nat.beq c o
    | none => Nat.beq o 998 && (decide (j = 357) || decide (j = 358))
    | _ => false
  | _ => false
def e_may (fd : Nat) (lay : List eY) (d M' na : Nat) (q' : xM) (st as rest : List eV) : Bool :=
  Nat.ble fd d && (Nat.ble 1 M' && (Nat.ble na st.length && (Nat.ble (e_cats rest) 8 && (Nat.ble (e_cats as) (xm_l q') && (Nat.beq (xm_c q') 0 && (Nat.beq (xm_s q') 0 && e_rcv lay (xm_o q') as))))))
def e_go (fd : Nat) (lay : List eY) (code : Nat → Nat → eE) (I : Nat → xM) : Nat → Nat → Nat → eS → Option (List eV × eW)
  | 0, _, _, _ => none
  | n + 1, d, M, t => match code M t.1 with
    | (0, f, _, _) => match f t with
      | some t' => e_go fd lay code I n d M t'
      | none => none
    | (1, _, k, _) => match e_retv k t.2.2.1 with
      | some r => some (r, t.2.2.2)
      | none => none
    | (2, _, M', na) => match d with
      | 0 => none
      | d' + 1 => bif e_may fd lay d' M' na (I M') t.2.2.1 (t.2.2.1.take na).reverse (t.2.2.1.drop na) then
          match e_go fd lay code I n d' M' (0, e_ent 0 (t.2.2.1.take na).reverse, [], t.2.2.2) with
          | some rw => e_go fd lay code I n (d' + 1) M (t.1 + 3, t.2.1, rw.1 ++ t.2.2.1.drop na, rw.2)
          | none => none
          else none
    | _ => none
/-- a place of a method's table may be trusted -/
def e_EOq (ft : Nat → Nat → Nat) (cl : List vw_C) (lay : List eY) (I : Nat → xM) (q : xM) (pc : Nat) (en : eE) : Prop := match en with
  | (0, f, _, _) => e_Snd ft cl lay (xm_b q) (xm_y q).cls (xm_l q) (xm_y q).name (xm_c q) (xm_s q) pc f ∧ (e_NI lay f ∧ e_IN ft lay f)
  | (1, _, k, _) => x_Rt (xm_b q) (xm_r q) pc k
  | (2, _, M', na) => x_Cl (xm_b q) (xm_y q).cls (xm_l q) (xm_y q).name (xm_c q) (xm_s q) pc (I M') na
  | _ => True
def e_Tab (fd : Nat) (ft : Nat → Nat → Nat) (cl : List vw_C) (lay : List eY) (I : Nat → xM) (code : Nat → Nat → eE) : Prop :=
  1 ≤ fd ∧ (∀ M pc, e_EOq ft cl lay I (I M) pc (code M pc)) ∧ (∀ M, plainName (xm_y (I M)).cls = true) ∧ (∀ M, xm_o (I M) ≠ 999 → (xm_o (I M) = 998 ∧ (xm_y (I M)).cls = "java/lang/String" ∧ ∀ (k n : Nat), lay[k]? ≠ some (0, 998, n)) ∨ (xm_o (I M) ≠ 998 ∧ ∃ r, cl[xm_o (I M)]? = some r ∧ r.1 = (xm_y (I M)).cls))
def e_Q (ft : Nat → Nat → Nat) (cl : List vw_C) (lay : List eY) (ad : List Nat) (D : va_G) (ws0 : va_W) (sz : Nat) (r : List eV) (w : eW) : Array Value → State → Outcome → State → Prop := fun _ st oc t =>
  (∃ (v : Option Value) (ws : va_W) (tys : List (ClassId × FieldType)), oc = .returned v ∧ x_all2 (e_rel ad) r v.toList ∧ e_world ft cl lay ad tys w ws ∧ va_K D cl tys t ∧ va_P D cl ws t.heap ∧ va_D (va_A ws0 sz) ws) ∧ va_F (va_A ws0 sz) st t
def e_Met (ft : Nat → Nat → Nat) (cl : List vw_C) (lay : List eY) (I : Nat → xM) (l : Launch) (d M : Nat) (as : List eV) (w : eW) (r : List eV) (w' : eW) : Prop :=
  ∀ (ad : List Nat) (D : va_G) (ws : va_W) (tys : List (ClassId × FieldType)) (vs : List Value) (sz : Nat), x_all2 (e_rel ad) as vs → e_world ft cl lay ad tys w ws →
    Met l (xm_y (I M)) (x_ws (I M)) (x_rm d (I M)) (va_Pc vs (fun U => U.heap.size = sz ∧ va_P D cl ws U.heap ∧ va_K D cl tys U ∧ va_D (fun _ => True) ws ∧ x_Ex U ∧ e_Old ad (va_A ws sz) U U.heap)) (e_Q ft cl lay ad D ws sz r w') (xm_c (I M)) (xm_s (I M)) (va_A ws sz)
def e_Frm (fd : Nat) (ft : Nat → Nat → Nat) (cl : List vw_C) (lay : List eY) (I : Nat → xM) (code : Nat → Nat → eE) (l : Launch) (n : Nat) : Prop :=
  ∀ (d M : Nat) (t : eS) (r : List eV) (w' : eW), e_go fd lay code I n d M t = some (r, w') → ∀ {ad : List Nat} {ce sl : Nat} {p : Program} {e : Env} {R : Room} {s : State} {m : MethodId} {args : Array Value} {below : List Frame} {meth : Method} {c : Code} {D : va_G} {A : Nat → Prop} {H0 : Heap} {Q : State → Prop},
    x_Cx (xm_b (I M)) (xm_y (I M)).cls (xm_l (I M)) (xm_y (I M)).name (xm_c (I M)) (xm_s (I M)) p R s m args meth c → ce ≤ xm_c (I M) → sl ≤ xm_s (I M) → d ≤ R.frames → 64 * d ≤ R.locals → (∀ q : Nat, H0.size ≤ q → A q) →
    (∀ (t' : eS) (f : eS → Option eS) (k b : Nat), code M t'.1 = (1, f, k, b) → e_retv k t'.2.2.1 = some r → t'.2.2.2 = w' → e_Good ft cl lay ad ce sl (xm_l (I M)) p l e R s m args below meth c D A H0 Q t') → e_Good ft cl lay ad ce sl (xm_l (I M)) p l e R s m args below meth c D A H0 Q t
theorem e_ent_ok {ad : List Nat} : ∀ {as : List eV} {vs : List Value} (i : Nat), x_all2 (e_rel ad) as vs → x_all2 (fun a q => a.1 = q.1 ∧ e_rel ad a.2 q.2) (e_ent i as) (lv_args i vs)
  | [], [], _, _ => trivial
  | a :: as, v :: vs, i, h => by
    refine ⟨⟨rfl, h.1⟩, ?_⟩
    have e := x_kd_cat (e_ty_ok h.1)
    cases hb : Nat.beq (e_ty a) 1 with
    | true =>
      have := Nat.eq_of_beq_eq_true hb
      rw [this, if_pos rfl] at e
      rw [e, if_pos rfl]
      exact e_ent_ok (i + 2) h.2
    | false =>
      have h1 : ¬ e_ty a = 1 := fun q => by rw [q] at hb; cases hb
      rw [if_neg h1] at e
      rw [e, if_neg (by decide)]
      exact e_ent_ok (i + 1) h.2
  | [], _ :: _, _, h => h.elim
  | _ :: _, [], _, h => h.elim
theorem e_cats_ok {ad : List Nat} : ∀ {as : List eV} {vs : List Value}, x_all2 (e_rel ad) as vs → (vs.map fun v => v.category).sum = e_cats as ∧ (lg_sl vs).length = e_cats as
  | [], [], _ => ⟨rfl, rfl⟩
  | a :: as, v :: vs, h => by
    have e := x_kd_cat (e_ty_ok h.1)
    obtain ⟨h1, h2⟩ := e_cats_ok h.2
    cases hb : Nat.beq (e_ty a) 1 with
    | true =>
      have := Nat.eq_of_beq_eq_true hb
      rw [this, if_pos rfl] at e
      refine ⟨by simp only [List.map_cons, List.sum_cons, e, h1, e_cats, hb, cond_true], ?_⟩
      show (List.flatMap _ (v :: vs)).length = _
      rw [List.flatMap_cons, e, if_pos rfl, List.length_append]
      show 2 + (lg_sl vs).length = _
      rw [h2]
      simp only [e_cats, hb, cond_true]
    | false =>
      have h3 : ¬ e_ty a = 1 := fun q => by rw [q] at hb; cases hb
      rw [if_neg h3] at e
      refine ⟨by simp only [List.map_cons, List.sum_cons, e, h1, e_cats, hb, cond_false], ?_⟩
      show (List.flatMap _ (v :: vs)).length = _
      rw [List.flatMap_cons, e, if_neg (by decide), List.length_append]
      show 1 + (lg_sl vs).length = _
      rw [h2]
      simp only [e_cats, hb, cond_false]
  | [], _ :: _, h => h.elim
  | _ :: _, [], h => h.elim
section E32
variable {fd : Nat} {ft : Nat → Nat → Nat} {cl : List vw_C} {lay : List eY} {I : Nat → xM} {code : Nat → Nat → eE} {l : Launch}
theorem e_met_of (hT : e_Tab fd ft cl lay I code) {n : Nat} (hF : e_Frm fd ft cl lay I code l n) {d M : Nat} {as : List eV} {w : eW} {r : List eV} {w' : eW} (hd : fd ≤ d) (hl : e_cats as ≤ xm_l (I M)) (h : e_go fd lay code I n d M (0, e_ent 0 as, [], w) = some (r, w')) : e_Met ft cl lay I l d M as w r w' := by
  intro ad D ws tys vs sz has hw
  refine Met.ofW (cc := xm_b (I M)) (maxL := xm_l (I M)) (ret := xm_r (I M)) (hT.2.2.1 M) rfl ?_
  intro p e s m args below meth c s₁ B hml hv
  obtain ⟨rfl, hsz, hP, hK, hD0, hEx, hOld⟩ := hv
  have hx := B.exec
  have hb := B.bytes
  have hr := B.returns
  have hts := atoms_spec (ws := x_ws (I M)) B.pre
  have hown : s.vm.findClass (xm_y (I M)).cls = some m.cls := findClass_of_methodNamed B.named
  have hlocks := B.notSynchronized
  have hin : meth.name = (xm_y (I M)).name := (name_of_methodNamed B.named B.method).1
  subst hsz
  have hD := hD0.self (sz := s.heap.size)
  have hA : ∀ q : Nat, s.heap.size ≤ q → va_A ws s.heap.size q := fun q h => Or.inr h
  rw [lg_entry_eq]
  have hle : (lg_sl vs).length ≤ xm_l (I M) := by rw [(e_cats_ok has).2]; exact hl
  refine hF d M _ r w' h (ce := 0) (sl := 0) (D := D) (A := va_A ws s.heap.size) (H0 := s.heap) ⟨⟨hx, hb, hml, hown, fun w hw => hts w (List.mem_cons_of_mem _ hw)⟩, hin, rfl, rfl, by show 1 ≤ d; have := hT.1; omega, by show 32 ≤ 64 * d; have := hT.1; omega, hEx⟩ (Nat.zero_le _) (Nat.zero_le _) (Nat.le_refl d) (Nat.le_refl (64 * d)) hA ?_ _ [] s.heap [] ⟨lv_args 0 vs, ws, tys, lv_entry vs hle, e_ent_ok 0 has, trivial, hw, ⟨hK, hOld⟩, hP, hD, va_S.rf⟩
  intro t f k b hc hlf hw' ls' stk H locs hI
  obtain ⟨lv, ws', tys', h1, h2, h3, h4, h5, h6, h7, h8⟩ := hI
  have hE := hT.2.1 M t.1
  rw [hc] at hE
  replace hE : x_Rt (xm_b (I M)) (xm_r (I M)) t.1 k := hE
  refine W.widen (k := xm_c (I M)) (n := xm_s (I M)) (Nat.zero_le _) (Nat.zero_le _) ?_
  have fin : ∀ (v : Option Value) (T : State), x_all2 (e_rel ad) r v.toList → T.heap = H → s.WarmedH T.vm → e_Q ft cl lay ad D ws s.heap.size r w' vs.toArray s (.returned v) T := by
    intro v T hr hTh hW
    exact ⟨⟨v, ws', tys', rfl, hr, by rw [← hw']; exact h4, va_K.moved hW.alike h5.1, by rw [hTh]; exact h6, h7⟩, h8.F hTh⟩
  unfold e_retv at hlf
  split at hlf
  · rename_i hst
    cases hlf
    rw [hst] at h3
    match stk, h3 with
    | [], _ =>
      obtain ⟨g1, g2⟩ := hE
      exact W.vret hx hb (by rw [hr, g2]) (fun T hTh hW => fin none T trivial hTh hW) h8.2.2 g1
  · rename_i x hst
    cases hy : Nat.beq (e_ty x) 0 with
    | false => rw [hy] at hlf; cases hlf
    | true =>
      rw [hy] at hlf
      cases hlf
      rw [hst] at h3
      match stk, h3 with
      | [v], h3 =>
        obtain ⟨g1, g2⟩ := hE
        have hk := e_ty_ok h3.1
        rw [Nat.eq_of_beq_eq_true hy] at hk
        obtain ⟨z, rfl⟩ := hk
        exact W.iret hx hb (by rw [hr, g2]) (fun T hTh hW => fin (some (.int z)) T h3 hTh hW) h8.2.2 g1
  · rename_i x hst
    cases hy : Nat.beq (e_ty x) 1 with
    | false => rw [hy] at hlf; cases hlf
    | true =>
      rw [hy] at hlf
      cases hlf
      rw [hst] at h3
      match stk, h3 with
      | [v], h3 =>
        obtain ⟨g1, g2⟩ := hE
        have hk := e_ty_ok h3.1
        rw [Nat.eq_of_beq_eq_true hy] at hk
        obtain ⟨z, rfl⟩ := hk
        exact W.lret hx hb (by rw [hr, g2]) (fun T hTh hW => fin (some (.long z)) T h3 hTh hW) h8.2.2 g1
  · rename_i x hst
    cases hy : Nat.beq (e_ty x) 2 with
    | false => rw [hy] at hlf; cases hlf
    | true =>
      rw [hy] at hlf
      cases hlf
      rw [hst] at h3
      match stk, h3 with
      | [v], h3 =>
        obtain ⟨g1, rt, g2, g3⟩ := hE
        have hk := e_ty_ok h3.1
        rw [Nat.eq_of_beq_eq_true hy] at hk
        exact W.aret hx hb (by rw [hr, g2]) g3 hk (fun T hTh hW => fin (some v) T h3 hTh hW) h8.2.2 g1
  · rename_i x hst
    cases hy : e_pk 1 x with
    | false => rw [hy] at hlf; cases hlf
    | true =>
      rw [hy] at hlf
      cases hlf
      rw [hst] at h3
      match stk, h3 with
      | [v], h3 =>
        obtain ⟨g1, g2⟩ := hE
        have hk : v = .int 0 ∨ v = .int 1 := e_pk_ok h3.1 hy
        rcases hk with rfl | rfl
        · exact W.zret hx hb (by rw [hr, g2]) (by decide) (fun T hTh hW => fin (some (.int 0)) T h3 hTh hW) h8.2.2 g1
        · exact W.zret hx hb (by rw [hr, g2]) (by decide) (fun T hTh hW => fin (some (.int 1)) T h3 hTh hW) h8.2.2 g1
  · rename_i x hst
    cases hy : e_pc x with
    | false => rw [hy] at hlf; cases hlf
    | true =>
      rw [hy] at hlf
      cases hlf
      rw [hst] at h3
      match stk, h3 with
      | [v], h3 =>
        obtain ⟨g1, g2⟩ := hE
        obtain ⟨z, rfl, n1, n2⟩ := e_pc_ok h3.1 hy
        rcases g2 with g2 | g2
        · exact W.zret hx hb (by rw [hr, g2]) n1 (fun T hTh hW => fin (some (.int z)) T h3 hTh hW) h8.2.2 g1
        · exact W.zret hx hb (by rw [hr, g2]) n2 (fun T hTh hW => fin (some (.int z)) T h3 hTh hW) h8.2.2 g1
  · cases hlf
/-- the receiver of a text's method -/
theorem e_Old.recv {ad : List Nat} {A : Nat → Prop} {s : State} {H0 H : Heap} {locs : List Loc} (h : e_Old ad A s H0) (hS : va_S A H0 H locs) {j : Int} {v : Value} (hr : e_rel ad (1, j) v) (hj : j = 357 ∨ j = 358) : ∃ a, v = .ref a ∧ ∃ cellB : Cell, H[a]? = some cellB ∧ cellB.vm.isStatics = false ∧ s.vm.findClass "java/lang/String" = some cellB.cls := by
  obtain ⟨aK, aS, aN, bK, bS, h1, h2, h3, -⟩ := h
  obtain ⟨-, a, ha, rfl⟩ := hr
  rcases hj with rfl | rfl
  · have e : some aK = some a := h1.1.symm.trans ha
    cases e
    obtain ⟨cell, k1, k2, k3, -⟩ := (h3.1 0 (by decide)).1.kept hS.2.1
    exact ⟨_, rfl, cell, k1, k2, k3⟩
  · have e : some aS = some a := h1.2.1.symm.trans ha
    cases e
    obtain ⟨cell, k1, k2, k3, -⟩ := (h3.1 1 (by decide)).1.kept hS.2.1
    exact ⟨_, rfl, cell, k1, k2, k3⟩
/-- a call of a method of which it is known what it does -/
theorem e_call (hT : e_Tab fd ft cl lay I code) {d' M M' na : Nat} {t : eS} {r : List eV} {w' : eW} (hE : x_Cl (xm_b (I M)) (xm_y (I M)).cls (xm_l (I M)) (xm_y (I M)).name (xm_c (I M)) (xm_s (I M)) t.1 (I M') na) (hb : e_may fd lay d' M' na (I M') t.2.2.1 (t.2.2.1.take na).reverse (t.2.2.1.drop na) = true) (hMet : e_Met ft cl lay I l d' M' (t.2.2.1.take na).reverse t.2.2.2 r w')
    {ad : List Nat} {ce sl : Nat} {p : Program} {e : Env} {R : Room} {s : State} {m : MethodId} {args : Array Value} {below : List Frame} {meth : Method} {c : Code} {D : va_G} {A : Nat → Prop} {H0 : Heap} {Q : State → Prop} (C : x_Cx (xm_b (I M)) (xm_y (I M)).cls (xm_l (I M)) (xm_y (I M)).name (xm_c (I M)) (xm_s (I M)) p R s m args meth c) (hce : ce ≤ xm_c (I M)) (hsl : sl ≤ xm_s (I M)) (hd : d' + 1 ≤ R.frames) (hdl : 64 * (d' + 1) ≤ R.locals) (hA : ∀ q : Nat, H0.size ≤ q → A q)
    (hgo : e_Good ft cl lay ad ce sl (xm_l (I M)) p l e R s m args below meth c D A H0 Q (t.1 + 3, t.2.1, r ++ t.2.2.1.drop na, w')) : e_Good ft cl lay ad ce sl (xm_l (I M)) p l e R s m args below meth c D A H0 Q t := by
  obtain ⟨h64, hE⟩ := hE
  unfold e_may at hb
  simp only [Bool.and_eq_true] at hb
  obtain ⟨b1, b2, b3, b4, b5, b6, b7, b8⟩ := hb
  have b1 := Nat.le_of_ble_eq_true b1
  have b2 := Nat.le_of_ble_eq_true b2
  have b3 := Nat.le_of_ble_eq_true b3
  have b4 := Nat.le_of_ble_eq_true b4
  have b5 := Nat.le_of_ble_eq_true b5
  have b6 := Nat.eq_of_beq_eq_true b6
  have b7 := Nat.eq_of_beq_eq_true b7
  intro lsl stk H locs hI
  obtain ⟨lv, ws, tys, h1, h2, h3, h4, h5, h6, h7, h8⟩ := hI
  have hspl := x_split na h3
  have hargs := x_all2_rev hspl.1
  have hM := hMet ad D ws tys (stk.take na).reverse H.size hargs h4
  have hlen : stk.length = t.2.2.1.length := (x_all2_len h3).symm
  have hvA : ∀ q : Nat, va_A ws H.size q → A q := by
    intro q hq
    rcases hq with ⟨k, e9, hk⟩ | hq
    · exact h7.2 k _ hk
    · exact hA q (Nat.le_trans h8.1 hq)
  have hrun := hE (e := e) (below := below) C (H := H) (locs := locs) (cells := ce) (slots := sl) (ls := lsl) (rest := stk.drop na) hM
    (fun a U g mk q => by obtain ⟨q0, q1, qP, qK, qD, qE, qO⟩ := q; exact ⟨q0, q1, qP, va_K.moved (u := U) (U := U.calling g mk a) (Vm.Alike.refl U.vm) qK, qD, qE.same (U := U.calling g mk a) rfl, qO.same (U := U.calling g mk a) rfl⟩)
    (fun U hU hW => ⟨rfl, by rw [hU], by rw [hU]; exact h6, va_K.moved hW.alike h5.1, h7.weaken (fun _ _ _ _ => trivial), C.2.2.2.2.2.2.warm hW, by rw [hU]; exact ((h5.2.kept h8.2.1).narrow hvA).warm hW⟩)
    (by
      by_cases ho : xm_o (I M') = 999
      · exact Or.inl ho
      · refine Or.inr ?_
        unfold e_rcv at b8
        rw [x_nb ho] at b8
        simp only [cond_false] at b8
        split at b8
        · rename_i j as' has'
          split at b8
          · rename_i c9 r9 hcell
            have e9 := Nat.eq_of_beq_eq_true b8
            rw [has'] at hargs
            match hv : (stk.take na).reverse, hargs with
            | v :: As, hargs =>
              obtain ⟨a, ee, hq, rfl, hcc, -⟩ := e_ref h4 hargs.1 hcell
              obtain ⟨fs, rfl, -, -⟩ := hcc
              rcases hT.2.2.2 M' ho with ⟨h998, -, hno⟩ | ⟨-, r, hr1, hr2⟩
              · rw [e9, h998] at hcell
                exact absurd hcell (hno _ _)
              · rw [← e9] at hr1
                obtain ⟨cellB, k1, k2, k3⟩ := va_recv h5.1 h6 hr1 hq
                exact ⟨a, As, rfl, cellB, k1, k2, by rw [← hr2]; exact k3⟩
          · simp only [Bool.and_eq_true, Bool.or_eq_true, decide_eq_true_eq] at b8
            have e9 := Nat.eq_of_beq_eq_true b8.1
            rw [has'] at hargs
            match hv : (stk.take na).reverse, hargs with
            | v :: As, hargs =>
              rcases hT.2.2.2 M' ho with ⟨-, hstr, -⟩ | ⟨h998, -⟩
              · obtain ⟨a, rfl, cellB, k1, k2, k3⟩ := e_Old.recv h5.2 h8 hargs.1 b8.2
                exact ⟨a, As, rfl, cellB, k1, k2, by rw [hstr]; exact k3⟩
              · exact absurd e9 h998
          · cases b8
        · cases b8)
    (by rw [List.length_reverse, List.length_take, hlen]; omega) rfl rfl (by show d' + 1 ≤ R.frames; omega) (by show 8 + (xm_l (I M') + 11) + 64 * d' ≤ R.locals; omega) h1.1
    (by rw [(e_cats_ok hspl.2).1]; exact b4) ⟨by rw [C.2.2.1, b6]; exact hce, by rw [C.2.2.2.1, b7]; exact hsl⟩
  rw [List.reverse_reverse, List.take_append_drop] at hrun
  refine x_after hrun h8 (fun st v T hq => hq.2) (fun q _ h => hvA q h) hvA (fun v st T H1 locs1 hst hTh hal hq hS1 => ?_)
  obtain ⟨⟨v', ws', tys', ev, hr, hw', hK', hP', hD'⟩, hFr⟩ := hq
  cases ev
  rw [b6, b7]
  exact hgo lsl (v.toList ++ stk.drop na) H1 locs1 ⟨lv, ws', tys', h1, h2, x_all2_app hr hspl.2, hw', ⟨va_K.moved hal.symm hK', h5.2⟩, by rw [← hTh]; exact hP', hD'.weaken (fun _ q _ h => hvA q.1 h), hS1⟩
theorem e_frm (hT : e_Tab fd ft cl lay I code) : ∀ n, e_Frm fd ft cl lay I code l n := by
  intro n
  induction n with
  | zero => intro d M t r w' h; cases h
  | succ n ih =>
    intro d M t r w' h ad ce sl p e R s m args below meth c D A H0 Q C hce hsl hd hdl hA hret
    unfold e_go at h
    have hE := hT.2.1 M t.1
    split at h
    · rename_i f a b hc
      rw [hc] at hE
      replace hE : e_Snd ft cl lay (xm_b (I M)) (xm_y (I M)).cls (xm_l (I M)) (xm_y (I M)).name (xm_c (I M)) (xm_s (I M)) t.1 f := hE.1
      split at h
      · rename_i t' hf
        exact hE C hce hsl hA t t' rfl hf (ih d M t' r w' h C hce hsl hd hdl hA hret)
      · cases h
    · rename_i f k b hc
      split at h
      · rename_i r' hr
        cases h
        exact hret t f k b hc hr rfl
      · cases h
    · rename_i f M' na hc
      rw [hc] at hE
      replace hE : x_Cl (xm_b (I M)) (xm_y (I M)).cls (xm_l (I M)) (xm_y (I M)).name (xm_c (I M)) (xm_s (I M)) t.1 (I M') na := hE
      cases d with
      | zero => cases h
      | succ d' =>
        simp only at h
        cases hb : e_may fd lay d' M' na (I M') t.2.2.1 (t.2.2.1.take na).reverse (t.2.2.1.drop na) with
        | false => rw [hb] at h; cases h
        | true =>
          rw [hb] at h
          simp only [cond_true] at h
          split at h
          · rename_i rw9 hls
            obtain ⟨r9, w9⟩ := rw9
            have hbb := hb
            unfold e_may at hbb
            simp only [Bool.and_eq_true] at hbb
            exact e_call hT hE hb (e_met_of hT ih (Nat.le_of_ble_eq_true hbb.1) (Nat.le_of_ble_eq_true hbb.2.2.2.2.1) hls) C hce hsl hd hdl hA (ih (d' + 1) M _ r w' h C hce hsl hd hdl hA hret)
          · cases h
    · cases h
end E32
end
