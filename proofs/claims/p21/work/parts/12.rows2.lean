noncomputable section
/-! rows that need the classes' words -/
theorem x_fit_int : ∀ v, x_pk 0 v → narrow .int v = v ∧ fits .int v = true := fun v h => by obtain ⟨n, rfl⟩ := h; exact ⟨rfl, rfl⟩
theorem x_fit_bool : ∀ v, x_pk 1 v → narrow .boolean v = v ∧ fits .boolean v = true := fun v h => by
  rcases h with rfl | rfl
  · exact ⟨by decide, by decide⟩
  · exact ⟨by decide, by decide⟩
theorem x_fit_obj {C : String} : ∀ v, x_pk 2 v → narrow (.object C) v = v ∧ fits (.object C) v = true := fun v h => by
  rcases h with rfl | ⟨a, rfl⟩
  · exact ⟨rfl, rfl⟩
  · exact ⟨rfl, rfl⟩
theorem x_fit_arr {t : FieldType} : ∀ v, x_pk 2 v → narrow (.array t) v = v ∧ fits (.array t) v = true := fun v h => by
  rcases h with rfl | ⟨a, rfl⟩
  · exact ⟨rfl, rfl⟩
  · exact ⟨rfl, rfl⟩
/-- a new object's fields: 0 a number, 1 a reference -/
def x_fv (b : Nat) : Value := match b with
  | 0 => .int 0
  | _ => .null
def x_fa (b : Nat) : xV := match b with
  | 0 => (0, 0, 0)
  | _ => (2, 0, 0)
def x_ovs : Nat → List Nat → xA
  | _, [] => []
  | i, b :: r => (i, x_fa b) :: x_ovs (i + 1) r
def x_nc (ci : Nat) (ks : List Nat) : xC := (0, ci, ks.length, (0, 0, 0), x_ovs 0 ks)
theorem x_fa_ok {ad : List Nat} {V : List Int} {sc : Nat × Nat × List Nat} (b : Nat) : x_rel ad V sc (x_fa b) (x_fv b) := by
  unfold x_fa x_fv
  split
  · exact ⟨0, rfl, by show (0 : Int) ≤ Int32.toInt 0; decide, by show Int32.toInt 0 ≤ (0 : Int); decide⟩
  · exact rfl
theorem x_ovs_ok : ∀ (ks : List Nat) (i k : Nat) (b : Nat), ks[k]? = some b → x_get (0, 0, 0) (x_ovs i ks) (i + k) = x_fa b
  | [], _, _, _, h => by cases h
  | c :: r, i, 0, b, h => by
    cases h
    simp [x_ovs, x_get_cons]
  | c :: r, i, k + 1, b, h => by
    simp only [x_ovs, x_get_cons]
    rw [x_nb (by omega : i ≠ i + (k + 1))]
    have := x_ovs_ok r (i + 1) k b (by simpa using h)
    rw [show i + (k + 1) = i + 1 + k by omega]
    exact this
theorem x_nc_ok {cl : List vw_C} {ci : Nat} {ks : List Nat} : ∀ ad V sc tys, x_cell cl ad V sc tys (x_nc ci ks) (.inr (ci, ks.map x_fv)) := fun ad V sc tys =>
  ⟨ks.map x_fv, rfl, List.length_map _, fun k hk => by
    have hk : k < ks.length := hk
    have h := x_ovs_ok ks 0 k ks[k] (List.getElem?_eq_getElem hk)
    rw [Nat.zero_add] at h
    refine ⟨x_fv ks[k], by rw [List.getElem?_map, List.getElem?_eq_getElem hk]; rfl, ?_⟩
    show x_rel ad V sc (x_get (0, 0, 0) (x_ovs 0 ks) k) _
    rw [h]
    exact x_fa_ok _⟩
def xi_oi (nx : Nat) : xS → Option (List xS) := fun t => match t.2.2.1 with
  | (1, _, _) :: r => bif Nat.ble (x_cats r) 8 then some [(nx, t.2.1, r, t.2.2.2)] else none
  | _ => none
section X12
variable {cl : List vw_C} {K : xKx} {cc : ByteArray} {own : String} {nL : Nat} {nm : String} {MC MS pc : Nat}
theorem xr_getf {ci k ix N : Nat} {C : String} {T : u_T} (hc : cl[ci]? = some (C, T, N)) (hin : ∀ w ∈ u_ws C T N, w ∈ x_tbl) (hk : k < N) (hw : Cond.fieldLink own ix (T k).1 (T k).2.1 (T k).2.2.1 ∈ x_tbl) (d : decode cc pc = .ok (.getfield ix, 3)) : x_Snd cl K cc own nL nm MC MS pc (xi_getf ci k (pc + 3)) := xi_getf_ok (by
  intro p l e R s m args below meth c C1 H locs cells slots Q ls rest D tys ws a q0 fs v h1 h2 h3 h4 kk
  exact va_get C1.1.1 C1.1.2.1 C1.1.2.2.2.2 hin C1.1.2.2.2.1 h1 h2 q0 h3 hc k hk (C1.1.2.2.2.2 _ hw) (fun _ h => h) h4 d kk)
theorem xr_putf {ci k ix N fk : Nat} {C : String} {T : u_T} {ty0 : Nat → FieldType} {ty : FieldType} (hc : cl[ci]? = some (C, T, N)) (hin : ∀ w ∈ u_ws C T N, w ∈ x_tbl) (hty : ∀ k, k < N → parseFieldDescriptor (T k).2.2.1 = some (ty0 k)) (hnm : ∀ a, a < N → ∀ b, b < N → a ≠ b → (T a).2.1 ≠ (T b).2.1) (hk : k < N) (hw : Cond.fieldLink own ix (T k).1 (T k).2.1 (T k).2.2.1 ∈ x_tbl) (hfin : (T k).2.2.2 = false) (hd : ty0 k = ty) (hv : ∀ v, x_pk fk v → narrow ty v = v ∧ fits ty v = true) (d : decode cc pc = .ok (.putfield ix, 3)) : x_Snd cl K cc own nL nm MC MS pc (xi_putf ci k fk (pc + 3)) := xi_putf_ok (by
  intro p l e R s m args below meth c C1 H H0 locs cells slots Q ls rest D A tys ws a q0 fs v h1 h2 h3 h4 h5 h6 h7 kk
  exact va_put C1.1.1 C1.1.2.1 C1.1.2.2.2.2 hin ty0 hty hnm C1.1.2.2.2.1 h1 h2 h3 h4 q0 h5 hc k hk (C1.1.2.2.2.2 _ hw) (fun _ h => h) hfin (by rw [← hd]; exact hty k hk) (hv v h7).1 (hv v h7).2 h6 d kk)
theorem xr_putF {ci k ix N fk : Nat} {C : String} {T : u_T} {ty0 : Nat → FieldType} {ty : FieldType} (hc : cl[ci]? = some (C, T, N)) (hin : ∀ w ∈ u_ws C T N, w ∈ x_tbl) (hty : ∀ k, k < N → parseFieldDescriptor (T k).2.2.1 = some (ty0 k)) (hnm : ∀ a, a < N → ∀ b, b < N → a ≠ b → (T a).2.1 ≠ (T b).2.1) (hk : k < N) (hw : Cond.fieldLink own ix (T k).1 (T k).2.1 (T k).2.2.1 ∈ x_tbl) (hfin : (T k).2.2.2 = true) (hmn : nm = "<init>") (hdc : (T k).1 = own) (hd : ty0 k = ty) (hv : ∀ v, x_pk fk v → narrow ty v = v ∧ fits ty v = true) (d : decode cc pc = .ok (.putfield ix, 3)) : x_Snd cl K cc own nL nm MC MS pc (xi_putf ci k fk (pc + 3)) := xi_putf_ok (by
  intro p l e R s m args below meth c C1 H H0 locs cells slots Q ls rest D A tys ws a q0 fs v h1 h2 h3 h4 h5 h6 h7 kk
  exact va_putF C1.1.1 C1.1.2.1 C1.1.2.2.2.2 hin ty0 hty hnm C1.1.2.2.2.1 h1 h2 h3 h4 q0 h5 hc k hk (C1.1.2.2.2.2 _ hw) (fun _ h => h) hfin (C1.2.1.trans hmn) hdc (by rw [← hd]; exact hty k hk) (hv v h7).1 (hv v h7).2 h6 d kk)
theorem xr_new {ci ix N : Nat} {C : String} {T : u_T} {ty0 : Nat → FieldType} {ks : List Nat} (hc : cl[ci]? = some (C, T, N)) (hin : ∀ w ∈ u_ws C T N, w ∈ x_tbl) (hty : ∀ k, k < N → parseFieldDescriptor (T k).2.2.1 = some (ty0 k)) (hl : Cond.classLink own ix C ∈ x_tbl) (hi : Cond.instantiable C N ∈ x_tbl) (hn : Cond.initialized C ∈ x_tbl) (hks : ks.length = N) (hfs : ∀ j, j < N → defaultValue (ty0 j) = vp_V (ks.map x_fv) j) (d : decode cc pc = .ok (.new ix, 3)) : x_Snd cl K cc own nL nm MC MS pc (xi_new (x_nc ci ks) MC MS (pc + 3)) := xi_new_ok (nc := x_nc ci ks) (ci := ci) (N := N) (fs := ks.map x_fv) hks x_nc_ok (by
  intro p l e R s m args below meth c C1 H H0 locs cells slots Q ls rest D A tys ws hA h1 h2 h3 h4 h5 h6 kk
  exact va_new C1.1.1 C1.1.2.1 C1.1.2.2.2.2 hin ty0 hty C1.1.2.2.2.1 (C1.1.2.2.2.2 _ hl) (C1.1.2.2.2.2 _ hi) (C1.1.2.2.2.2 _ hn) h1 h2 h3 h4 hA hc hfs (by rw [C1.2.2.1]; exact h5) (by rw [C1.2.2.2.1]; exact h6) d kk)
theorem x_bytes (kd : Nat) : componentBytes (x_aty kd) ≤ 4 := by
  unfold x_aty
  split <;> decide
theorem x_dflt (kd : Nat) : defaultValue (x_aty kd) = .int 0 := by
  unfold x_aty
  split <;> rfl
theorem xr_newa {kd : Nat} {b : Bool} {ty : ArrayType} (hkd : x_akd b kd = true) (ht : newarray.typeOf ty = x_aty kd) (ha : Cond.arrayClass (newarray.typeOf ty) ∈ x_tbl) (d : decode cc pc = .ok (.newarray ty, 2)) : x_Snd cl K cc own nL nm MC MS pc (xi_newa kd 0 (0, 0, 0) MC MS (pc + 2)) := xi_newa_ok hkd (by
  intro p l e R s m args below meth c C1 H H0 locs cells slots Q ls rest D A tys ws n N hA h1 h2 h3 h4 h5 h6 h7 h8 h9 kk
  exact va_newa C1.1.1 C1.1.2.1 (C1.1.2.2.2.2 _ ha) ht h1 h2 h3 h4 hA (a0 := (N, .inl (fun _ => 0))) (fun cA => by rw [x_dflt]; rfl) h5 h6 (Nat.le_trans (Nat.mul_le_mul h7 (x_bytes kd)) (by decide)) (by rw [C1.2.2.1]; exact h8) (by rw [C1.2.2.2.1]; exact h9) d kk)
theorem xr_newq {ci ix : Nat} {r : vw_C} (hr : cl[ci]? = some r) (hl : Cond.classLink own ix r.1 ∈ x_tbl) (ho : ∀ U, x_Ex U → va_AO r.1 U) (d : decode cc pc = .ok (.anewarray ix, 3)) : x_Snd cl K cc own nL nm MC MS pc (xi_newa 5 ci (2, 0, 0) MC MS (pc + 3)) := xi_newq_ok hr (by
  intro p l e R s m args below meth c C1 H H0 locs cells slots Q ls rest D A tys ws n N hA h1 h2 h3 h4 h5 h6 h7 h8 h9 kk
  exact va_newq C1.1.1 C1.1.2.1 C1.1.2.2.2.1 (C1.1.2.2.2.2 _ hl) (ho _ C1.2.2.2.2.2.2) h1 h2 h3 h4 hA h5 h6 (by omega) (by rw [C1.2.2.1]; exact h8) (by rw [C1.2.2.2.1]; exact h9) d kk)
theorem xr_oi {ix : Nat} (hl : Cond.methodLink own ix objectInit ∈ x_tbl) (hi : Cond.instanceMethod objectInit ∈ x_tbl) (hc : Cond.code objectInit ⟨#[0xb1]⟩ 1 none ∈ x_tbl) (d : decode cc pc = .ok (.invokespecial ix, 3)) : x_Snd cl K cc own nL nm MC MS pc (xi_oi (pc + 3)) := by
  intro V sc p l e R s m args below meth c D A H0 Q C hA hK t ts hpc hf hg
  unfold xi_oi at hf
  split at hf
  · rename_i j jb r hst
    cases hb : Nat.ble (x_cats r) 8 with
    | false => rw [hb] at hf; cases hf
    | true =>
      rw [hb] at hf
      cases hf
      subst hpc
      intro ls stk H locs ⟨lv, ws, tys, h1, h2, h3, h4⟩
      rw [hst] at h3
      match stk, h3 with
      | v2 :: rest, h3 =>
        obtain ⟨a, -, rfl⟩ := h3.1
        refine W.objInit C.1.1 C.1.2.1 C.1.2.2.2.1 (C.1.2.2.2.2 _ hl) (C.1.2.2.2.2 _ hi) (C.1.2.2.2.2 _ hc) rfl (by rw [C.1.2.2.1]; exact h1.1) rfl d C.2.2.2.2.1 ?_ ?_
        · have h8 := Nat.le_of_ble_eq_true hb
          rw [← (x_cats_ok h3.2).1] at h8
          have := lv_room (m := m) (pc := t.1) (ls := ls) (rest := .ref a :: rest) (st := rest) h8
          have h32 := C.2.2.2.2.2.1
          omega
        · exact hg _ List.mem_cons_self ls rest H locs ⟨lv, ws, tys, h1, h2, h3.2, h4⟩
  · cases hf
theorem xr_callV {q' : xM} {ix n : Nat} (hcode : Cond.code (xm_y q') (xm_b q') (xm_l q') (xm_r q') ∈ x_tbl) (hgood : x_tbl.all goodWord = true) (hini : Cond.initialized (xm_y q').cls ∈ x_tbl) (hl : Cond.methodLink own ix (xm_y q') ∈ x_tbl) (hinst : Cond.instanceMethod (xm_y q') ∈ x_tbl) (hsel : Cond.selects (xm_y q').cls (xm_y q') (xm_y q') ∈ x_tbl) (ho : xm_o q' ≠ 999) (h19 : 19 + xm_l q' ≤ 64)
    (hd : (xm_y q').cls ≠ "java/lang/invoke/MethodHandle" ∧ (xm_y q').cls ≠ "java/lang/invoke/VarHandle" ∧ (parseMethodDescriptor (xm_y q').desc).map (fun d => d.parameters.length) = some n) (d : decode cc pc = .ok (.invokevirtual ix, 3)) : x_Cl cc own nL nm MC MS pc q' (n + 1) := by
  refine ⟨h19, ?_⟩
  intro p l e R s m args below meth c C1 H locs cells slots mc ms ls rest vargs Pc Qc free rm hM hbl hpre hrec hlen hrc hrs hfr hlo hsz hcat hf
  rcases hrec with h | ⟨b, As, rfl, cellB, k1, k2, k3⟩
  · exact absurd h ho
  · have hts := C1.1.2.2.2.2
    have cb : CallB R s args own ix (xm_y q') (xm_b q') (xm_l q') (xm_r q') (x_ws q') rm mc ms n := callB_of n hts (x_goodIn (q := q') hcode hgood) rfl hrc hrs (hts _ hini) (hts _ hl) hd ⟨hfr, hlo⟩
    exact va_runV C1.1 hM ⟨cb, hts _ hinst, hts _ hsel⟩ ⟨hbl, ⟨cellB, k1, k2, k3⟩, hpre⟩ rfl (by simpa using hlen) hsz (by simp) (lv_room hcat) d hf
theorem xr_callS {q' : xM} {ix n : Nat} (hcode : Cond.code (xm_y q') (xm_b q') (xm_l q') (xm_r q') ∈ x_tbl) (hgood : x_tbl.all goodWord = true) (hini : Cond.initialized (xm_y q').cls ∈ x_tbl) (hl : Cond.methodLink own ix (xm_y q') ∈ x_tbl) (hst : Cond.static (xm_y q') ∈ x_tbl) (h19 : 19 + xm_l q' ≤ 64)
    (hd : (xm_y q').cls ≠ "java/lang/invoke/MethodHandle" ∧ (xm_y q').cls ≠ "java/lang/invoke/VarHandle" ∧ (parseMethodDescriptor (xm_y q').desc).map (fun d => d.parameters.length) = some n) (d : decode cc pc = .ok (.invokestatic ix, 3)) : x_Cl cc own nL nm MC MS pc q' n := by
  refine ⟨h19, ?_⟩
  intro p l e R s m args below meth c C1 H locs cells slots mc ms ls rest vargs Pc Qc free rm hM hbl hpre hrec hlen hrc hrs hfr hlo hsz hcat hf
  have hts := C1.1.2.2.2.2
  have cb : CallB R s args own ix (xm_y q') (xm_b q') (xm_l q') (xm_r q') (x_ws q') rm mc ms n := callB_of n hts (x_goodIn (q := q') hcode hgood) rfl hrc hrs (hts _ hini) (hts _ hl) hd ⟨hfr, hlo⟩
  exact va_runS C1.1 hM ⟨cb, hts _ hst⟩ ⟨hbl, hpre⟩ rfl hlen hsz rfl (lv_room hcat) d hf
theorem xr_callI {q' : xM} {ix n : Nat} (hcode : Cond.code (xm_y q') (xm_b q') (xm_l q') (xm_r q') ∈ x_tbl) (hgood : x_tbl.all goodWord = true) (hini : Cond.initialized (xm_y q').cls ∈ x_tbl) (hl : Cond.methodLink own ix (xm_y q') ∈ x_tbl) (hinst : Cond.instanceMethod (xm_y q') ∈ x_tbl) (hnm : (xm_y q').name = "<init>") (hr : xm_r q' = none) (ho : xm_o q' ≠ 999) (h19 : 19 + xm_l q' ≤ 64)
    (hd : (xm_y q').cls ≠ "java/lang/invoke/MethodHandle" ∧ (xm_y q').cls ≠ "java/lang/invoke/VarHandle" ∧ (parseMethodDescriptor (xm_y q').desc).map (fun d => d.parameters.length) = some n) (d : decode cc pc = .ok (.invokespecial ix, 3)) : x_Cl cc own nL nm MC MS pc q' (n + 1) := by
  refine ⟨h19, ?_⟩
  intro p l e R s m args below meth c C1 H locs cells slots mc ms ls rest vargs Pc Qc free rm hM hbl hpre hrec hlen hrc hrs hfr hlo hsz hcat hf
  rcases hrec with h | ⟨b, As, rfl, cellB, k1, k2, k3⟩
  · exact absurd h ho
  · have hts := C1.1.2.2.2.2
    have cb : CallB R s args own ix (xm_y q') (xm_b q') (xm_l q') (xm_r q') (x_ws q') rm mc ms n := callB_of n hts (x_goodIn (q := q') hcode hgood) rfl hrc hrs (hts _ hini) (hts _ hl) hd ⟨hfr, hlo⟩
    rw [hr] at cb
    exact va_runI C1.1 hM ⟨cb, hnm, hts _ hinst⟩ ⟨hbl, hpre⟩ rfl (by simpa using hlen) hsz (by simp) (lv_room hcat) d hf
theorem x_cn {R : Room} {s : State} {args : Array Value} {q' : xM} {ix n mc ms : Nat} {own host : String} {rm : Room} (hts : ∀ w ∈ x_tbl, w.before args s = true) (hcode : Cond.code (xm_y q') (xm_b q') (xm_l q') (xm_r q') ∈ x_tbl) (hgood : x_tbl.all goodWord = true) (hini : Cond.initialized (xm_y q').cls ∈ x_tbl) (hl : va_Nw (.methodLinkNest own ix (xm_y q') host) s) (hrc : rm.cells = mc) (hrs : rm.slots = ms)
    (hd : (xm_y q').cls ≠ "java/lang/invoke/MethodHandle" ∧ (xm_y q').cls ≠ "java/lang/invoke/VarHandle" ∧ (parseMethodDescriptor (xm_y q').desc).map (fun d => d.parameters.length) = some n) (hR : rm.frames + 1 ≤ R.frames ∧ 8 + (xm_l q' + 11) + rm.locals ≤ R.locals) : va_CN R s args own ix (xm_y q') host (xm_b q') (xm_l q') (xm_r q') (x_ws q') rm mc ms n :=
  va_cnB n hts (x_goodIn (q := q') hcode hgood) rfl hrc hrs hl (hts _ hini) hd hR
theorem xr_callIN {q' : xM} {ix n : Nat} {host : String} (hcode : Cond.code (xm_y q') (xm_b q') (xm_l q') (xm_r q') ∈ x_tbl) (hgood : x_tbl.all goodWord = true) (hini : Cond.initialized (xm_y q').cls ∈ x_tbl) (hl : (own, ix, xm_y q', host) ∈ x_nest) (hinst : Cond.instanceMethod (xm_y q') ∈ x_tbl) (hnm : (xm_y q').name = "<init>") (hr : xm_r q' = none) (ho : xm_o q' ≠ 999) (h19 : 19 + xm_l q' ≤ 64)
    (hd : (xm_y q').cls ≠ "java/lang/invoke/MethodHandle" ∧ (xm_y q').cls ≠ "java/lang/invoke/VarHandle" ∧ (parseMethodDescriptor (xm_y q').desc).map (fun d => d.parameters.length) = some n) (d : decode cc pc = .ok (.invokespecial ix, 3)) : x_Cl cc own nL nm MC MS pc q' (n + 1) := by
  refine ⟨h19, ?_⟩
  intro p l e R s m args below meth c C1 H locs cells slots mc ms ls rest vargs Pc Qc free rm hM hbl hpre hrec hlen hrc hrs hfr hlo hsz hcat hf
  rcases hrec with h | ⟨b, As, rfl, cellB, k1, k2, k3⟩
  · exact absurd h ho
  · have hts := C1.1.2.2.2.2
    have cb := x_cn (R := R) hts hcode hgood hini (C1.2.2.2.2.2.2.2.2 _ hl) hrc hrs hd ⟨hfr, hlo⟩
    rw [hr] at cb
    exact va_runIN C1.1 hM ⟨cb, hnm, hts _ hinst⟩ ⟨hbl, hpre⟩ rfl (by simpa using hlen) hsz (by simp) (lv_room hcat) d hf
theorem xr_callVN {q' : xM} {ix n : Nat} {host : String} (hcode : Cond.code (xm_y q') (xm_b q') (xm_l q') (xm_r q') ∈ x_tbl) (hgood : x_tbl.all goodWord = true) (hini : Cond.initialized (xm_y q').cls ∈ x_tbl) (hl : (own, ix, xm_y q', host) ∈ x_nest) (hinst : Cond.instanceMethod (xm_y q') ∈ x_tbl) (hsel : Cond.selects (xm_y q').cls (xm_y q') (xm_y q') ∈ x_tbl) (ho : xm_o q' ≠ 999) (h19 : 19 + xm_l q' ≤ 64)
    (hd : (xm_y q').cls ≠ "java/lang/invoke/MethodHandle" ∧ (xm_y q').cls ≠ "java/lang/invoke/VarHandle" ∧ (parseMethodDescriptor (xm_y q').desc).map (fun d => d.parameters.length) = some n) (d : decode cc pc = .ok (.invokevirtual ix, 3)) : x_Cl cc own nL nm MC MS pc q' (n + 1) := by
  refine ⟨h19, ?_⟩
  intro p l e R s m args below meth c C1 H locs cells slots mc ms ls rest vargs Pc Qc free rm hM hbl hpre hrec hlen hrc hrs hfr hlo hsz hcat hf
  rcases hrec with h | ⟨b, As, rfl, cellB, k1, k2, k3⟩
  · exact absurd h ho
  · have hts := C1.1.2.2.2.2
    have cb := x_cn (R := R) hts hcode hgood hini (C1.2.2.2.2.2.2.2.2 _ hl) hrc hrs hd ⟨hfr, hlo⟩
    exact va_runVN C1.1 hM ⟨cb, hts _ hinst, hts _ hsel⟩ ⟨hbl, ⟨cellB, k1, k2, k3⟩, hpre⟩ rfl (by simpa using hlen) hsz (by simp) (lv_room hcat) d hf
theorem xr_callSN {q' : xM} {ix n : Nat} {host : String} (hcode : Cond.code (xm_y q') (xm_b q') (xm_l q') (xm_r q') ∈ x_tbl) (hgood : x_tbl.all goodWord = true) (hini : Cond.initialized (xm_y q').cls ∈ x_tbl) (hl : (own, ix, xm_y q', host) ∈ x_nest) (hst : Cond.static (xm_y q') ∈ x_tbl) (h19 : 19 + xm_l q' ≤ 64)
    (hd : (xm_y q').cls ≠ "java/lang/invoke/MethodHandle" ∧ (xm_y q').cls ≠ "java/lang/invoke/VarHandle" ∧ (parseMethodDescriptor (xm_y q').desc).map (fun d => d.parameters.length) = some n) (d : decode cc pc = .ok (.invokestatic ix, 3)) : x_Cl cc own nL nm MC MS pc q' n := by
  refine ⟨h19, ?_⟩
  intro p l e R s m args below meth c C1 H locs cells slots mc ms ls rest vargs Pc Qc free rm hM hbl hpre hrec hlen hrc hrs hfr hlo hsz hcat hf
  have hts := C1.1.2.2.2.2
  have cb := x_cn (R := R) hts hcode hgood hini (C1.2.2.2.2.2.2.2.2 _ hl) hrc hrs hd ⟨hfr, hlo⟩
  exact va_runSN C1.1 hM ⟨cb, hts _ hst, trivial⟩ ⟨hbl, hpre⟩ rfl hlen hsz rfl (lv_room hcat) d hf
/-- a tableswitch by its ranges -/
theorem xr_tsw {dflt lo hi : Int} {offs : Array Int} {len : Nat} {l : List (Int × Int × Nat)} (d : decode cc pc = .ok (.tableswitch dflt lo hi offs, len)) (hd : ∃ q ∈ l, q.1 = -2147483648 ∧ q.2.1 = lo - 1 ∧ (pc : Int) + dflt = (q.2.2 : Int)) (hd2 : ∃ q ∈ l, q.1 = hi + 1 ∧ q.2.1 = 2147483647 ∧ (pc : Int) + dflt = (q.2.2 : Int))
    (hm : ∀ j : Nat, (j : Int) < hi + 1 - lo → ∃ q ∈ l, q.1 = lo + j ∧ q.2.1 = lo + j ∧ ∃ off, offs[j]? = some off ∧ (pc : Int) + off = (q.2.2 : Int)) : x_Snd cl K cc own nL nm MC MS pc (xi_sw l) := xi_sw_ok (fun x => by
  have hr := x_rng x
  by_cases h1 : x.toInt < lo
  · obtain ⟨q, hq, e1, e2, e3⟩ := hd
    exact ⟨q, hq, by omega, by omega, (fun S => fun k => lv_tableOut S.1 S.2.1 d (Or.inl h1) e3 k)⟩
  · by_cases h2 : hi < x.toInt
    · obtain ⟨q, hq, e1, e2, e3⟩ := hd2
      exact ⟨q, hq, by omega, by omega, (fun S => fun k => lv_tableOut S.1 S.2.1 d (Or.inr h2) e3 k)⟩
    · obtain ⟨q, hq, e1, e2, off, e3, e4⟩ := hm (x.toInt - lo).toNat (by omega)
      exact ⟨q, hq, by omega, by omega, (fun S => fun k => lv_tableIn S.1 S.2.1 d h1 h2 e3 e4 k)⟩)
end X12
end
