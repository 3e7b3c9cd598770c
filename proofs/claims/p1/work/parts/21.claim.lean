/-! THE CLAIM OUT OF ONE WALK OF THE LAW'S BODY. Your part is whole_start (and what it stands on); all else here is the same for every law, but numbers. -/
def R_law : String := "RobotCellHouseLaw"
def lw_P (b : Addr) (xs : List Int32) (args : Array Value) (s : State) : Prop := args = #[.ref b] ∧ s.IntsAt b xs ∧ xs.length ≤ 6 ∧ (Jvm.Cond.and given_1 narrow_1).before args s = true
def lw_Q (_ : Array Value) (s : State) (o : Outcome) (t : State) : Prop := o = .returned (some (.int 1)) ∧ Framed s o t [] 600000 7302250
def lw_Z (below : List Frame) (a : Array Value) (s : State) : State → Prop := fun t => ∃ o, t.status = .running ∧ Ended t below o ∧ lw_Q a s o t
/-- the law's own end, with 1 on the stack, nothing written that was there before, its room as the claim has it -/
theorem lw_ret {p : Program} {l : Launch} {e : Env} {s : State} {m : MethodId} {below : List Frame} {meth : Method} {c : Code} {b : Nat} (hx : p.tables.exec = Jvm.exec) (hb : c.code = code) (hr : meth.sig.returnType = ret) (hlocks : meth.locks = false) {pc : Nat} {H : Heap} {ls : Array Slot} (hdg : decode code pc = .ok (.ireturn, 1)) : W p l e room_1 s m #[Value.ref b] below meth c H [] 600000 7302250 (lw_Z below #[Value.ref b] s) (F0 m pc ls [.int 1]) := by
  intro T hT X
  obtain ⟨fs, hret, hrun, hended, hW, hframe⟩ := X.leave (v := some (.int 1)) (hlocks := hlocks) (fun h => by rw [hr] at h; cases h)
  have hmeth' : T.vm.method? m = some meth := X.method'
  refine ⟨T.setFrames fs, ?_, .returned (some (.int 1)), hrun, hended, rfl, ⟨_, rfl⟩, hW, hframe⟩
  jvm_step X.here [X.here.top, hx, hb, hdg, hmeth', hr, ret, narrow_b1]
  (try refine ⟨rfl, ?_⟩); (try refine ⟨rfl, ?_⟩)
  first | (intro acts; rw [hret _ acts rfl rfl rfl]) | rw [hret _ _ rfl rfl rfl]
  exact Steps.refl _
/-- what holds at the law's entry: the machine, the code, the tables' words (any of lw_tbl by 'hts w (by decide +kernel)'), the script of L ints xs at the cell b, what the Statement gives of the start (any of its parts by flat_of_before) -/
def lw_At (p : Program) (s : State) (m : MethodId) (meth : Method) (c : Code) (b L : Nat) (xs : Nat → Int32) : Prop :=
  p.tables.exec = Jvm.exec ∧ c.code = code ∧ meth.sig.returnType = ret ∧ c.maxLocals = 4 ∧ s.vm.findClass R_law = some m.cls ∧ (∀ w ∈ lw_tbl, w.before #[Value.ref b] s = true) ∧ va_X b L xs s s.heap ∧ b < s.heap.size ∧ meth.locks = false ∧ (Jvm.Cond.and given_1 narrow_1).before #[Value.ref b] s = true ∧ meth.name = "law"
-- ===== YOUR PART BEGINS =====
set_option maxHeartbeats 4000000 in
theorem whole_start {p : Program} {e : Env} {s : State} {m : MethodId} {below : List Frame} {meth : Method} {c : Code} (l : Launch) {b L : Nat} {xs : Nat → Int32} (hL : L ≤ 6) (C0 : lw_At p s m meth c b L xs) : W p l e room_1 s m #[Value.ref b] below meth c s.heap [] 0 0 (lw_Z below #[Value.ref b] s) (entryFrame m ([Value.ref b] : List Value).toArray 4) := by
  obtain ⟨hx, hb, hr, hml, hown, hts, hX, hbl, hlocks, hgv, hnm⟩ := C0
  have hA : ∀ q : Nat, s.heap.size ≤ q → (fun q : Nat => s.heap.size ≤ q) q := fun _ h => h
  have hbA : ¬ (fun q : Nat => s.heap.size ≤ q) b := Nat.not_le.mpr hbl
  have htx := x_tblw hts
  obtain ⟨D, hK⟩ := x_kn htx
  have C : x_Cx (xm_b (xI 0)) (xm_y (xI 0)).cls (xm_l (xI 0)) (xm_y (xI 0)).name (xm_c (xI 0)) (xm_s (xI 0)) p room_1 s m #[Value.ref b] meth c := ⟨⟨hx, hb, hml, hown, htx⟩, hnm, rfl, rfl, by decide, by decide, x_exw hts⟩
  have hSc : x_Scr room_1 s (fun q : Nat => s.heap.size ≤ q) s.heap (x_vs L xs) (b, 0, []) := ⟨L, xs, hX, hbl, hbA, hL, x_vs_get 15 (by decide), x_vs_get 16 (by decide), fun j hj => by
    have e1 : x_f L xs j = x_a L xs j := by
      rcases (show j = 0 ∨ j = 1 ∨ j = 2 ∨ j = 3 ∨ j = 4 ∨ j = 5 by omega) with rfl | rfl | rfl | rfl | rfl | rfl <;> rfl
    rw [x_vs_get j (by omega), e1]
    unfold x_a
    rw [if_pos hj]⟩
  have hKK : ∀ {P : (Nat → Int) → Prop}, P (x_f L xs) → x_KK P 0 room_1 s (fun q : Nat => s.heap.size ≤ q) s.heap (x_vs L xs) (b, 0, []) := fun h => ⟨x_vs_PV h, fun _ => hSc⟩
  have hd : 12 ≤ room_1.frames := by decide
  have hdl : 64 * 12 ≤ room_1.locals := by decide
  have hret : ∀ t, x_End t → x_Good cls (x_vs L xs) (b, 0, []) (xm_l (xI 0)) p l e room_1 s m #[Value.ref b] below meth c D (fun q : Nat => s.heap.size ≤ q) s.heap (lw_Z below #[Value.ref b] s) t := by
    intro t ⟨e1, e2, e3, e4⟩ ls stk H locs hI
    obtain ⟨lv, ws, tys, h1, h2, h3, h4, h5, h6, h7, h8, h9⟩ := hI
    rw [e2] at h3
    match stk, h3 with
    | [v], h3 =>
      obtain ⟨⟨n, rfl, n1, n2⟩, -⟩ := h3
      have en : n = 1 := x_eq32.mpr (by rw [show (1 : Int32).toInt = 1 from by decide]; simp only at n1 n2; omega)
      subst en
      rw [e1]
      refine va_forget (fun q hq => h8.2.2 q hq) (W.widen e3 e4 (lw_ret hx hb hr hlocks ?_))
      decide +kernel
  have hno : ∀ u ∈ ([] : List xS), u.2.2.2.2.1.length = 32 := fun u h => absurd h List.not_mem_nil
  have hnu : ∀ u ∈ ([] : List xS), x_Good cls (x_vs L xs) (b, 0, []) (xm_l (xI 0)) p l e room_1 s m #[Value.ref b] below meth c D (fun q : Nat => s.heap.size ≤ q) s.heap (lw_Z below #[Value.ref b] s) u := fun u h => absurd h List.not_mem_nil
  have arms : ∀ k : Nat, k < 52 → x_Good cls (x_vs L xs) (b, 0, []) (xm_l (xI 0)) p l e room_1 s m #[Value.ref b] below meth c D (fun q : Nat => s.heap.size ≤ q) s.heap (lw_Z below #[Value.ref b] s) (s_arm k k) := by
    intro k hk
    match k, hk with
    | 0, _ => exact x_ends_ok x_tab0 a_0 hno C hd hdl hA (hKK (P := fun _ => True) trivial) hret hnu
    | 1, _ => exact x_ends_ok x_tab0 a_1 hno C hd hdl hA (hKK (P := fun _ => True) trivial) hret hnu
    | 2, _ => exact x_ends_ok x_tab0 a_2 hno C hd hdl hA (hKK (P := fun _ => True) trivial) hret hnu
    | 3, _ => exact x_ends_ok x_tab0 a_3 hno C hd hdl hA (hKK (P := fun _ => True) trivial) hret hnu
    | 4, _ => exact x_ends_ok x_tab0 a_4 hno C hd hdl hA (hKK (P := fun _ => True) trivial) hret hnu
    | 5, _ => exact x_ends_ok x_tab0 a_5 hno C hd hdl hA (hKK (P := fun _ => True) trivial) hret hnu
    | 6, _ => exact x_ends_ok x_tab0 a_6 hno C hd hdl hA (hKK (P := fun _ => True) trivial) hret hnu
    | 7, _ => exact x_ends_ok x_tab0 a_7 hno C hd hdl hA (hKK (P := fun _ => True) trivial) hret hnu
    | 8, _ => exact x_ends_ok x_tab0 a_8 hno C hd hdl hA (hKK (P := fun _ => True) trivial) hret hnu
    | 9, _ => exact x_ends_ok x_tab0 a_9 hno C hd hdl hA (hKK (P := fun _ => True) trivial) hret hnu
    | 10, _ => exact x_ends_ok x_tab0 a_10 hno C hd hdl hA (hKK (P := fun _ => True) trivial) hret hnu
    | 11, _ => exact x_ends_ok x_tab0 a_11 hno C hd hdl hA (hKK (P := fun _ => True) trivial) hret hnu
    | 12, _ => exact x_ends_ok x_tab0 a_12 hno C hd hdl hA (hKK (P := fun _ => True) trivial) hret hnu
    | 13, _ => exact x_ends_ok x_tab0 a_13 hno C hd hdl hA (hKK (P := fun _ => True) trivial) hret hnu
    | 14, _ => exact x_ends_ok x_tab0 a_14 hno C hd hdl hA (hKK (P := fun _ => True) trivial) hret hnu
    | 15, _ => exact x_ends_ok x_tab0 a_15 hno C hd hdl hA (hKK (P := fun _ => True) trivial) hret hnu
    | 16, _ => exact x_ends_ok x_tab0 a_16 hno C hd hdl hA (hKK (P := fun _ => True) trivial) hret hnu
    | 17, _ => exact x_ends_ok x_tab0 a_17 hno C hd hdl hA (hKK (P := fun _ => True) trivial) hret hnu
    | 18, _ => exact x_ends_ok x_tab0 a_18 hno C hd hdl hA (hKK (P := fun _ => True) trivial) hret hnu
    | 19, _ => by_cases he : x_f L xs 1 = x_f L xs 2
               · exact x_ends_ok x_taba a_19a hno C hd hdl hA (hKK (P := fun f => f 1 = f 2) he) hret hnu
               · exact x_ends_ok x_tabb a_19b hno C hd hdl hA (hKK (P := fun f => f 1 ≠ f 2) he) hret hnu
    | 20, _ => exact x_ends_ok x_tab0 a_20 hno C hd hdl hA (hKK (P := fun _ => True) trivial) hret hnu
    | 21, _ => exact x_ends_ok x_tab0 a_21 hno C hd hdl hA (hKK (P := fun _ => True) trivial) hret hnu
    | 22, _ => exact x_ends_ok x_tab0 a_22 hno C hd hdl hA (hKK (P := fun _ => True) trivial) hret hnu
    | 23, _ => exact x_ends_ok x_tab0 a_23 hno C hd hdl hA (hKK (P := fun _ => True) trivial) hret hnu
    | 24, _ => exact x_ends_ok x_tab0 a_24 hno C hd hdl hA (hKK (P := fun _ => True) trivial) hret hnu
    | 25, _ => exact x_ends_ok x_tab0 a_25 hno C hd hdl hA (hKK (P := fun _ => True) trivial) hret hnu
    | 26, _ => exact x_ends_ok x_tab0 a_26 hno C hd hdl hA (hKK (P := fun _ => True) trivial) hret hnu
    | 27, _ => exact x_ends_ok x_tab0 a_27 hno C hd hdl hA (hKK (P := fun _ => True) trivial) hret hnu
    | 28, _ => exact x_ends_ok x_tab0 a_28 hno C hd hdl hA (hKK (P := fun _ => True) trivial) hret hnu
    | 29, _ => exact x_ends_ok x_tab0 a_29 hno C hd hdl hA (hKK (P := fun _ => True) trivial) hret hnu
    | 30, _ => exact x_ends_ok x_tab0 a_30 hno C hd hdl hA (hKK (P := fun _ => True) trivial) hret hnu
    | 31, _ => exact x_ends_ok x_tab0 a_31 hno C hd hdl hA (hKK (P := fun _ => True) trivial) hret hnu
    | 32, _ => exact x_ends_ok x_tab0 a_32 hno C hd hdl hA (hKK (P := fun _ => True) trivial) hret hnu
    | 33, _ => exact x_ends_ok x_tab0 a_33 hno C hd hdl hA (hKK (P := fun _ => True) trivial) hret hnu
    | 34, _ => exact x_ends_ok x_tab0 a_34 hno C hd hdl hA (hKK (P := fun _ => True) trivial) hret hnu
    | 35, _ => exact x_ends_ok x_tab0 a_35 hno C hd hdl hA (hKK (P := fun _ => True) trivial) hret hnu
    | 36, _ => exact x_ends_ok x_tab0 a_36 hno C hd hdl hA (hKK (P := fun _ => True) trivial) hret hnu
    | 37, _ => exact x_ends_ok x_tab0 a_37 hno C hd hdl hA (hKK (P := fun _ => True) trivial) hret hnu
    | 38, _ => exact x_ends_ok x_tab0 a_38 hno C hd hdl hA (hKK (P := fun _ => True) trivial) hret hnu
    | 39, _ => exact x_ends_ok x_tab0 a_39 hno C hd hdl hA (hKK (P := fun _ => True) trivial) hret hnu
    | 40, _ => exact x_ends_ok x_tab0 a_40 hno C hd hdl hA (hKK (P := fun _ => True) trivial) hret hnu
    | 41, _ => exact x_ends_ok x_tab0 a_41 hno C hd hdl hA (hKK (P := fun _ => True) trivial) hret hnu
    | 42, _ => exact x_ends_ok x_tab0 a_42 hno C hd hdl hA (hKK (P := fun _ => True) trivial) hret hnu
    | 43, _ => exact x_ends_ok x_tab0 a_43 hno C hd hdl hA (hKK (P := fun _ => True) trivial) hret hnu
    | 44, _ => exact x_ends_ok x_tab0 a_44 hno C hd hdl hA (hKK (P := fun _ => True) trivial) hret hnu
    | 45, _ => exact x_ends_ok x_tab0 a_45 hno C hd hdl hA (hKK (P := fun _ => True) trivial) hret hnu
    | 46, _ => exact x_ends_ok x_tab0 a_46 hno C hd hdl hA (hKK (P := fun _ => True) trivial) hret hnu
    | 47, _ => exact x_ends_ok x_tab0 a_47 hno C hd hdl hA (hKK (P := fun _ => True) trivial) hret hnu
    | 48, _ => exact x_ends_ok x_tab0 a_48 hno C hd hdl hA (hKK (P := fun _ => True) trivial) hret hnu
    | 49, _ => exact x_ends_ok x_tab0 a_49 hno C hd hdl hA (hKK (P := fun _ => True) trivial) hret hnu
    | 50, _ => exact x_ends_ok x_tab0 a_50 hno C hd hdl hA (hKK (P := fun _ => True) trivial) hret hnu
    | 51, _ => exact x_ends_ok x_tab0 a_51 hno C hd hdl hA (hKK (P := fun _ => True) trivial) hret hnu
    | k + 52, hk => omega
  have last : x_Good cls (x_vs L xs) (b, 0, []) (xm_l (xI 0)) p l e room_1 s m #[Value.ref b] below meth c D (fun q : Nat => s.heap.size ≤ q) s.heap (lw_Z below #[Value.ref b] s) (s_arm 52 63) := x_ends_ok x_tab0 a_52 hno C hd hdl hA (hKK (P := fun _ => True) trivial) hret hnu
  have g33 : x_Good cls (x_vs L xs) (b, 0, []) (xm_l (xI 0)) p l e room_1 s m #[Value.ref b] below meth c D (fun q : Nat => s.heap.size ≤ q) s.heap (lw_Z below #[Value.ref b] s) s_33 := by
    intro ls stk H locs hI
    obtain ⟨n, n1, n2, hn⟩ := x_armIn hI
    by_cases h52 : n < 52
    · have e : ((n.toNat : Nat) : Int) = n := by omega
      exact arms n.toNat (by omega) ls stk H locs (hn _ _ (by omega) (by omega))
    · exact last ls stk H locs (hn 52 63 (by omega) n2)
  have one : ∀ (u : xS), u.2.2.2.2.1.length = 32 → ∀ v ∈ [u], v.2.2.2.2.1.length = 32 := fun u h v hv => by rw [List.mem_singleton] at hv; subst hv; exact h
  have oneG : ∀ (u : xS), x_Good cls (x_vs L xs) (b, 0, []) (xm_l (xI 0)) p l e room_1 s m #[Value.ref b] below meth c D (fun q : Nat => s.heap.size ≤ q) s.heap (lw_Z below #[Value.ref b] s) u → ∀ v ∈ [u], x_Good cls (x_vs L xs) (b, 0, []) (xm_l (xI 0)) p l e room_1 s m #[Value.ref b] below meth c D (fun q : Nat => s.heap.size ≤ q) s.heap (lw_Z below #[Value.ref b] s) v := fun u h v hv => by rw [List.mem_singleton] at hv; subst hv; exact h
  have g18 := x_ends_ok x_tab0 g_33 (one s_33 rfl) C hd hdl hA (hKK (P := fun _ => True) trivial) hret (oneG s_33 g33)
  have g8 := x_ends_ok x_tab0 g_18 (one s_18 rfl) C hd hdl hA (hKK (P := fun _ => True) trivial) hret (oneG s_18 g18)
  have g0 := x_ends_ok x_tab0 g_8 (one s_8 rfl) C hd hdl hA (hKK (P := fun _ => True) trivial) hret (oneG s_8 g8)
  have hl := lv_entry ([.ref b]) (n := 4) (Nat.le_of_ble_eq_true rfl)
  rw [lg_entry_eq]
  generalize (lg_sl ([.ref b]) ++ List.replicate (4 - (lg_sl ([.ref b])).length) Slot.unset).toArray = ls at hl ⊢
  have hl : lv_has ls 4 [(0, .ref b)] := hl
  exact g0 ls [] s.heap [] ⟨[(0, .ref b)], [], [], hl, ⟨⟨rfl, ⟨rfl, rfl⟩⟩, trivial⟩, trivial, ⟨rfl, ⟨[], rfl⟩, fun k x q hx => by simp [s_0] at hx⟩, hK, (fun k q h => by simp at h), ⟨fun i j p q h => by simp at h, fun k q h => by simp at h⟩, va_S.rf, x_vs_tk hL⟩
-- ===== YOUR PART ENDS =====
set_option maxHeartbeats 4000000 in
theorem lw_walk (l : Launch) (b : Addr) (xs : List Int32) : MetFree l x (headSpec (Jvm.Cond.code x code maxLocals ret :: tables_1) room_1) (lw_P b xs) (fun _ _ _ _ _ => True) lw_Q := by
  refine MetFree.of_bodyS (code := code) (maxLocals := maxLocals) (ret := ret) (by decide) ?_ ?_
  · intro args s m h hn
    obtain ⟨meth, c, h1, h2, h3, h4, h5, h6, -, -⟩ := Cond.code_spec hn (atoms_spec (ws := Jvm.Cond.code x code maxLocals ret :: tables_1) h _ List.mem_cons_self)
    exact ⟨meth, c, h1, h2, h3, h4, h5, h6⟩
  · intro p e s m args below meth c s₁ B hml0 hP _
    obtain ⟨rfl, hx, hbd, hgv⟩ := hP
    obtain ⟨scr, harrAt, hlist, hof, hsmall⟩ := hx
    obtain ⟨hcb, hkn, -, -⟩ := State.arrayAt?_spec harrAt
    have hown : s.vm.findClass R_law = some m.cls := findClass_of_methodNamed B.named
    have hts0 : ∀ c ∈ (Jvm.Cond.code x code maxLocals ret :: tables_1), c.before #[Value.ref b] s = true := atoms_spec (ws := Jvm.Cond.code x code maxLocals ret :: tables_1) B.pre
    have hts : ∀ w ∈ lw_tbl, w.before #[Value.ref b] s = true := k2_hts_sels lw_privs (fun w hw => hts0 w (List.mem_cons_of_mem _ hw)) lw_privs_ok
    have hml : c.maxLocals = 4 := B.maxLocals_eq (hts0 _ List.mem_cons_self)
    have X₀ : Stand p l e room_1 s m #[Value.ref b] below meth c s₁ [] 0 0 := Stand.of_body B
    have hh0 : s₁.heap = s.heap := by rw [B.state]; rfl
    have hsz : scr.slots.size = xs.length := by rw [← Array.length_toList, hlist, List.length_map]
    have hval : ∀ j : Nat, j < xs.length → scr.slots[j]? = some (.int (xs.getD j 0)) := fun j hj => by
      rw [← Array.getElem?_toList, hlist]
      simp [hj]
    have hbl : b < s.heap.size := (Array.getElem?_eq_some_iff.mp hcb).1
    have hX : va_X b xs.length (fun j => xs.getD j 0) s s.heap := ⟨scr, hcb, hof, hkn, hsz, hval⟩
    have K : W p l e room_1 s m #[Value.ref b] below meth c s₁.heap [] 0 0 (lw_Z below #[Value.ref b] s) (entryFrame m ([Value.ref b] : List Value).toArray 4) := by
      rw [hh0]
      exact whole_start l hbd ⟨B.exec, B.bytes, B.returns, hml, hown, hts, hX, hbl, B.notSynchronized, hgv, (name_of_methodNamed B.named B.method).1⟩
    obtain ⟨t, a1, o, b1, b2, b3⟩ := K s₁ rfl X₀
    exact ⟨t, o, a1, b1, b2, b3⟩
theorem lw_pre_spec {args : Array Value} {s : State} (h : (Jvm.Cond.and given_1 narrow_1).before args s = true) (hr : rest_1_c.before args s = true) : ∃ (b : Addr) (xs : List Int32), lw_P b xs args s := by
  have hs := flat_of_before _ h
  have hq := flat_of_before _ hr
  have hc : (Cond.count 1).before args s = true := hs _ (by decide +kernel)
  have harr : (Cond.arrayOf (.arg 0) .int).before args s = true := hs _ (by decide +kernel)
  have hle : (Cond.le (.length (.arg 0)) (.int 6)).before args s = true := hs _ (by decide +kernel)
  have hlen : (Cond.isInt (.length (.arg 0))).before args s = true := hq _ (by decide +kernel)
  have hall : (Cond.all (.arg 0) (.isInt (.elem (.arg 0) (.index 0)))).before args s = true := hq _ (by decide +kernel)
  obtain ⟨b, xs, hb, hx⟩ := State.ints_of_pre rfl harr hlen hall
  have hsm : xs.length < 2 ^ 31 := hx.choose_spec.2.2.2
  have hev : (Term.length (.arg 0)).eval args s none [] s = some (.int xs.length.toInt32) := hx.length_eval hb
  have hv := Cond.le_ints hev (show (Term.int 6).eval args s none [] s = some (.int 6) from rfl)
  have hd : xs.length.toInt32 ≤ 6 := by
    simpa [Cond.before, Cond.holds, hv] using hle
  have hN : xs.length ≤ 6 := (Int32.ofNat_le_ofNat hsm (by decide)).mp (show Int32.ofNat xs.length ≤ Int32.ofNat 6 from hd)
  exact ⟨b, xs, Cond.one_arg hc (show args[0]? = some (.ref b) from hb), hx, hN, h⟩
theorem lw_comes (l : Launch) : Comes l x (Jvm.Cond.code x code maxLocals ret :: tables_1) room_1 (fun tb e args s => Calls_1 tb e args s ∧ rest_1 tb e args s ∧ Pre_1 tb e args s)
    (fun _ _ args s o t => lw_Q args s o t) := by
  intro p e ha hc hk s m args below hf hfit hheap happ hpre
  obtain ⟨b, xs, hP⟩ := lw_pre_spec hpre.2.2 hpre.2.1
  obtain ⟨k, o, h1, h2, h3, hQ⟩ := lw_walk l b xs p e ha hc hk s m args below hf ((Spec.applies_iff_loose hf).mp happ).1 hP trivial
  exact ⟨k, o, h1, h2, h3, hQ⟩
theorem lw_frame {s t : State} {o : Outcome} {args : Array Value} (h : Framed s o t [] 600000 7302250) :
    Framed s o t (fieldLocs frame_1_writes args s ++ arrayLocs frame_1_arrays args s ++ staticLocs frame_1_statics s) 600000 7302250 := h
theorem lw_limb (L : Cond) (hL : ∀ (args : Array Value) (s t : State), L.after args s (.returned (some (.int 1))) t = true) :
    ArmFor flags0 classFile x code maxLocals ret World_1 tables_1 room_1 Calls_1 rest_1 Pre_1
      (fun tb e a s o t => postC L tb e a s o t ∧ Framed s o t (fieldLocs frame_1_writes a s ++ arrayLocs frame_1_arrays a s ++ staticLocs frame_1_statics s) 600000 7302250) := by
  intro l _ _ _ p e ha hc hk s m args below hf hfit hheap happ hpre
  obtain ⟨k, o, h1, h2, h3, rfl, hF⟩ := lw_comes l p e ha hc hk s m args below hf hfit hheap happ hpre
  exact ⟨k, _, h1, h2, h3, hL args s _, lw_frame hF⟩
theorem i_vc : Claimed_1_1 ∧ Claimed_1_2 := ⟨lw_limb limb_1_1 (fun args s t => by simp [limb_1_1, Cond.after, Cond.holds, Cond.value]), lw_limb limb_1_2 (fun args s t => Cond.after_iff.mpr (by
  first | (rw [show limb_1_2 = Cond.eq .result (.int 1) from rfl, Cond.eq_ints (x := 1) (y := 1) rfl rfl]; simp; done) | (simp [limb_1_2, Cond.value, Term.eval]; done)))⟩
