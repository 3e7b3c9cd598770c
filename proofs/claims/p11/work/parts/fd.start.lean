noncomputable section
def R_law : String := "RobotCellHouseLaw"
def lw_P (b : Addr) (xs : List Int32) (args : Array Value) (s : State) : Prop := args = #[.ref b] ∧ s.IntsAt b xs ∧ xs.length ≤ 3072 ∧ (Jvm.Cond.and given_1 narrow_1).before args s = true
def lw_Q (_ : Array Value) (s : State) (o : Outcome) (t : State) : Prop := o = .returned (some (.int 1)) ∧ Framed s o t [] 60000 8922250
def lw_Z (below : List Frame) (a : Array Value) (s : State) : State → Prop := fun t => ∃ o, t.status = .running ∧ Ended t below o ∧ lw_Q a s o t
/-- the law's own end, with 1 on the stack, nothing written that was there before, its room as the claim has it -/
theorem lw_ret {p : Program} {l : Launch} {e : Env} {s : State} {m : MethodId} {below : List Frame} {meth : Method} {c : Code} {b : Nat} (hx : p.tables.exec = Jvm.exec) (hb : c.code = code) (hr : meth.sig.returnType = ret) (hlocks : meth.locks = false) {pc : Nat} {H : Heap} {ls : Array Slot} (hdg : decode code pc = .ok (.ireturn, 1)) : W p l e room_1 s m #[Value.ref b] below meth c H [] 60000 8922250 (lw_Z below #[Value.ref b] s) (F0 m pc ls [.int 1]) := by
  intro T hT X
  obtain ⟨fs, hret, hrun, hended, hW, hframe⟩ := X.leave (v := some (.int 1)) (hlocks := hlocks) (fun h => by rw [hr] at h; cases h)
  have hmeth' : T.vm.method? m = some meth := X.method'
  refine ⟨T.setFrames fs, ?_, .returned (some (.int 1)), hrun, hended, rfl, ⟨_, rfl⟩, hW, hframe⟩
  jvm_step X.here [X.here.top, hx, hb, hdg, hmeth', hr, ret, narrow_b1]
  (try refine ⟨rfl, ?_⟩); (try refine ⟨rfl, ?_⟩)
  first | (intro acts; rw [hret _ acts rfl rfl rfl]) | rw [hret _ _ rfl rfl rfl]
  exact Steps.refl _
/-- what holds at the law's entry: the machine, the code, the tables' words (any of lw_tbl by 'hts w (by decide +kernel)'), the script of L ints xs at the cell b, what the Statement gives of the start (any of its parts by flat_of_before) -/
def lw_At (p : Program) (s : State) (m : MethodId) (meth : Method) (c : Code) (b L : Nat) (xs : Nat → Int32) : Prop :=
  p.tables.exec = Jvm.exec ∧ c.code = code ∧ meth.sig.returnType = ret ∧ c.maxLocals = 4 ∧ s.vm.findClass R_law = some m.cls ∧ (∀ w ∈ lw_tbl, w.before #[Value.ref b] s = true) ∧ va_X b L xs s s.heap ∧ b < s.heap.size ∧ meth.locks = false ∧ (Jvm.Cond.and given_1 narrow_1).before #[Value.ref b] s = true ∧ meth.name = "law"
theorem lwA_perm {ad : List Nat} {ce sl nL : Nat} {p : Program} {l : Launch} {e : Env} {R : Room} {s : State} {m : MethodId} {args : Array Value} {below : List Frame} {meth : Method} {c : Code} {D : va_G} {A : Nat → Prop} {H0 : Heap} {Q : State → Prop} {pc : Nat} {x0 x1 x2 x3 : Nat × eV} {st : List eV} {w : eW} (h : e_Good eft cls elay ad ce sl nL p l e R s m args below meth c D A H0 Q (pc, [x3, x0, x1, x2], st, w)) : e_Good eft cls elay ad ce sl nL p l e R s m args below meth c D A H0 Q (pc, [x0, x1, x2, x3], st, w) := fun ls stk H locs hI => by
  obtain ⟨lv, ws, tys, h1, h2, h3⟩ := hI
  match lv, h2 with
  | [q0, q1, q2, q3], h2 =>
    refine h ls stk H locs ⟨[q3, q0, q1, q2], ws, tys, ⟨h1.1, h1.2.1, fun q hq => h1.2.2 q ?_⟩, ⟨h2.2.2.2.1, h2.1, h2.2.1, h2.2.2.1, trivial⟩, h3⟩
    simp only [List.mem_cons, List.not_mem_nil, or_false] at hq ⊢
    rcases hq with e | e | e | e
    · exact Or.inr (Or.inr (Or.inr e))
    · exact Or.inl e
    · exact Or.inr (Or.inl e)
    · exact Or.inr (Or.inr (Or.inl e))
theorem elay_len7 : elay.length = 357 := by decide +kernel
theorem w18_fit : w_18.all (e_fitC eft) = true := by decide +kernel
set_option maxHeartbeats 4000000 in
theorem whole_start {p : Program} {e : Env} {s : State} {m : MethodId} {below : List Frame} {meth : Method} {c : Code} (l : Launch) {b L : Nat} {xs : Nat → Int32} (hL : L ≤ 3072) (C0 : lw_At p s m meth c b L xs) : W p l e room_1 s m #[Value.ref b] below meth c s.heap [] 0 0 (lw_Z below #[Value.ref b] s) (entryFrame m ([Value.ref b] : List Value).toArray 4) := by
  obtain ⟨hx, hb, hr, hml, hown, hts, hX, hbl, hlocks, hgv, hnm⟩ := C0
  have hA : ∀ q : Nat, s.heap.size ≤ q → (fun q : Nat => s.heap.size ≤ q) q := fun _ h => h
  have hbA : ¬ (fun q : Nat => s.heap.size ≤ q) b := Nat.not_le.mpr hbl
  have hnA : ∀ a : Nat, a < s.heap.size → ¬ (fun q : Nat => s.heap.size ≤ q) a := fun a h => Nat.not_le.mpr h
  have htx := x_tblw hts
  obtain ⟨D, hK⟩ := x_kn htx
  have C : x_Cx (xm_b (xJ 0)) (xm_y (xJ 0)).cls (xm_l (xJ 0)) (xm_y (xJ 0)).name (xm_c (xJ 0)) (xm_s (xJ 0)) p room_1 s m #[Value.ref b] meth c := ⟨⟨hx, hb, hml, hown, htx⟩, hnm, rfl, rfl, by decide, by decide, x_exw hts⟩
  have hV : x_KK (fun _ => True) 0 room_1 s (fun q : Nat => s.heap.size ≤ q) s.heap (x_vs 0 xs) (b, 0, []) := x_vs_PV (P := fun _ => True) trivial
  obtain ⟨aK, aS, aN, bK, bS, hO⟩ := old_of (fun w hw => hts w (List.mem_append_right _ hw)) hgv hnA
  have g18 : x_Good cls (x_vs 0 xs) (b, 0, []) (xm_l (xJ 0)) p l e room_1 s m #[Value.ref b] below meth c D (fun q : Nat => s.heap.size ≤ q) s.heap (lw_Z below #[Value.ref b] s) s_18 := by
    intro ls stk H locs hI
    obtain ⟨lv, ws, tys, h1, h2, h3, h4, h5, h6, h7, h8, h9⟩ := hI
    obtain ⟨w, hw, hpic⟩ := e_world_of (ft := eft) [aK, aS, aN, bK, bS, b] w18_fit h4
    rw [w18_lay] at hw
    have hlen : ws.length = 357 := by
      rw [← hw.2.1]
      exact elay_len7
    have hpre : (ws.map Prod.fst).length = 357 := by rw [List.length_map]; exact hlen
    have hOld := hO (ws.map Prod.fst) [b] hpre
    generalize hAd : ws.map Prod.fst ++ [aK, aS, aN, bK, bS, b] = ad at hw
    rw [show aK :: aS :: aN :: bK :: bS :: [b] = [aK, aS, aN, bK, bS, b] from rfl, hAd] at hOld
    have had : ad.length ≤ 400 := by rw [← hAd, List.length_append, hpre]; show 357 + 6 ≤ 400; decide
    have ad362 : ad[362]? = some b := by rw [← hAd, List.getElem?_append_right (by rw [hpre]; decide), hpre]; rfl
    have eu : ∃ u : eW, (∀ c k, e_inL c k → u c k = w c k) ∧ ∀ c k, ¬ e_inL c k → u c k = e_dz c k := ⟨fun c k => @ite Int (e_inL c k) (Classical.propDecidable _) (w c k) (e_dz c k), fun c k h => if_pos h, fun c k h => if_neg h⟩
    obtain ⟨u, u1, u2⟩ := eu
    have hi0 : i0 w u := ⟨hpic, u1, u2⟩
    have hwu := e_world_eq hw u1
    have hall : e_all u := fun c k => by
      by_cases h : e_inL c k
      · exact hwu.kn had c k h
      · rw [u2 c k h]
        exact e_dz_kn c k
    have Ce : x_Cx (xm_b (eI 0)) (xm_y (eI 0)).cls (xm_l (eI 0)) (xm_y (eI 0)).name (xm_c (eI 0)) (xm_s (eI 0)) p room_1 s m #[Value.ref b] meth c := C
    have hce : 357 ≤ xm_c (eI 0) := by decide
    have hsl : 1288246 ≤ xm_s (eI 0) := by decide
    have hS := law_gs (ad := ad) (ce := 357) (sl := 1288246) (e := e) (l := l) (below := below) (D := D) (Q := lw_Z below #[Value.ref b] s) (xs := xs) hL Ce hce hsl hA hX hbl hbA ad362
    have hCk : law_GC L xs kcode Bk (fun t => e_Good eft cls elay ad 357 1288246 (xm_l (eI 0)) p l e room_1 s m #[Value.ref b] below meth c D (fun q : Nat => s.heap.size ≤ q) s.heap (lw_Z below #[Value.ref b] s) t) := fun M' na pc f st l0 v Q' hc hm q1 q2 q3 q4 q5 q6 => by
      have hE := codeL_ok L xs pc
      rw [hc] at hE
      exact law_call kc_tabR kAlk kc_in Bk_B had Ce hce hsl (by decide) (by decide) hA hE hm q1 q2 q3 q4 q5 q6
    have hCm : law_GC L xs ecode Bm (fun t => e_Good eft cls elay ad 357 1288246 (xm_l (eI 0)) p l e room_1 s m #[Value.ref b] below meth c D (fun q : Nat => s.heap.size ≤ q) s.heap (lw_Z below #[Value.ref b] s) t) := fun M' na pc f st l0 v Q' hc hm q1 q2 q3 q4 q5 q6 => by
      have hE := codeL_ok L xs pc
      rw [hc] at hE
      exact law_call ec_tabR eAlk ec_in Bm_B had Ce hce hsl (by decide) (by decide) hA hE hm q1 q2 q3 q4 q5 q6
    have hEnd : ∀ (i : Int) (v : eW), e_Good eft cls elay ad 357 1288246 (xm_l (eI 0)) p l e room_1 s m #[Value.ref b] below meth c D (fun q : Nat => s.heap.size ≤ q) s.heap (lw_Z below #[Value.ref b] s) (2149, [(3, (0, i)), (0, (1, 362)), (1, (1, 0)), (2, (1, 275))], [(0, 1)], v) := by
      intro i v ls' stk' H' locs' hI'
      obtain ⟨lv', ws', tys', k1, k2, k3, k4, k5, k6, k7, k8⟩ := hI'
      match stk', k3 with
      | [x], k3 =>
        obtain ⟨n, rfl, hn⟩ := e_int k3.1
        have en : n = 1 := Int32.toInt_inj.mp (hn.trans (by decide))
        subst en
        have dr : decode code 2149 = .ok (.ireturn, 1) := by decide +kernel
        exact va_forget (fun q hq => k8.2.2 q hq) (W.widen (by decide) (by decide) (lw_ret hx hb hr hlocks dr))
    have main := law_loop hS hCk hCm hL hEnd (L + 8) 0 u (hi0.lwS hall) (by decide) (by omega) (by omega)
    have mainA := lwA_perm (x0 := (0, (1, 362))) (x1 := (1, (1, 0))) (x2 := (2, (1, 275))) (x3 := (3, (0, 0))) main
    have hst : stk = [] := by
      match stk, h3 with
      | [], _ => rfl
    subst hst
    match lv, h2 with
    | [q0, q1, q2, q3], h2 =>
      obtain ⟨a0, a1, a2, a3, -⟩ := h2
      have r0 : e_rel ad (1, 362) q0.2 := by
        obtain ⟨ev, -⟩ := a0.2
        rw [ev]
        exact e_ref1 (by decide) ad362
      have pre : ∀ (j a : Nat), (ws.map Prod.fst)[j]? = some a → ad[j]? = some a := fun j a q => by
        rw [← hAd, List.getElem?_append_left (List.getElem?_eq_some_iff.mp q).1]
        exact q
      have r1 : e_rel ad (1, 0) q1.2 := by
        obtain ⟨a', g1, g2⟩ := a1.2
        rw [g2]
        exact e_ref1 (by decide) (pre 0 a' g1)
      have r2 : e_rel ad (1, 275) q2.2 := by
        obtain ⟨a', g1, g2⟩ := a2.2
        rw [g2]
        exact e_ref1 (by decide) (pre 275 a' g1)
      have r3 : e_rel ad (0, 0) q3.2 := by
        obtain ⟨n, g1, g2, g3⟩ := a3.2
        simp only at g2 g3
        exact ⟨n, g1, by show n.toInt = 0; omega⟩
      exact mainA ls [] H locs ⟨[q0, q1, q2, q3], ws, tys, h1, ⟨⟨a0.1, r0⟩, ⟨a1.1, r1⟩, ⟨a2.1, r2⟩, ⟨a3.1, r3⟩, trivial⟩, trivial, hwu, ⟨h5, hOld⟩, h6, h7, h8⟩
  have one : ∀ (t : xS), t.2.2.2.2.1.length = 32 → ∀ v ∈ [t], v.2.2.2.2.1.length = 32 := fun t h v hv => by rw [List.mem_singleton] at hv; subst hv; exact h
  have oneG : ∀ (t : xS), x_Good cls (x_vs 0 xs) (b, 0, []) (xm_l (xJ 0)) p l e room_1 s m #[Value.ref b] below meth c D (fun q : Nat => s.heap.size ≤ q) s.heap (lw_Z below #[Value.ref b] s) t → ∀ v ∈ [t], x_Good cls (x_vs 0 xs) (b, 0, []) (xm_l (xJ 0)) p l e room_1 s m #[Value.ref b] below meth c D (fun q : Nat => s.heap.size ≤ q) s.heap (lw_Z below #[Value.ref b] s) v := fun t h v hv => by rw [List.mem_singleton] at hv; subst hv; exact h
  have hd : 12 ≤ room_1.frames := by decide
  have hdl : 64 * 12 ≤ room_1.locals := by decide
  have g8 := x_ends_ok g_18 (one s_18 rfl) C hd hdl hA hV (oneG s_18 g18)
  have g0 := x_ends_ok g_8 (one s_8p rfl) C hd hdl hA hV (oneG s_8p g8)
  have hl := lv_entry ([.ref b]) (n := 4) (Nat.le_of_ble_eq_true rfl)
  rw [lg_entry_eq]
  generalize (lg_sl ([.ref b]) ++ List.replicate (4 - (lg_sl ([.ref b])).length) Slot.unset).toArray = ls at hl ⊢
  have hl : lv_has ls 4 [(0, .ref b)] := hl
  exact g0 ls [] s.heap [] ⟨[(0, .ref b)], [], [], hl, ⟨⟨rfl, ⟨rfl, rfl⟩⟩, trivial⟩, trivial, ⟨rfl, ⟨[], rfl⟩, fun k x q hx => by simp [s_0] at hx⟩, hK, (fun k q h => by simp at h), ⟨fun i j p q h => by simp at h, fun k q h => by simp at h⟩, va_S.rf, x_vs_tk (by decide)⟩
end
