noncomputable section
/-! what the engine says holds -/
def x_Tab (fd : Nat) (PV : List Int → Prop) (cl : List vw_C) (KK : Nat → xKx) (I : Nat → xM) (code : Nat → Nat → xE) : Prop :=
  1 ≤ fd ∧ (∀ M pc, x_EOk cl (KK M) I M pc (code M pc)) ∧ (∀ M, plainName (xm_y (I M)).cls = true) ∧ (∀ M, M ≠ 0 → ∀ (R : Room) s A H V sc, fd ≤ R.frames → 64 * fd ≤ R.locals → PV V → KK M R s A H V sc) ∧ (∀ M, xm_o (I M) ≠ 999 → ∃ r, cl[xm_o (I M)]? = some r ∧ r.1 = (xm_y (I M)).cls) ∧
  ∀ V a k i, x_tok a = true → PV V → a + 3 < V.length ∧ V[a + 1]? = V[a]?.map (· + 1) ∧ V[a + 3]? = V[a + 2]?.map (· + 1) ∧ (a = 20 → ∀ x y, V[20]? = some x → V[22]? = some y → y ≤ x) ∧ ((a = 20 → i ≤ k) → PV (x_vup V a k i))
def x_Frm (fd : Nat) (PV : List Int → Prop) (cl : List vw_C) (KK : Nat → xKx) (I : Nat → xM) (code : Nat → Nat → xE) (lp : Nat → xLp) (l : Launch) (n : Nat) : Prop :=
  ∀ (d M : Nat) (sp : Nat × Nat) (t : xS) (Ls : List xS), x_go fd code lp I n d M sp t = some Ls → ∀ {V : List Int} {sc : Nat × Nat × List Nat} {p : Program} {e : Env} {R : Room} {s : State} {m : MethodId} {args : Array Value} {below : List Frame} {meth : Method} {c : Code} {D : va_G} {A : Nat → Prop} {H0 : Heap} {Q : State → Prop},
    x_Cx (xm_b (I M)) (xm_y (I M)).cls (xm_l (I M)) (xm_y (I M)).name (xm_c (I M)) (xm_s (I M)) p R s m args meth c → d ≤ R.frames → 64 * d ≤ R.locals → (∀ q : Nat, H0.size ≤ q → A q) → KK M R s A H0 V sc → PV V →
    (∀ t' ∈ Ls, x_Good cl V sc (xm_l (I M)) p l e R s m args below meth c D A H0 Q t') → x_Good cl V sc (xm_l (I M)) p l e R s m args below meth c D A H0 Q t
theorem x_rets_in {code : Nat → Nat → xE} {q : xM} {M : Nat} : ∀ {rs : List xS} {ls : List xK}, x_rets code q M rs = some ls → ∀ t ∈ rs, ∃ f k b lf, code M t.1 = (1, f, k, b) ∧ x_ret k q t = some lf ∧ lf ∈ ls
  | [], _, _, t, ht => absurd ht List.not_mem_nil
  | t0 :: rs, ls, h, t, ht => by
    unfold x_rets at h
    split at h
    · rename_i f k b hc
      split at h
      · rename_i lf hlf
        split at h
        · rename_i b' hb
          cases h
          rcases List.mem_cons.mp ht with rfl | ht
          · exact ⟨f, k, b, lf, hc, hlf, List.mem_cons_self⟩
          · obtain ⟨f', k', b'', lf', h1, h2, h3⟩ := x_rets_in hb t ht
            exact ⟨f', k', b'', lf', h1, h2, List.mem_cons_of_mem _ h3⟩
        · cases h
      · cases h
    · cases h
theorem x_loop_in {h e a : Nat} {c : Nat × Nat} {tk0 : xT} {u : xS} : ∀ {rs ex : List xS}, x_loop h e a c tk0 u rs = some ex → ∀ t ∈ rs, (x_again a c t u = true) ∨ (∃ t', x_out a tk0 t = some t' ∧ x_le a (99999, 99999) t t' = true ∧ t' ∈ ex)
  | [], _, _, t, ht => absurd ht List.not_mem_nil
  | t0 :: rs, ex, hh, t, ht => by
    unfold x_loop at hh
    cases h1 : Nat.beq t0.1 h with
    | true =>
      rw [h1] at hh
      simp only [cond_true] at hh
      cases h2 : x_again a c t0 u with
      | true =>
        rw [h2] at hh
        rcases List.mem_cons.mp ht with rfl | ht
        · exact Or.inl h2
        · exact x_loop_in hh t ht
      | false => rw [h2] at hh; cases hh
    | false =>
      rw [h1] at hh
      simp only [cond_false] at hh
      cases h2 : Nat.beq t0.1 e with
      | false => rw [h2] at hh; cases hh
      | true =>
        rw [h2] at hh
        simp only [cond_true] at hh
        split at hh
        · rename_i t' ho
          cases h3 : x_le a (99999, 99999) t0 t' with
          | false => rw [h3] at hh; cases hh
          | true =>
            rw [h3] at hh
            simp only [cond_true] at hh
            split at hh
            · rename_i b hb
              cases hh
              rcases List.mem_cons.mp ht with rfl | ht
              · exact Or.inr ⟨t', ho, h3, List.mem_cons_self⟩
              · rcases x_loop_in hb t ht with g | ⟨t2, g1, g2, g3⟩
                · exact Or.inl g
                · exact Or.inr ⟨t2, g1, g2, List.mem_cons_of_mem _ g3⟩
            · cases hh
        · cases hh
theorem x_inb_ok {tk : xT} {j : Nat} {lo hi n : Int} (h : x_inb tk j lo hi = true) (h1 : lo ≤ n) (h2 : n ≤ hi) : ∃ q, tk[j]? = some q ∧ q.1 ≤ n ∧ n ≤ q.2 := by
  unfold x_inb at h
  split at h
  · rename_i q hq
    simp only [Bool.and_eq_true, decide_eq_true_eq] at h
    exact ⟨q, hq, by omega, by omega⟩
  · cases h
theorem x_cb_ok {cl : List vw_C} {V : List Int} {sc : Nat × Nat × List Nat} {nL : Nat} {s : State} {D : va_G} {A : Nat → Prop} {H0 : Heap} {c : Nat} {t : xS} {b : Int × Int} {ls : Array Slot} {stk : List Value} {H : Heap} {locs : List Loc} (h : x_cb t c = some b) (hI : x_In cl V sc nL s D A H0 t ls stk H locs) : ∃ (n : Int32) (x : xV) (ad : List Nat), ls[c]? = some (.val (.int n)) ∧ b.1 ≤ n.toInt ∧ n.toInt ≤ b.2 ∧ x_find t.2.1 c = some x ∧ x_rel ad V sc x (.int n) := by
  unfold x_cb at h
  split at h
  · rename_i x hx
    obtain ⟨lv, ws, tys, h1, h2, h3, h4, h5, h6, h7, h8, h9⟩ := hI
    obtain ⟨k, v, hk, hr⟩ := x_find_ok h2 hx
    obtain ⟨n, rfl, n1, n2⟩ := x_bi_ok h9 h hr
    exact ⟨n, x, _, lv_at h1 k hk, n1, n2, hx, hr⟩
  · cases h
/-- into the picture at the head -/
theorem x_into {cl : List vw_C} {V : List Int} {sc : Nat × Nat × List Nat} {nL : Nat} {s : State} {D : va_G} {A : Nat → Prop} {H0 : Heap} {a : Nat} {c : Nat × Nat} {t u : xS} {ls : Array Slot} {stk : List Value} {H : Heap} {locs : List Loc} (hlen : a + 3 < V.length) (hle : x_le a c t u = true) (h : x_ctr a c t u = true) (hI : x_In cl V sc nL s D A H0 t ls stk H locs) :
    ∃ (n i : Int32), ls[c.1]? = some (.val (.int n)) ∧ ls[x_c2 c]? = some (.val (.int i)) ∧ (∃ q, u.2.2.2.2.1[a]? = some q ∧ q.1 ≤ n.toInt ∧ n.toInt ≤ q.2) ∧ x_In cl (x_vup V a n.toInt i.toInt) sc nL s D A H0 u ls stk H locs := by
  unfold x_ctr at h
  split at h
  · rename_i b b2 hb hb2
    simp only [Bool.and_eq_true] at h
    obtain ⟨n, x, ad, k1, k2, k3, k4, k5⟩ := x_cb_ok hb hI
    obtain ⟨i, x', ad', m1, m2, m3, m4, m5⟩ := x_cb_ok hb2 hI
    obtain ⟨q1, q1a, q1b⟩ := x_inb_ok h.1 k2 k3
    obtain ⟨q2, q2a, q2b⟩ := x_inb_ok (n := n.toInt + 1) h.2.1 (by omega) (by omega)
    obtain ⟨q3, q3a, q3b⟩ := x_inb_ok h.2.2.1 m2 m3
    obtain ⟨q4, q4a, q4b⟩ := x_inb_ok (n := i.toInt + 1) h.2.2.2 (by omega) (by omega)
    refine ⟨n, i, k1, m1, ⟨q1, q1a, q1b⟩, x_le_ok (x_vup_off V a n.toInt i.toInt) hle (fun ad' _ => ⟨.int n, k1, n, rfl, ?_⟩) (fun ad' hne => ⟨.int i, ?_, i, rfl, ?_⟩) (fun j z hj hz => ?_) hI⟩
    · simp only [Int.toNat_natCast]
      exact x_vup_a hlen
    · have e : x_c2 c = c.2 := by unfold x_c2; rw [x_nb hne]; rfl
      rw [← e]
      exact m1
    · simp only [Int.toNat_natCast]
      exact x_vup_b hlen
    · have hj4 : j = a ∨ j = a + 1 ∨ j = a + 2 ∨ j = a + 3 := by omega
      rcases hj4 with rfl | rfl | rfl | rfl
      · rw [q1a] at hz; cases hz; exact ⟨_, x_vup_a hlen, q1b⟩
      · rw [q2a] at hz; cases hz; exact ⟨_, x_vup_s hlen, q2b⟩
      · rw [q3a] at hz; cases hz; exact ⟨_, x_vup_b hlen, q3b⟩
      · rw [q4a] at hz; cases hz; exact ⟨_, x_vup_t hlen, q4b⟩
  · cases h
theorem x_out_tk {a : Nat} {tk0 : xT} {t t' : xS} (h : x_out a tk0 t = some t') : ∀ j q, (a ≤ j ∧ j ≤ a + 3) → t'.2.2.2.2.1[j]? = some q → tk0[j]? = some q := by
  unfold x_out at h
  split at h
  · rename_i q q' r r' hq hq' hr hr'
    cases h
    intro j z hj hz
    simp only [List.getElem?_set] at hz
    have hj4 : j = a ∨ j = a + 1 ∨ j = a + 2 ∨ j = a + 3 := by omega
    rcases hj4 with rfl | rfl | rfl | rfl
    · rw [if_neg (by omega), if_neg (by omega), if_neg (by omega), if_pos rfl] at hz
      split at hz
      · cases hz; exact hq
      · cases hz
    · rw [if_neg (by omega), if_neg (by omega), if_pos rfl] at hz
      split at hz
      · cases hz; exact hq'
      · cases hz
    · rw [if_neg (by omega), if_pos rfl] at hz
      split at hz
      · cases hz; exact hr
      · cases hz
    · rw [if_pos rfl] at hz
      split at hz
      · cases hz; exact hr'
      · cases hz
  · cases h
/-- a local by its picture -/
theorem x_lcl {cl : List vw_C} {V : List Int} {sc : Nat × Nat × List Nat} {nL : Nat} {s : State} {D : va_G} {A : Nat → Prop} {H0 : Heap} {c : Nat} {t : xS} {x : xV} {n : Int32} {ls : Array Slot} {stk : List Value} {H : Heap} {locs : List Loc} (hx : x_find t.2.1 c = some x) (hn : ls[c]? = some (.val (.int n))) (hI : x_In cl V sc nL s D A H0 t ls stk H locs) : ∃ ad, x_rel ad V sc x (.int n) := by
  obtain ⟨lv, ws, tys, h1, h2, h3, h4, h5, h6, h7, h8, h9⟩ := hI
  obtain ⟨k, v, hk, hr⟩ := x_find_ok h2 hx
  have e := lv_at h1 k hk
  rw [hn] at e
  cases e
  exact ⟨_, hr⟩
theorem x_tkn {ad : List Nat} {V : List Int} {sc : Nat × Nat × List Nat} {j : Nat} {n : Int32} (h : x_rel ad V sc (3, (j : Int), 0) (.int n)) : V[j]? = some n.toInt := by
  obtain ⟨z, e, h2⟩ := h
  cases e
  simpa using h2
def x_Met (PV : List Int → Prop) (cl : List vw_C) (I : Nat → xM) (l : Launch) (d M : Nat) (as : List xV) (w : List xC) (tk : xT) (ls : List xK) : Prop :=
  ∀ (V : List Int) (s1 s2 : Nat) (D : va_G) (ws : va_W) (tys : List (ClassId × FieldType)) (vs : List Value) (sz : Nat), x_all2 (x_rel (ws.map Prod.fst) V (s1, s2, ws.map Prod.fst)) as vs → x_world cl V (s1, s2, ws.map Prod.fst) tys w ws → x_tk tk V → PV V →
    Met l (xm_y (I M)) (x_ws (I M)) (x_rm d (I M)) (va_Pc vs (fun U => U.heap.size = sz ∧ va_P D cl ws U.heap ∧ va_K D cl tys U ∧ va_D (fun _ => True) ws ∧ x_Ex U)) (x_Q cl V (s1, s2, ws.map Prod.fst) D ws sz ls) (xm_c (I M)) (xm_s (I M)) (va_A ws sz)
theorem x_goodIn {q q' : xM} (h : Cond.code (xm_y q') (xm_b q') (xm_l q') (xm_r q') ∈ x_tbl) (hg : x_tbl.all goodWord = true) : GoodIn x_tbl (x_ws q') := by
  intro w hw
  rcases List.mem_cons.mp hw with rfl | hw
  · exact ⟨h, good_of_word (List.all_eq_true.mp hg _ h)⟩
  · exact ⟨hw, good_of_word (List.all_eq_true.mp hg _ hw)⟩
section X10
variable {fd : Nat} {PV : List Int → Prop} {cl : List vw_C} {KK : Nat → xKx} {I : Nat → xM} {code : Nat → Nat → xE} {lp : Nat → xLp} {l : Launch}
theorem x_met_of (hT : x_Tab fd PV cl KK I code) {n : Nat} (hF : x_Frm fd PV cl KK I code lp l n) {d M : Nat} {as : List xV} {w : List xC} {tk : xT} {rs : List xS} {ls : List xK} (hd : fd ≤ d) (hM : M ≠ 0) (hl : x_cats as ≤ xm_l (I M)) (h : x_go fd code lp I n d M (99999, 99999) (0, x_ent 0 as, [], w, tk, 0, 0) = some rs) (hrs : x_rets code (I M) M rs = some ls) : x_Met PV cl I l d M as w tk ls := by
  intro V s1 s2 D ws tys vs sz has hw htk hPV
  refine Met.ofW (cc := xm_b (I M)) (maxL := xm_l (I M)) (ret := xm_r (I M)) (hT.2.2.1 M) rfl ?_
  intro p e s m args below meth c s₁ B hml hv
  obtain ⟨rfl, hsz, hP, hK, hD0, hEx⟩ := hv
  have hx := B.exec
  have hb := B.bytes
  have hr := B.returns
  have hts := atoms_spec (ws := x_ws (I M)) B.pre
  have hown : s.vm.findClass (xm_y (I M)).cls = some m.cls := findClass_of_methodNamed B.named
  have hlocks := B.notSynchronized
  have hin : meth.name = (xm_y (I M)).name := (name_of_methodNamed B.named B.method).1
  subst hsz
  have hD := hD0.self (sz := s.heap.size)
  have hA : ∀ q : Nat, s.heap.size ≤ q → va_A ws s.heap.size q := fun q h => Or.inr h
  rw [lg_entry_eq]
  have hle : (lg_sl vs).length ≤ xm_l (I M) := by rw [(x_cats_ok has).2]; exact hl
  refine hF d M _ _ rs h (D := D) (A := va_A ws s.heap.size) (H0 := s.heap) ⟨⟨hx, hb, hml, hown, fun w hw => hts w (List.mem_cons_of_mem _ hw)⟩, hin, rfl, rfl, by show 1 ≤ d; have := hT.1; omega, by show 32 ≤ 64 * d; have := hT.1; omega, hEx⟩ (Nat.le_refl d) (Nat.le_refl (64 * d)) hA (hT.2.2.2.1 M hM _ _ _ _ _ _ hd (Nat.mul_le_mul_left 64 hd) hPV) hPV ?_ _ [] s.heap [] ⟨lv_args 0 vs, ws, tys, lv_entry vs hle, x_ent_ok 0 has, trivial, hw, hK, hP, hD, va_S.rf, htk⟩
  intro t ht ls' stk H locs hI
  obtain ⟨f, k, b, lf, hc, hlf, hmem⟩ := x_rets_in hrs t ht
  obtain ⟨lv, ws', tys', h1, h2, h3, h4, h5, h6, h7, h8, h9⟩ := hI
  unfold x_ret at hlf
  cases hbb : (Nat.ble t.2.2.2.2.2.1 (xm_c (I M)) && Nat.ble t.2.2.2.2.2.2 (xm_s (I M))) with
  | false => rw [hbb] at hlf; cases hlf
  | true =>
    rw [hbb] at hlf
    simp only [Bool.and_eq_true] at hbb
    have hE := hT.2.1 M t.1
    rw [hc] at hE
    replace hE : x_Rt (xm_b (I M)) (xm_r (I M)) t.1 k := hE
    replace hlf : x_retv k t = some lf := hlf
    refine W.widen (k := xm_c (I M)) (n := xm_s (I M)) (Nat.le_of_ble_eq_true hbb.1) (Nat.le_of_ble_eq_true hbb.2) ?_
    have fin : ∀ (v : Option Value) (T : State), x_all2 (x_rel (ws'.map Prod.fst) V (s1, s2, ws.map Prod.fst)) lf.1 v.toList → lf.2.1 = t.2.2.2.1 → lf.2.2 = t.2.2.2.2.1 → T.heap = H → s.WarmedH T.vm → x_Q cl V (s1, s2, ws.map Prod.fst) D ws s.heap.size ls vs.toArray s (.returned v) T := by
      intro v T hr e1 e2 hTh hW
      exact ⟨⟨lf, hmem, v, ws', tys', rfl, hr, by rw [e1]; exact h4, va_K.moved hW.alike h5, by rw [hTh]; exact h6, h7, by rw [e2]; exact h9⟩, h8.F hTh⟩
    unfold x_retv at hlf
    split at hlf
    · rename_i hst
      cases hlf
      rw [hst] at h3
      match stk, h3 with
      | [], _ =>
        obtain ⟨g1, g2⟩ := hE
        exact W.vret hx hb (by rw [hr, g2]) (fun T hTh hW => fin none T trivial rfl rfl hTh hW) h8.2.2 g1
    · rename_i x hst
      cases hy : Nat.beq (x_ty x) 0 with
      | false => rw [hy] at hlf; cases hlf
      | true =>
        rw [hy] at hlf
        cases hlf
        rw [hst] at h3
        match stk, h3 with
        | [v], h3 =>
          obtain ⟨g1, g2⟩ := hE
          have hk := x_ty_ok h3.1
          rw [Nat.eq_of_beq_eq_true hy] at hk
          obtain ⟨z, rfl⟩ := hk
          exact W.iret hx hb (by rw [hr, g2]) (fun T hTh hW => fin (some (.int z)) T h3 rfl rfl hTh hW) h8.2.2 g1
    · rename_i x hst
      cases hy : Nat.beq (x_ty x) 1 with
      | false => rw [hy] at hlf; cases hlf
      | true =>
        rw [hy] at hlf
        cases hlf
        rw [hst] at h3
        match stk, h3 with
        | [v], h3 =>
          obtain ⟨g1, g2⟩ := hE
          have hk := x_ty_ok h3.1
          rw [Nat.eq_of_beq_eq_true hy] at hk
          obtain ⟨z, rfl⟩ := hk
          exact W.lret hx hb (by rw [hr, g2]) (fun T hTh hW => fin (some (.long z)) T h3 rfl rfl hTh hW) h8.2.2 g1
    · rename_i x hst
      cases hy : Nat.beq (x_ty x) 2 with
      | false => rw [hy] at hlf; cases hlf
      | true =>
        rw [hy] at hlf
        cases hlf
        rw [hst] at h3
        match stk, h3 with
        | [v], h3 =>
          obtain ⟨g1, rt, g2, g3⟩ := hE
          have hk := x_ty_ok h3.1
          rw [Nat.eq_of_beq_eq_true hy] at hk
          exact W.aret hx hb (by rw [hr, g2]) g3 hk (fun T hTh hW => fin (some v) T h3 rfl rfl hTh hW) h8.2.2 g1
    · rename_i x hst
      cases hy : x_pkb t.2.2.2.2.1 1 x with
      | false => rw [hy] at hlf; cases hlf
      | true =>
        rw [hy] at hlf
        cases hlf
        rw [hst] at h3
        match stk, h3 with
        | [v], h3 =>
          obtain ⟨g1, g2⟩ := hE
          have hk : v = .int 0 ∨ v = .int 1 := x_pkb_ok h9 h3.1 hy
          rcases hk with rfl | rfl
          · exact W.zret hx hb (by rw [hr, g2]) (by decide) (fun T hTh hW => fin (some (.int 0)) T h3 rfl rfl hTh hW) h8.2.2 g1
          · exact W.zret hx hb (by rw [hr, g2]) (by decide) (fun T hTh hW => fin (some (.int 1)) T h3 rfl rfl hTh hW) h8.2.2 g1
    · cases hlf
theorem x_frm (hT : x_Tab fd PV cl KK I code) : ∀ n, x_Frm fd PV cl KK I code lp l n := by
  intro n
  induction n with
  | zero => intro d M sp t Ls h; cases h
  | succ n ih =>
    intro d M sp t Ls h V sc p e R s m args below meth c D A H0 Q C hd hdl hA hK hPV hret
    unfold x_go at h
    cases hsp : (Nat.beq t.1 sp.1 || Nat.beq t.1 sp.2) with
    | true =>
      rw [hsp] at h
      cases h
      exact hret t (List.mem_singleton.mpr rfl)
    | false =>
    rw [hsp] at h
    simp only [cond_false] at h
    have hE := hT.2.1 M t.1
    split at h
    · rename_i f a b hc
      rw [hc] at hE
      replace hE : x_Snd cl (KK M) (xm_b (I M)) (xm_y (I M)).cls (xm_l (I M)) (xm_y (I M)).name (xm_c (I M)) (xm_s (I M)) t.1 f := hE
      split at h
      · rename_i t' hf
        refine hE C hA hK t [t'] rfl hf (fun t2 h2 => ?_)
        rw [List.mem_singleton] at h2
        subst h2
        exact ih d M sp t2 Ls h C hd hdl hA hK hPV hret
      · rename_i l' hne hf
        refine hE C hA hK t l' rfl hf (fun t2 h2 => ?_)
        obtain ⟨a', ha, hin⟩ := x_each_in h t2 h2
        exact ih d M sp t2 a' ha C hd hdl hA hK hPV (fun t3 h3 => hret t3 (hin _ h3))
      · cases h
    · rename_i f k b hc
      cases h
      exact hret t (List.mem_singleton.mpr rfl)
    · rename_i f M' na hc
      rw [hc] at hE
      obtain ⟨h64, hE⟩ : x_Cl (xm_b (I M)) (xm_y (I M)).cls (xm_l (I M)) (xm_y (I M)).name (xm_c (I M)) (xm_s (I M)) t.1 (I M') na := hE
      cases d with
      | zero => cases h
      | succ d' =>
        simp only at h
        cases hb : x_may_call fd d' t M' na (I M) (I M') (t.2.2.1.take na).reverse (t.2.2.1.drop na) with
        | false => rw [hb] at h; cases h
        | true =>
          rw [hb] at h
          simp only [cond_true] at h
          unfold x_may_call at hb
          simp only [Bool.and_eq_true] at hb
          obtain ⟨b1, b2, b3, b4, b5, b6, b7, b8⟩ := hb
          have b1 := Nat.le_of_ble_eq_true b1
          have b2 := Nat.le_of_ble_eq_true b2
          have b3 := Nat.le_of_ble_eq_true b3
          have b4 := Nat.le_of_ble_eq_true b4
          have b5 := Nat.le_of_ble_eq_true b5
          have b6 := Nat.le_of_ble_eq_true b6
          have b7 := Nat.le_of_ble_eq_true b7
          have key : ∀ (rs : List xS) (ls : List xK), x_go fd code lp I n d' M' (99999, 99999) (0, x_ent 0 (t.2.2.1.take na).reverse, [], t.2.2.2.1, t.2.2.2.2.1, 0, 0) = some rs → x_rets code (I M') M' rs = some ls → (∀ lf ∈ ls, x_Good cl V sc (xm_l (I M)) p l e R s m args below meth c D A H0 Q (x_back t (t.2.2.1.drop na) (I M') lf)) → x_Good cl V sc (xm_l (I M)) p l e R s m args below meth c D A H0 Q t := by
            intro rs ls hls hrs hgo lsl stk H locs hI
            obtain ⟨lv, ws, tys, h1, h2, h3, h4, h5, h6, h7, h8, h9⟩ := hI
            have hspl := x_split na h3
            have hargs := x_all2_rev hspl.1
            have hM := x_met_of hT ih (l := l) b1 (by omega) b5 hls hrs V sc.1 sc.2.1 D ws tys (stk.take na).reverse H.size
              (x_all2_imp (fun a v hh => x_rel_sc rfl rfl hh) hargs)
              ⟨h4.1, ⟨[], by simp⟩, fun k x q hx hq => x_cell_sc rfl rfl (h4.2.2 k x q hx hq)⟩ h9 hPV
            have hlen : stk.length = t.2.2.1.length := (x_all2_len h3).symm
            have hvA : ∀ q : Nat, va_A ws H.size q → A q := by
              intro q hq
              rcases hq with ⟨k, e9, hk⟩ | hq
              · exact h7.2 k _ hk
              · exact hA q (Nat.le_trans h8.1 hq)
            have hrun := hE (e := e) (below := below) C (H := H) (locs := locs) (cells := t.2.2.2.2.2.1) (slots := t.2.2.2.2.2.2) (ls := lsl) (rest := stk.drop na) hM
              (fun a U g mk q => by obtain ⟨q0, q1, qP, qK, qD, qE⟩ := q; exact ⟨q0, q1, qP, va_K.moved (u := U) (U := U.calling g mk a) (Vm.Alike.refl U.vm) qK, qD, qE.same (U := U.calling g mk a) rfl⟩)
              (fun U hU hW => ⟨rfl, by rw [hU], by rw [hU]; exact h6, va_K.moved hW.alike h5, h7.weaken (fun _ _ _ _ => trivial), C.2.2.2.2.2.2.warm hW⟩)
              (by
                by_cases ho : xm_o (I M') = 999
                · exact Or.inl ho
                · refine Or.inr ?_
                  unfold x_rcv at b8
                  rw [x_nb ho] at b8
                  simp only [cond_false] at b8
                  split at b8
                  · rename_i j jb as' has'
                    split at b8
                    · rename_i c9 r9 hcell
                      have e9 := Nat.eq_of_beq_eq_true b8
                      rw [has'] at hargs
                      match hv : (stk.take na).reverse, hargs with
                      | v :: As, hargs =>
                        obtain ⟨a, ee, hq, rfl, hcc⟩ := x_ref h4 hargs.1 hcell
                        obtain ⟨fs, rfl, -, -⟩ := hcc
                        obtain ⟨r, hr1, hr2⟩ := hT.2.2.2.2.1 M' ho
                        rw [← e9] at hr1
                        obtain ⟨cellB, k1, k2, k3⟩ := va_recv h5 h6 hr1 hq
                        exact ⟨a, As, rfl, cellB, k1, k2, by rw [← hr2]; exact k3⟩
                    · cases b8
                  · cases b8)
              (by rw [List.length_reverse, List.length_take, hlen]; omega) rfl rfl (by show d' + 1 ≤ R.frames; omega) (by show 8 + (xm_l (I M') + 11) + 64 * d' ≤ R.locals; omega) h1.1
              (by rw [(x_cats_ok hspl.2).1]; exact b4) ⟨by rw [C.2.2.1]; exact b6, by rw [C.2.2.2.1]; exact b7⟩
            rw [List.reverse_reverse, List.take_append_drop] at hrun
            refine x_after hrun h8 (fun st v T hq => hq.2) (fun q _ h => hvA q h) hvA (fun v st T H1 locs1 hst hTh hal hq hS1 => ?_)
            obtain ⟨⟨lf, hlf, v', ws', tys', ev, hr, hw', hK', hP', hD', htk⟩, hFr⟩ := hq
            cases ev
            obtain ⟨l9, e9⟩ := hw'.2.1
            have e9 : ws'.map Prod.fst = ws.map Prod.fst ++ l9 := e9
            refine hgo lf hlf lsl (v.toList ++ stk.drop na) H1 locs1 ⟨lv, ws', tys', h1, ?_, ?_, ⟨hw'.1, ?_, fun k x q hx hq => x_cell_sc rfl rfl (hw'.2.2 k x q hx hq)⟩, va_K.moved hal.symm hK', by rw [← hTh]; exact hP', hD'.weaken (fun _ q _ h => hvA q.1 h), hS1, htk⟩
            · rw [e9]; exact x_lv_app h2
            · refine x_all2_app (x_all2_imp (fun a v hh => x_rel_sc rfl rfl hh) hr) ?_
              rw [e9]; exact x_stk_app hspl.2
            · obtain ⟨l0, e0⟩ := h4.2.1
              exact ⟨l0 ++ l9, by rw [e9, e0, List.append_assoc]⟩
          split at h
          · rename_i rs hls
            split at h
            · rename_i lf hrs
              refine key rs [lf] hls hrs (fun lf2 h2 => ?_)
              rw [List.mem_singleton] at h2
              subst h2
              exact ih (d' + 1) M sp _ Ls h C hd hdl hA hK hPV hret
            · rename_i ls hne hrs
              refine key rs ls hls hrs (fun lf2 h2 => ?_)
              obtain ⟨a', ha, hin⟩ := x_each_in h _ (List.mem_map_of_mem h2)
              exact ih (d' + 1) M sp _ a' ha C hd hdl hA hK hPV (fun t3 h3 => hret t3 (hin _ h3))
            · cases h
          · cases h
    · rename_i g L b hc
      rw [hc] at hE
      replace hE : x_Snd cl (KK M) (xm_b (I M)) (xm_y (I M)).cls (xm_l (I M)) (xm_y (I M)).name (xm_c (I M)) (xm_s (I M)) t.1 g := hE
      generalize hlp : lp L = lq at h
      obtain ⟨ci, wk, a, ep⟩ := lq
      simp only at h
      split at h
      · rename_i u hwk
        cases hb : x_enter fd d M a ci t u with
        | false => rw [hb] at h; cases h
        | true =>
          rw [hb] at h
          simp only [cond_true] at h
          split at h
          · rename_i l' hg
            split at h
            · rename_i rs hrs
              split at h
              · rename_i ex hex
                unfold x_enter at hb
                simp only [Bool.and_eq_true] at hb
                obtain ⟨c1, c2, c3, c5, c6, c7⟩ := hb
                have c1 := Nat.le_of_ble_eq_true c1
                have c2 := Nat.le_of_ble_eq_true c2
                have hupc : u.1 = t.1 := by
                  unfold x_le at c6
                  simp only [Bool.and_eq_true] at c6
                  exact (Nat.eq_of_beq_eq_true c6.1).symm
                have hexG : ∀ t' ∈ ex, x_Good cl V sc (xm_l (I M)) p l e R s m args below meth c D A H0 Q t' := fun t' ht' => by
                  obtain ⟨a', ha, hin⟩ := x_each_in h t' ht'
                  exact ih d M sp t' a' ha C hd hdl hA hK hPV (fun t3 h3 => hret t3 (hin _ h3))
                intro ls stk H locs hI
                have htk : x_tk t.2.2.2.2.1 V := by
                  obtain ⟨lv, ws, tys, h1, h2, h3, h4, h5, h6, h7, h8, h9⟩ := hI
                  exact h9
                obtain ⟨hlen, -, -, -, -⟩ := hT.2.2.2.2.2 V a 0 0 c3 hPV
                obtain ⟨n0, i0, u1, u2, ⟨q, hq, q1, q2⟩, hIn0⟩ := x_into hlen c6 c7 hI
                have main : ∀ (N : Nat) (U : List Int), x_off a V U → PV U → (∀ k, U[a]? = some k → (q.2 + 1 - k).toNat ≤ N) → x_Good cl U sc (xm_l (I M)) p l e R s m args below meth c D A H0 Q u := by
                  intro N
                  induction N with
                  | zero =>
                    intro U hoff hPU hN ls2 stk2 H2 locs2 hI2
                    have h9 : x_tk u.2.2.2.2.1 U := by
                      obtain ⟨lv, ws, tys, h1, h2, h3, h4, h5, h6, h7, h8, h9⟩ := hI2
                      exact h9
                    obtain ⟨k, z1, z2, z3⟩ := h9 a q hq
                    have := hN k z1
                    omega
                  | succ N ihN =>
                    intro U hoff hPU hN
                    have hKU := hT.2.2.2.1 M (by omega) R s A H0 U sc (Nat.le_trans c1 hd) (Nat.le_trans (Nat.mul_le_mul_left 64 c1) hdl) hPU
                    refine hE C hA hKU u l' hupc hg (fun t1 ht1 => ?_)
                    obtain ⟨a1, ha1, hin1⟩ := x_each_in hrs t1 ht1
                    refine ih d M (t.1, ep) t1 a1 ha1 C hd hdl hA hKU hPU (fun t2 ht2 => ?_)
                    rcases x_loop_in hex t2 (hin1 t2 ht2) with hag | ⟨t', ho, hle', hmem⟩
                    · intro ls2 stk2 H2 locs2 hI2
                      unfold x_again at hag
                      simp only [Bool.and_eq_true] at hag
                      obtain ⟨g1, g2, g3, g4⟩ := hag
                      obtain ⟨hlenU, hs1, hs2, hrel, -⟩ := hT.2.2.2.2.2 U a 0 0 c3 hPU
                      obtain ⟨n, i, w1, w2, ⟨q', hq', q1', q2'⟩, hIn⟩ := x_into hlenU g1 g2 hI2
                      rw [hq] at hq'
                      cases hq'
                      split at g3
                      · rename_i x hx
                        have ex9 := x_eqv_ok g3
                        subst ex9
                        obtain ⟨ad9, hr9⟩ := x_lcl hx w1 hI2
                        have hn9 : U[a + 1]? = some n.toInt := x_tkn hr9
                        rw [hn9] at hs1
                        cases hUa : U[a]? with
                        | none => rw [hUa] at hs1; cases hs1
                        | some k0 =>
                          rw [hUa] at hs1
                          have e7 : n.toInt = k0 + 1 := Option.some.inj hs1
                          have hle9 : a = 20 → i.toInt ≤ n.toInt := fun ea => by
                            subst ea
                            by_cases e2 : ci.2 = 99999
                            · have e3 : x_c2 ci = ci.1 := by unfold x_c2; rw [e2]; rfl
                              rw [e3, w1] at w2
                              cases w2
                              exact Int.le_refl _
                            · have e3 : x_c2 ci = ci.2 := by unfold x_c2; rw [x_nb e2]; rfl
                              rw [x_nb e2] at g4
                              simp only [Nat.beq_refl, Bool.not_false, Bool.and_self, cond_true] at g4
                              split at g4
                              · rename_i x2 hx2
                                rw [e3] at w2
                                obtain ⟨ad8, hr8⟩ := x_lcl hx2 w2 hI2
                                simp only [Bool.or_eq_true] at g4
                                rcases g4 with g4 | g4
                                · have ex8 := x_eqv_ok g4
                                  subst ex8
                                  have := hrel rfl k0 i.toInt hUa (x_tkn hr8)
                                  omega
                                · have ex8 := x_eqv_ok g4
                                  subst ex8
                                  have h23 : U[20 + 3]? = some i.toInt := x_tkn hr8
                                  rw [h23] at hs2
                                  cases hU2 : U[20 + 2]? with
                                  | none => rw [hU2] at hs2; cases hs2
                                  | some i0 =>
                                    rw [hU2] at hs2
                                    have e6 : i.toInt = i0 + 1 := Option.some.inj hs2
                                    have := hrel rfl k0 i0 hUa hU2
                                    omega
                              · cases g4
                          refine x_le_W g1 (ihN (x_vup U a n.toInt i.toInt) (hoff.trans (x_vup_off U a n.toInt i.toInt)) ((hT.2.2.2.2.2 U a n.toInt i.toInt c3 hPU).2.2.2.2 hle9) (fun k2 hk2 => ?_) ls2 stk2 H2 locs2 hIn)
                          rw [x_vup_a hlenU] at hk2
                          cases hk2
                          have := hN k0 hUa
                          omega
                      · cases g3
                    · intro ls2 stk2 H2 locs2 hI2
                      refine x_le_W hle' (hexG t' hmem ls2 stk2 H2 locs2 (x_le_ok hoff.symm hle' (fun _ z => absurd rfl z) (fun _ z => absurd rfl z) (fun j q hj hq => ?_) hI2))
                      exact htk j q (x_out_tk ho j q hj hq)
                have hle0 : a = 20 → i0.toInt ≤ n0.toInt := fun ea => by
                  subst ea
                  by_cases e2 : ci.2 = 99999
                  · have e3 : x_c2 ci = ci.1 := by unfold x_c2; rw [e2]; rfl
                    rw [e3, u1] at u2
                    cases u2
                    exact Int.le_refl _
                  · have e3 : x_c2 ci = ci.2 := by unfold x_c2; rw [x_nb e2]; rfl
                    unfold x_below at c5
                    rw [x_nb e2] at c5
                    simp only [Nat.beq_refl, Bool.not_false, Bool.and_self, cond_true] at c5
                    split at c5
                    · rename_i b b2 hb hb2
                      simp only [decide_eq_true_eq] at c5
                      obtain ⟨n, x, ad, k1, k2, k3, k4, k5⟩ := x_cb_ok hb hI
                      obtain ⟨i, x', ad', m1, m2, m3, m4, m5⟩ := x_cb_ok hb2 hI
                      rw [e3, m1] at u2
                      rw [k1] at u1
                      cases u1
                      cases u2
                      omega
                    · cases c5
                refine x_le_W c6 (main (q.2 + 1 - n0.toInt).toNat (x_vup V a n0.toInt i0.toInt) (x_vup_off V a n0.toInt i0.toInt) ((hT.2.2.2.2.2 V a n0.toInt i0.toInt c3 hPV).2.2.2.2 hle0) (fun k' hk' => ?_) ls stk H locs hIn0)
                rw [x_vup_a hlen] at hk'
                cases hk'
                exact Nat.le_refl _
              · cases h
            · cases h
          · cases h
      · split at h
        · rename_i t' hf
          refine hE C hA hK t [t'] rfl hf (fun t2 h2 => ?_)
          rw [List.mem_singleton] at h2
          subst h2
          exact ih d M sp t2 Ls h C hd hdl hA hK hPV hret
        · rename_i l' hne hf
          refine hE C hA hK t l' rfl hf (fun t2 h2 => ?_)
          obtain ⟨a', ha, hin⟩ := x_each_in h t2 h2
          exact ih d M sp t2 a' ha C hd hdl hA hK hPV (fun t3 h3 => hret t3 (hin _ h3))
        · cases h
    · rename_i f M' na hc
      rw [hc] at hE
      obtain ⟨h64, hE⟩ : x_Cl (xm_b (I M)) (xm_y (I M)).cls (xm_l (I M)) (xm_y (I M)).name (xm_c (I M)) (xm_s (I M)) t.1 (I M') na := hE
      cases d with
      | zero => cases h
      | succ d' =>
        simp only at h
        cases hb : (x_may_call fd d' t M' na (I M) (I M') (t.2.2.1.take na).reverse (t.2.2.1.drop na) && (Nat.beq (xm_o (I M')) 999 && ((t.2.2.1.take na).reverse).all x_num)) with
        | false => rw [hb] at h; cases h
        | true =>
          rw [hb] at h
          simp only [cond_true] at h
          unfold x_may_call at hb
          simp only [Bool.and_eq_true] at hb
          obtain ⟨⟨b1, b2, b3, b4, b5, b6, b7, b8⟩, b9, b10⟩ := hb
          have b1 := Nat.le_of_ble_eq_true b1
          have b2 := Nat.le_of_ble_eq_true b2
          have b3 := Nat.le_of_ble_eq_true b3
          have b4 := Nat.le_of_ble_eq_true b4
          have b5 := Nat.le_of_ble_eq_true b5
          have b6 := Nat.le_of_ble_eq_true b6
          have b7 := Nat.le_of_ble_eq_true b7
          split at h
          · rename_i rs hls
            split at h
            · rename_i lfs hrs
              cases hlg : x_longs lfs with
              | false => rw [hlg] at h; cases h
              | true =>
                rw [hlg] at h
                simp only [cond_true] at h
                have hgo := ih (d' + 1) M sp _ Ls h C hd hdl hA hK hPV hret
                intro lsl stk H locs hI
                obtain ⟨lv, ws, tys, h1, h2, h3, h4, h5, h6, h7, h8, h9⟩ := hI
                have hspl := x_split na h3
                have hargs := x_all2_rev hspl.1
                have hM := x_met_of hT ih (l := l) b1 (by omega) b5 hls hrs V sc.1 sc.2.1 D [] tys (stk.take na).reverse H.size
                  (x_nums_ok (by simpa using b10) hargs) ⟨rfl, ⟨[], rfl⟩, fun k x q hx hq => by simp at hx⟩ h9 hPV
                have hlen : stk.length = t.2.2.1.length := (x_all2_len h3).symm
                have hvA : ∀ q : Nat, va_A [] H.size q → H.size ≤ q := by
                  intro q hq
                  rcases hq with ⟨k, e9, hk⟩ | hq
                  · simp at hk
                  · exact hq
                have hrun := hE (e := e) (below := below) C (H := H) (locs := locs) (cells := t.2.2.2.2.2.1) (slots := t.2.2.2.2.2.2) (ls := lsl) (rest := stk.drop na) hM
                  (fun a U g mk q => by obtain ⟨q0, q1, qP, qK, qD, qE⟩ := q; exact ⟨q0, q1, qP, va_K.moved (u := U) (U := U.calling g mk a) (Vm.Alike.refl U.vm) qK, qD, qE.same (U := U.calling g mk a) rfl⟩)
                  (fun U hU hW => ⟨rfl, by rw [hU], fun k x hx => by simp at hx, va_K.moved hW.alike h5, ⟨fun i j x y hi => by simp at hi, fun k x hx => by simp at hx⟩, C.2.2.2.2.2.2.warm hW⟩)
                  (Or.inl (Nat.eq_of_beq_eq_true b9))
                  (by rw [List.length_reverse, List.length_take, hlen]; omega) rfl rfl (by show d' + 1 ≤ R.frames; omega) (by show 8 + (xm_l (I M') + 11) + 64 * d' ≤ R.locals; omega) h1.1
                  (by rw [(x_cats_ok hspl.2).1]; exact b4) ⟨by rw [C.2.2.1]; exact b6, by rw [C.2.2.2.1]; exact b7⟩
                rw [List.reverse_reverse, List.take_append_drop] at hrun
                refine x_after hrun h8 (fun st v T hq => hq.2) (fun q hq h => absurd (hvA q h) (Nat.not_le.mpr hq)) (fun q h => hA q (Nat.le_trans h8.1 (hvA q h))) (fun v st T H1 locs1 hst hTh hal hq hS1 => ?_)
                obtain ⟨⟨lf, hlf, v', ws', tys', ev, hr, hw', hK', hP', hD', htk⟩, hFr⟩ := hq
                cases ev
                have hl1 := List.all_eq_true.mp hlg lf hlf
                split at hl1
                · rename_i x hx
                  rw [hx] at hr
                  match v, hr with
                  | some v, hr =>
                    have hk := x_ty_ok hr.1
                    rw [Nat.eq_of_beq_eq_true hl1] at hk
                    obtain ⟨z, rfl⟩ := hk
                    refine hgo lsl (.long z :: stk.drop na) H1 locs1 ⟨lv, ws, tys, h1, h2, ⟨x_anyL_ok z, hspl.2⟩, h4, h5, h6.kept (fun k x hx => ?_), h7, hS1, h9⟩
                    have hlt := (h6 k x hx).lt
                    rw [← hTh, hFr.2 x.1 (by rw [hst]; exact hlt) (fun q => absurd (hvA _ q) (Nat.not_le.mpr hlt)), hst]
                  | none, hr => exact hr.elim
                · cases hl1
            · cases h
          · cases h
    · cases h
end X10
end
