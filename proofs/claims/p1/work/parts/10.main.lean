/-! what the engine says holds -/
def x_Tab (fd : Nat) (PV : List Int → Prop) (cl : List vw_C) (KK : Nat → xKx) (I : Nat → xM) (code : Nat → Nat → xE) : Prop :=
  1 ≤ fd ∧ (∀ M pc, x_EOk cl (KK M) I M pc (code M pc)) ∧ (∀ M, plainName (xm_y (I M)).cls = true) ∧ (∀ M, M ≠ 0 → ∀ (R : Room) s A H V sc, fd ≤ R.frames → 64 * fd ≤ R.locals → PV V → KK M R s A H V sc) ∧ ∀ M, xm_o (I M) ≠ 999 → ∃ r, cl[xm_o (I M)]? = some r ∧ r.1 = (xm_y (I M)).cls
def x_Frm (fd : Nat) (PV : List Int → Prop) (cl : List vw_C) (KK : Nat → xKx) (I : Nat → xM) (code : Nat → Nat → xE) (l : Launch) (n : Nat) : Prop :=
  ∀ (d M : Nat) (t : xS) (Ls : List xK), x_ex fd code I n d M t = some Ls → ∀ {V : List Int} {sc : Nat × Nat × List Nat} {p : Program} {e : Env} {R : Room} {s : State} {m : MethodId} {args : Array Value} {below : List Frame} {meth : Method} {c : Code} {D : va_G} {A : Nat → Prop} {H0 : Heap} {Q : State → Prop},
    x_Cx (xm_b (I M)) (xm_y (I M)).cls (xm_l (I M)) (xm_y (I M)).name (xm_c (I M)) (xm_s (I M)) p R s m args meth c → d ≤ R.frames → 64 * d ≤ R.locals → (∀ q : Nat, H0.size ≤ q → A q) → KK M R s A H0 V sc → PV V →
    (∀ (t : xS) (f : xS → Option (List xS)) (k b : Nat) (lf : xK), code M t.1 = (1, f, k, b) → x_ret k (I M) t = some lf → lf ∈ Ls → x_Good cl V sc (xm_l (I M)) p l e R s m args below meth c D A H0 Q t) → x_Good cl V sc (xm_l (I M)) p l e R s m args below meth c D A H0 Q t
def x_Met (PV : List Int → Prop) (cl : List vw_C) (I : Nat → xM) (l : Launch) (d M : Nat) (as : List xV) (w : List xC) (tk : xT) (ls : List xK) : Prop :=
  ∀ (V : List Int) (s1 s2 : Nat) (D : va_G) (ws : va_W) (tys : List (ClassId × FieldType)) (vs : List Value) (sz : Nat), x_all2 (x_rel (ws.map Prod.fst) V (s1, s2, ws.map Prod.fst)) as vs → x_world cl V (s1, s2, ws.map Prod.fst) tys w ws → x_tk tk V → PV V →
    Met l (xm_y (I M)) (x_ws (I M)) (x_rm d (I M)) (va_Pc vs (fun U => U.heap.size = sz ∧ va_P D cl ws U.heap ∧ va_K D cl tys U ∧ va_D (fun _ => True) ws ∧ x_Ex U)) (x_Q cl V (s1, s2, ws.map Prod.fst) D ws sz ls) (xm_c (I M)) (xm_s (I M)) (va_A ws sz)
theorem x_goodIn {q q' : xM} (h : Cond.code (xm_y q') (xm_b q') (xm_l q') (xm_r q') ∈ x_tbl) (hg : x_tbl.all goodWord = true) : GoodIn x_tbl (x_ws q') := by
  intro w hw
  rcases List.mem_cons.mp hw with rfl | hw
  · exact ⟨h, good_of_word (List.all_eq_true.mp hg _ h)⟩
  · exact ⟨hw, good_of_word (List.all_eq_true.mp hg _ hw)⟩
section X10
variable {fd : Nat} {PV : List Int → Prop} {cl : List vw_C} {KK : Nat → xKx} {I : Nat → xM} {code : Nat → Nat → xE} {l : Launch}
theorem x_met_of (hT : x_Tab fd PV cl KK I code) {n : Nat} (hF : x_Frm fd PV cl KK I code l n) {d M : Nat} {as : List xV} {w : List xC} {tk : xT} {ls : List xK} (hd : fd ≤ d) (hM : M ≠ 0) (hl : x_cats as ≤ xm_l (I M)) (h : x_ex fd code I n d M (0, x_ent 0 as, [], w, tk, 0, 0) = some ls) : x_Met PV cl I l d M as w tk ls := by
  intro V s1 s2 D ws tys vs sz has hw htk hPV
  refine Met.ofW (cc := xm_b (I M)) (maxL := xm_l (I M)) (ret := xm_r (I M)) (hT.2.2.1 M) rfl ?_
  intro p e s m args below meth c s₁ B hml hv
  obtain ⟨rfl, hsz, hP, hK, hD0, hEx⟩ := hv
  have hx := B.exec
  have hb := B.bytes
  have hr := B.returns
  have hts := atoms_spec (ws := x_ws (I M)) B.pre
  have hown : s.vm.findClass (xm_y (I M)).cls = some m.cls := findClass_of_methodNamed B.named
  have hlocks := B.notSynchronized
  have hin : meth.name = (xm_y (I M)).name := (name_of_methodNamed B.named B.method).1
  subst hsz
  have hD := hD0.self (sz := s.heap.size)
  have hA : ∀ q : Nat, s.heap.size ≤ q → va_A ws s.heap.size q := fun q h => Or.inr h
  rw [lg_entry_eq]
  have hle : (lg_sl vs).length ≤ xm_l (I M) := by rw [(x_cats_ok has).2]; exact hl
  refine hF d M _ ls h (D := D) (A := va_A ws s.heap.size) (H0 := s.heap) ⟨⟨hx, hb, hml, hown, fun w hw => hts w (List.mem_cons_of_mem _ hw)⟩, hin, rfl, rfl, by show 1 ≤ d; have := hT.1; omega, by show 32 ≤ 64 * d; have := hT.1; omega, hEx⟩ (Nat.le_refl d) (Nat.le_refl (64 * d)) hA (hT.2.2.2.1 M hM _ _ _ _ _ _ hd (Nat.mul_le_mul_left 64 hd) hPV) hPV ?_ _ [] s.heap [] ⟨lv_args 0 vs, ws, tys, lv_entry vs hle, x_ent_ok 0 has, trivial, hw, hK, hP, hD, va_S.rf, htk⟩
  intro t f k b lf hc hlf hmem ls' stk H locs hI
  obtain ⟨lv, ws', tys', h1, h2, h3, h4, h5, h6, h7, h8, h9⟩ := hI
  unfold x_ret at hlf
  cases hbb : (Nat.ble t.2.2.2.2.2.1 (xm_c (I M)) && Nat.ble t.2.2.2.2.2.2 (xm_s (I M))) with
  | false => rw [hbb] at hlf; cases hlf
  | true =>
    rw [hbb] at hlf
    simp only [Bool.and_eq_true] at hbb
    have hE := hT.2.1 M t.1
    rw [hc] at hE
    replace hE : x_Rt (xm_b (I M)) (xm_r (I M)) t.1 k := hE
    replace hlf : x_retv k t = some lf := hlf
    refine W.widen (k := xm_c (I M)) (n := xm_s (I M)) (Nat.le_of_ble_eq_true hbb.1) (Nat.le_of_ble_eq_true hbb.2) ?_
    have fin : ∀ (v : Option Value) (T : State), x_all2 (x_rel (ws'.map Prod.fst) V (s1, s2, ws.map Prod.fst)) lf.1 v.toList → lf.2.1 = t.2.2.2.1 → lf.2.2 = t.2.2.2.2.1 → T.heap = H → s.WarmedH T.vm → x_Q cl V (s1, s2, ws.map Prod.fst) D ws s.heap.size ls vs.toArray s (.returned v) T := by
      intro v T hr e1 e2 hTh hW
      exact ⟨⟨lf, hmem, v, ws', tys', rfl, hr, by rw [e1]; exact h4, va_K.moved hW.alike h5, by rw [hTh]; exact h6, h7, by rw [e2]; exact h9⟩, h8.F hTh⟩
    unfold x_retv at hlf
    split at hlf
    · rename_i hst
      cases hlf
      rw [hst] at h3
      match stk, h3 with
      | [], _ =>
        obtain ⟨g1, g2⟩ := hE
        exact W.vret hx hb (by rw [hr, g2]) (fun T hTh hW => fin none T trivial rfl rfl hTh hW) h8.2.2 g1
    · rename_i x hst
      cases hy : Nat.beq (x_ty x) 0 with
      | false => rw [hy] at hlf; cases hlf
      | true =>
        rw [hy] at hlf
        cases hlf
        rw [hst] at h3
        match stk, h3 with
        | [v], h3 =>
          obtain ⟨g1, g2⟩ := hE
          have hk := x_ty_ok h3.1
          rw [Nat.eq_of_beq_eq_true hy] at hk
          obtain ⟨z, rfl⟩ := hk
          exact W.iret hx hb (by rw [hr, g2]) (fun T hTh hW => fin (some (.int z)) T h3 rfl rfl hTh hW) h8.2.2 g1
    · rename_i x hst
      cases hy : Nat.beq (x_ty x) 1 with
      | false => rw [hy] at hlf; cases hlf
      | true =>
        rw [hy] at hlf
        cases hlf
        rw [hst] at h3
        match stk, h3 with
        | [v], h3 =>
          obtain ⟨g1, g2⟩ := hE
          have hk := x_ty_ok h3.1
          rw [Nat.eq_of_beq_eq_true hy] at hk
          obtain ⟨z, rfl⟩ := hk
          exact W.lret hx hb (by rw [hr, g2]) (fun T hTh hW => fin (some (.long z)) T h3 rfl rfl hTh hW) h8.2.2 g1
    · rename_i x hst
      cases hy : Nat.beq (x_ty x) 2 with
      | false => rw [hy] at hlf; cases hlf
      | true =>
        rw [hy] at hlf
        cases hlf
        rw [hst] at h3
        match stk, h3 with
        | [v], h3 =>
          obtain ⟨g1, rt, g2, g3⟩ := hE
          have hk := x_ty_ok h3.1
          rw [Nat.eq_of_beq_eq_true hy] at hk
          exact W.aret hx hb (by rw [hr, g2]) g3 hk (fun T hTh hW => fin (some v) T h3 rfl rfl hTh hW) h8.2.2 g1
    · rename_i x hst
      cases hy : x_pkb t.2.2.2.2.1 1 x with
      | false => rw [hy] at hlf; cases hlf
      | true =>
        rw [hy] at hlf
        cases hlf
        rw [hst] at h3
        match stk, h3 with
        | [v], h3 =>
          obtain ⟨g1, g2⟩ := hE
          have hk : v = .int 0 ∨ v = .int 1 := x_pkb_ok h9 h3.1 hy
          rcases hk with rfl | rfl
          · exact W.zret hx hb (by rw [hr, g2]) (by decide) (fun T hTh hW => fin (some (.int 0)) T h3 rfl rfl hTh hW) h8.2.2 g1
          · exact W.zret hx hb (by rw [hr, g2]) (by decide) (fun T hTh hW => fin (some (.int 1)) T h3 rfl rfl hTh hW) h8.2.2 g1
    · cases hlf
theorem x_frm (hT : x_Tab fd PV cl KK I code) : ∀ n, x_Frm fd PV cl KK I code l n := by
  intro n
  induction n with
  | zero => intro d M t Ls h; cases h
  | succ n ih =>
    intro d M t Ls h V sc p e R s m args below meth c D A H0 Q C hd hdl hA hK hPV hret
    unfold x_ex at h
    have hE := hT.2.1 M t.1
    split at h
    · rename_i f a b hc
      rw [hc] at hE
      replace hE : x_Snd cl (KK M) (xm_b (I M)) (xm_y (I M)).cls (xm_l (I M)) (xm_y (I M)).name (xm_c (I M)) (xm_s (I M)) t.1 f := hE
      split at h
      · rename_i t' hf
        refine hE C hA hK t [t'] rfl hf (fun t2 h2 => ?_)
        rw [List.mem_singleton] at h2
        subst h2
        exact ih d M t2 Ls h C hd hdl hA hK hPV hret
      · rename_i l' hne hf
        refine hE C hA hK t l' rfl hf (fun t2 h2 => ?_)
        obtain ⟨a', ha, hin⟩ := x_each_in h t2 h2
        exact ih d M t2 a' ha C hd hdl hA hK hPV (fun t3 f3 k3 b3 lf3 e1 e2 e3 => hret t3 f3 k3 b3 lf3 e1 e2 (hin _ e3))
      · cases h
    · rename_i f k b hc
      split at h
      · rename_i lf hlf
        cases h
        exact hret t f k b lf hc hlf (List.mem_singleton.mpr rfl)
      · cases h
    · rename_i f M' na hc
      rw [hc] at hE
      obtain ⟨h64, hE⟩ : x_Cl (xm_b (I M)) (xm_y (I M)).cls (xm_l (I M)) (xm_y (I M)).name (xm_c (I M)) (xm_s (I M)) t.1 (I M') na := hE
      cases d with
      | zero => cases h
      | succ d' =>
        simp only at h
        cases hb : x_may_call fd d' t M' na (I M) (I M') (t.2.2.1.take na).reverse (t.2.2.1.drop na) with
        | false => rw [hb] at h; cases h
        | true =>
          rw [hb] at h
          simp only [cond_true] at h
          unfold x_may_call at hb
          simp only [Bool.and_eq_true] at hb
          obtain ⟨b1, b2, b3, b4, b5, b6, b7, b8⟩ := hb
          have b1 := Nat.le_of_ble_eq_true b1
          have b2 := Nat.le_of_ble_eq_true b2
          have b3 := Nat.le_of_ble_eq_true b3
          have b4 := Nat.le_of_ble_eq_true b4
          have b5 := Nat.le_of_ble_eq_true b5
          have b6 := Nat.le_of_ble_eq_true b6
          have b7 := Nat.le_of_ble_eq_true b7
          have key : ∀ ls : List xK, x_ex fd code I n d' M' (0, x_ent 0 (t.2.2.1.take na).reverse, [], t.2.2.2.1, t.2.2.2.2.1, 0, 0) = some ls → (∀ lf ∈ ls, x_Good cl V sc (xm_l (I M)) p l e R s m args below meth c D A H0 Q (x_back t (t.2.2.1.drop na) (I M') lf)) → x_Good cl V sc (xm_l (I M)) p l e R s m args below meth c D A H0 Q t := by
            intro ls hls hgo lsl stk H locs hI
            obtain ⟨lv, ws, tys, h1, h2, h3, h4, h5, h6, h7, h8, h9⟩ := hI
            have hsp := x_split na h3
            have hargs := x_all2_rev hsp.1
            have hM := x_met_of hT ih (l := l) b1 (by omega) b5 hls V sc.1 sc.2.1 D ws tys (stk.take na).reverse H.size
              (x_all2_imp (fun a v hh => x_rel_sc rfl rfl hh) hargs)
              ⟨h4.1, ⟨[], by simp⟩, fun k x q hx hq => x_cell_sc rfl rfl (h4.2.2 k x q hx hq)⟩ h9 hPV
            have hlen : stk.length = t.2.2.1.length := (x_all2_len h3).symm
            have hvA : ∀ q : Nat, va_A ws H.size q → A q := by
              intro q hq
              rcases hq with ⟨k, e9, hk⟩ | hq
              · exact h7.2 k _ hk
              · exact hA q (Nat.le_trans h8.1 hq)
            have hrun := hE (e := e) (below := below) C (H := H) (locs := locs) (cells := t.2.2.2.2.2.1) (slots := t.2.2.2.2.2.2) (ls := lsl) (rest := stk.drop na) hM
              (fun a U g mk q => by obtain ⟨q0, q1, qP, qK, qD, qE⟩ := q; exact ⟨q0, q1, qP, va_K.moved (u := U) (U := U.calling g mk a) (Vm.Alike.refl U.vm) qK, qD, qE.same (U := U.calling g mk a) rfl⟩)
              (fun U hU hW => ⟨rfl, by rw [hU], by rw [hU]; exact h6, va_K.moved hW.alike h5, h7.weaken (fun _ _ _ _ => trivial), C.2.2.2.2.2.2.warm hW⟩)
              (by
                by_cases ho : xm_o (I M') = 999
                · exact Or.inl ho
                · refine Or.inr ?_
                  unfold x_rcv at b8
                  rw [x_nb ho] at b8
                  simp only [cond_false] at b8
                  split at b8
                  · rename_i j jb as' has'
                    split at b8
                    · rename_i c9 r9 hcell
                      have e9 := Nat.eq_of_beq_eq_true b8
                      rw [has'] at hargs
                      match hv : (stk.take na).reverse, hargs with
                      | v :: As, hargs =>
                        obtain ⟨a, ee, hq, rfl, hcc⟩ := x_ref h4 hargs.1 hcell
                        obtain ⟨fs, rfl, -, -⟩ := hcc
                        obtain ⟨r, hr1, hr2⟩ := hT.2.2.2.2 M' ho
                        rw [← e9] at hr1
                        obtain ⟨cellB, k1, k2, k3⟩ := va_recv h5 h6 hr1 hq
                        exact ⟨a, As, rfl, cellB, k1, k2, by rw [← hr2]; exact k3⟩
                    · cases b8
                  · cases b8)
              (by rw [List.length_reverse, List.length_take, hlen]; omega) rfl rfl (by show d' + 1 ≤ R.frames; omega) (by show 8 + (xm_l (I M') + 11) + 64 * d' ≤ R.locals; omega) h1.1
              (by rw [(x_cats_ok hsp.2).1]; exact b4) ⟨by rw [C.2.2.1]; exact b6, by rw [C.2.2.2.1]; exact b7⟩
            rw [List.reverse_reverse, List.take_append_drop] at hrun
            refine x_after hrun h8 (fun st v T hq => hq.2) (fun q _ h => hvA q h) hvA (fun v st T H1 locs1 hTh hal hq hS1 => ?_)
            obtain ⟨⟨lf, hlf, v', ws', tys', ev, hr, hw', hK', hP', hD', htk⟩, hFr⟩ := hq
            cases ev
            obtain ⟨l9, e9⟩ := hw'.2.1
            have e9 : ws'.map Prod.fst = ws.map Prod.fst ++ l9 := e9
            refine hgo lf hlf lsl (v.toList ++ stk.drop na) H1 locs1 ⟨lv, ws', tys', h1, ?_, ?_, ⟨hw'.1, ?_, fun k x q hx hq => x_cell_sc rfl rfl (hw'.2.2 k x q hx hq)⟩, va_K.moved hal.symm hK', by rw [← hTh]; exact hP', hD'.weaken (fun _ q _ h => hvA q.1 h), hS1, htk⟩
            · rw [e9]; exact x_lv_app h2
            · refine x_all2_app (x_all2_imp (fun a v hh => x_rel_sc rfl rfl hh) hr) ?_
              rw [e9]; exact x_stk_app hsp.2
            · obtain ⟨l0, e0⟩ := h4.2.1
              exact ⟨l0 ++ l9, by rw [e9, e0, List.append_assoc]⟩
          split at h
          · rename_i lf hls
            refine key [lf] hls (fun lf2 h2 => ?_)
            rw [List.mem_singleton] at h2
            subst h2
            exact ih (d' + 1) M _ Ls h C hd hdl hA hK hPV hret
          · rename_i ls hne hls
            refine key ls hls (fun lf2 h2 => ?_)
            obtain ⟨a', ha, hin⟩ := x_each_in h _ (List.mem_map_of_mem h2)
            exact ih (d' + 1) M _ a' ha C hd hdl hA hK hPV (fun t3 f3 k3 b3 lf3 e1 e2 e3 => hret t3 f3 k3 b3 lf3 e1 e2 (hin _ e3))
          · cases h
    · cases h
end X10
