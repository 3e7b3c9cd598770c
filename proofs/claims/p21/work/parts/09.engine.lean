noncomputable section
/-! the engine: methods by number, calls inside; and what it says of a method is a contract -/
/-- name, code, locals, answer's type, cells and slots that it makes at most, class of the receiver (999: none) -/
abbrev xM : Type := MethodName × ByteArray × Nat × Option FieldType × Nat × Nat × Nat
abbrev xm_y (q : xM) : MethodName := q.1
abbrev xm_b (q : xM) : ByteArray := q.2.1
abbrev xm_l (q : xM) : Nat := q.2.2.1
abbrev xm_r (q : xM) : Option FieldType := q.2.2.2.1
abbrev xm_c (q : xM) : Nat := q.2.2.2.2.1
abbrev xm_s (q : xM) : Nat := q.2.2.2.2.2.1
abbrev xm_o (q : xM) : Nat := q.2.2.2.2.2.2
def x_ws (q : xM) : List Cond := .code (xm_y q) (xm_b q) (xm_l q) (xm_r q) :: x_tbl
def x_rm (d : Nat) (q : xM) : Room := { frames := d, cells := xm_c q, slots := xm_s q, locals := 64 * d }
def x_ent : Nat → List xV → xL
  | _, [] => []
  | i, x :: r => (i, x) :: x_ent (bif Nat.beq (x_ty x) 1 then i + 2 else i + 1) r
def x_cats : List xV → Nat
  | [] => 0
  | x :: r => (bif Nat.beq (x_ty x) 1 then 2 else 1) + x_cats r
def x_each {α β : Type} (f : α → Option (List β)) : List α → Option (List β)
  | [] => some []
  | t :: r => match f t with
    | some a => match x_each f r with
      | some b => some (a ++ b)
      | none => none
    | none => none
def x_retv (k : Nat) (t : xS) : Option xK := match k, t.2.2.1 with
  | 0, [] => some ([], t.2.2.2.1, t.2.2.2.2.1)
  | 1, [x] => bif Nat.beq (x_ty x) 0 then some ([x], t.2.2.2.1, t.2.2.2.2.1) else none
  | 2, [x] => bif Nat.beq (x_ty x) 1 then some ([x], t.2.2.2.1, t.2.2.2.2.1) else none
  | 3, [x] => bif Nat.beq (x_ty x) 2 then some ([x], t.2.2.2.1, t.2.2.2.2.1) else none
  | 4, [x] => bif x_pkb t.2.2.2.2.1 1 x then some ([x], t.2.2.2.1, t.2.2.2.2.1) else none
  | _, _ => none
def x_ret (k : Nat) (q : xM) (t : xS) : Option xK := bif Nat.ble t.2.2.2.2.2.1 (xm_c q) && Nat.ble t.2.2.2.2.2.2 (xm_s q) then x_retv k t else none
/-- the receiver is an object of the class that is wanted -/
def x_rcv (o : Nat) (as : List xV) (w : List xC) : Bool := bif Nat.beq o 999 then true else match as with
  | (1, j, _) :: _ => match x_at w j.toNat with
    | some (0, c, _) => Nat.beq c o
    | _ => false
  | _ => false
def x_back (t : xS) (rest : List xV) (q : xM) (lf : xK) : xS := (t.1 + 3, t.2.1, lf.1 ++ rest, lf.2.1, lf.2.2, t.2.2.2.2.2.1 + xm_c q, t.2.2.2.2.2.2 + xm_s q)
def x_may_call (fd d : Nat) (t : xS) (M' na : Nat) (q q' : xM) (as rest : List xV) : Bool :=
  Nat.ble fd d && (Nat.ble 1 M' && (Nat.ble na t.2.2.1.length && (Nat.ble (x_cats rest) 8 && (Nat.ble (x_cats as) (xm_l q') && (Nat.ble (t.2.2.2.2.2.1 + xm_c q') (xm_c q) && (Nat.ble (t.2.2.2.2.2.2 + xm_s q') (xm_s q) && x_rcv (xm_o q') as t.2.2.2.1))))))
def x_rets (code : Nat → Nat → xE) (q : xM) (M : Nat) : List xS → Option (List xK)
  | [] => some []
  | t :: r => match code M t.1 with
    | (1, _, k, _) => match x_ret k q t with
      | some lf => match x_rets code q M r with
        | some b => some (lf :: b)
        | none => none
      | none => none
    | _ => none
/-- a loop: the places of the locals that count (99999: none), the picture at its head, its token, where it goes out -/
abbrev xLp : Type := (Nat × Nat) × (xS → Option xS) × Nat × Nat
def x_tok (a : Nat) : Bool := Nat.beq a 20 || (Nat.beq a 24 || Nat.beq a 28)
def x_cb (t : xS) (c : Nat) : Option (Int × Int) := match x_find t.2.1 c with
  | some x => x_bi t.2.2.2.2.1 x
  | none => none
def x_c2 (c : Nat × Nat) : Nat := bif Nat.beq c.2 99999 then c.1 else c.2
def x_inb (tk : xT) (j : Nat) (lo hi : Int) : Bool := match tk[j]? with
  | some q => decide (q.1 ≤ lo) && decide (hi ≤ q.2)
  | none => false
/-- those that count lie between the bounds that u has for the tokens -/
def x_ctr (a : Nat) (c : Nat × Nat) (t u : xS) : Bool := match x_cb t c.1, x_cb t (x_c2 c) with
  | some b, some b2 => x_inb u.2.2.2.2.1 a b.1 b.2 && (x_inb u.2.2.2.2.1 (a + 1) (b.1 + 1) (b.2 + 1) && (x_inb u.2.2.2.2.1 (a + 2) b2.1 b2.2 && x_inb u.2.2.2.2.1 (a + 3) (b2.1 + 1) (b2.2 + 1)))
  | _, _ => false
def x_below (a : Nat) (c : Nat × Nat) (t : xS) : Bool := bif Nat.beq a 20 && !(Nat.beq c.2 99999) then match x_cb t c.1, x_cb t c.2 with
  | some b, some b2 => decide (b2.2 ≤ b.1)
  | _, _ => false else true
def x_enter (fd d M a : Nat) (c : Nat × Nat) (t u : xS) : Bool := Nat.ble fd d && (Nat.ble 1 M && (x_tok a && (x_below a c t && (x_le a c t u && x_ctr a c t u))))
/-- back at the head: the count is one more -/
def x_again (a : Nat) (c : Nat × Nat) (t u : xS) : Bool := x_le a c t u && (x_ctr a c t u && ((match x_find t.2.1 c.1 with
  | some x => x_eqv x (3, ((a + 1 : Nat) : Int), 0)
  | none => false) && (bif Nat.beq a 20 && !(Nat.beq c.2 99999) then match x_find t.2.1 c.2 with
    | some x => x_eqv x (3, ((a + 2 : Nat) : Int), 0) || x_eqv x (3, ((a + 3 : Nat) : Int), 0)
    | none => false else true)))
def x_cln (a : Nat) (tk : xT) (x : xV) : xV := bif x_nt a x then x else match x.1 with
  | 3 => match tk[x.2.1.toNat]? with
    | some b => (0, b)
    | none => x
  | _ => match tk[x.2.1.toNat]? with
    | some b => (4, b)
    | none => x
/-- behind the loop: its tokens are forgotten -/
def x_out (a : Nat) (tk0 : xT) (t : xS) : Option xS := match tk0[a]?, tk0[a + 1]?, tk0[a + 2]?, tk0[a + 3]? with
  | some q, some q', some r, some r' => some (t.1, t.2.1.map (fun p => (p.1, x_cln a t.2.2.2.2.1 p.2)), t.2.2.1.map (x_cln a t.2.2.2.2.1), t.2.2.2.1, (((t.2.2.2.2.1.set a q).set (a + 1) q').set (a + 2) r).set (a + 3) r', t.2.2.2.2.2)
  | _, _, _, _ => none
def x_loop (h e a : Nat) (c : Nat × Nat) (tk0 : xT) (u : xS) : List xS → Option (List xS)
  | [] => some []
  | t :: r => bif Nat.beq t.1 h then (bif x_again a c t u then x_loop h e a c tk0 u r else none) else bif Nat.beq t.1 e then match x_out a tk0 t with
      | some t' => bif x_le a (99999, 99999) t t' then match x_loop h e a c tk0 u r with
          | some b => some (t' :: b)
          | none => none
        else none
      | none => none
    else none
/-- a number, whatever cells there are -/
def x_num (x : xV) : Bool := match x.1 with
  | 0 => true
  | 3 => true
  | 4 => true
  | 6 => true
  | _ => false
def x_longs (ls : List xK) : Bool := ls.all (fun lf => match lf.1 with
  | [x] => Nat.beq (x_ty x) 1
  | _ => false)
/-- from t on, to a place of sp, or to the method's end -/
def x_go (fd : Nat) (code : Nat → Nat → xE) (lp : Nat → xLp) (I : Nat → xM) : Nat → Nat → Nat → Nat × Nat → xS → Option (List xS)
  | 0, _, _, _, _ => none
  | n + 1, d, M, sp, t => bif Nat.beq t.1 sp.1 || Nat.beq t.1 sp.2 then some [t] else match code M t.1 with
    | (0, f, _, _) => match f t with
      | some [t'] => x_go fd code lp I n d M sp t'
      | some l => x_each (fun t' => x_go fd code lp I n d M sp t') l
      | none => none
    | (1, _, _, _) => some [t]
    | (2, _, M', na) => match d with
      | 0 => none
      | d' + 1 => bif x_may_call fd d' t M' na (I M) (I M') (t.2.2.1.take na).reverse (t.2.2.1.drop na) then
          match x_go fd code lp I n d' M' (99999, 99999) (0, x_ent 0 (t.2.2.1.take na).reverse, [], t.2.2.2.1, t.2.2.2.2.1, 0, 0) with
          | some rs => match x_rets code (I M') M' rs with
            | some [lf] => x_go fd code lp I n (d' + 1) M sp (x_back t (t.2.2.1.drop na) (I M') lf)
            | some ls => x_each (fun lf => x_go fd code lp I n (d' + 1) M sp lf) (ls.map (x_back t (t.2.2.1.drop na) (I M')))
            | none => none
          | none => none
          else none
    | (3, g, L, _) => match lp L with
      | (c, wk, a, e) => match wk t with
        | some u => bif x_enter fd d M a c t u then match g u with
            | some l => match x_each (fun t' => x_go fd code lp I n d M (t.1, e) t') l with
              | some rs => match x_loop t.1 e a c t.2.2.2.2.1 u rs with
                | some ex => x_each (fun t' => x_go fd code lp I n d M sp t') ex
                | none => none
              | none => none
            | none => none
          else none
        | none => match g t with
          | some [t'] => x_go fd code lp I n d M sp t'
          | some l => x_each (fun t' => x_go fd code lp I n d M sp t') l
          | none => none
    | (4, _, M', na) => match d with
      | 0 => none
      | d' + 1 => bif x_may_call fd d' t M' na (I M) (I M') (t.2.2.1.take na).reverse (t.2.2.1.drop na) && (Nat.beq (xm_o (I M')) 999 && ((t.2.2.1.take na).reverse).all x_num) then
          match x_go fd code lp I n d' M' (99999, 99999) (0, x_ent 0 (t.2.2.1.take na).reverse, [], [], t.2.2.2.2.1, 0, 0) with
          | some rs => match x_rets code (I M') M' rs with
            | some ls => bif x_longs ls then x_go fd code lp I n (d' + 1) M sp (x_back t (t.2.2.1.drop na) (I M') ([x_anyL], t.2.2.2.1, t.2.2.2.2.1)) else none
            | none => none
          | none => none
          else none
    | _ => none
theorem x_after {p : Program} {l : Launch} {e : Env} {R : Room} {s : State} {m : MethodId} {args : Array Value} {below : List Frame} {meth : Method} {c : Code} {H : Heap} {locs : List Loc} {cells slots : Nat} {Q : State → Prop} {pc : Nat} {ls : Array Slot} {rest st0 : List Value} {A0 A1 : Nat → Prop} {H0 : Heap} {mc ms : Nat} {free : Addr → Prop} {Qa : State → Outcome → State → Prop}
    (hr : va_Run p l e R s m args below meth c H locs cells slots mc ms (F0 m pc ls st0) rest Qa free) (hS : va_S A0 H0 H locs) (hQ : ∀ st v t, Qa st (.returned v) t → va_F A1 st t) (hA : ∀ q, q < H.size → A1 q → A0 q) (hf : ∀ q, free q → A0 q)
    (kk : ∀ (v : Option Value) (st t : State) (H1 : Heap) (locs1 : List Loc), st.heap = H → t.heap = H1 → s.vm.Alike t.vm → Qa st (.returned v) t → va_S A0 H0 H1 locs1 → W p l e R s m args below meth c H1 locs1 (cells + mc) (slots + ms) Q (F0 m (pc + 3) ls (v.toList ++ rest))) : W p l e R s m args below meth c H locs cells slots Q (F0 m pc ls st0) := by
  intro T hT X
  obtain ⟨v, st₀, t, T', L, h0, X', hL, e1, e2, hq, st⟩ := hr T hT X
  obtain ⟨hz, hk⟩ := hQ _ _ _ hq
  rw [h0] at hz hk
  obtain ⟨t2, a1, b1⟩ := kk v st₀ t T'.heap (locs ++ L) h0 e1.symm (by rw [← e2]; exact X'.warmed.alike) hq
    ⟨Nat.le_trans hS.1 (by rw [e1]; exact hz), fun q h1 h2 => by rw [e1, hk q (Nat.lt_of_lt_of_le h1 hS.1) (fun z => h2 (hA q (Nat.lt_of_lt_of_le h1 hS.1) z))]; exact hS.2.1 q h1 h2, fun q hq => by
      rcases List.mem_append.mp hq with h | h
      · exact hS.2.2 q h
      · exact hf _ (hL q h)⟩ T' rfl X'
  exact ⟨t2, st t2 a1, b1⟩
/-- what is left behind a method -/
def x_Q (cl : List vw_C) (V : List Int) (sc : Nat × Nat × List Nat) (D : va_G) (ws0 : va_W) (sz : Nat) (Ls : List xK) : Array Value → State → Outcome → State → Prop := fun _ st oc t =>
  (∃ lf ∈ Ls, ∃ (v : Option Value) (ws : va_W) (tys : List (ClassId × FieldType)), oc = .returned v ∧ x_all2 (x_rel (ws.map Prod.fst) V sc) lf.1 v.toList ∧ x_world cl V sc tys lf.2.1 ws ∧ va_K D cl tys t ∧ va_P D cl ws t.heap ∧ va_D (va_A ws0 sz) ws ∧ x_tk lf.2.2 V) ∧ va_F (va_A ws0 sz) st t
def x_Rt (cc : ByteArray) (rt : Option FieldType) (pc k : Nat) : Prop := match k with
  | 0 => decode cc pc = .ok (.return_, 1) ∧ rt = none
  | 1 => decode cc pc = .ok (.ireturn, 1) ∧ rt = some .int
  | 2 => decode cc pc = .ok (.lreturn, 1) ∧ rt = some .long
  | 3 => decode cc pc = .ok (.areturn, 1) ∧ ∃ t, rt = some t ∧ ((∃ n, t = .object n) ∨ ∃ q, t = .array q)
  | 5 => decode cc pc = .ok (.ireturn, 1) ∧ (rt = some .byte ∨ rt = some .char)
  | _ => decode cc pc = .ok (.ireturn, 1) ∧ rt = some .boolean
def x_Cl (cc : ByteArray) (own : String) (nL : Nat) (nm : String) (MC MS pc : Nat) (q' : xM) (na : Nat) : Prop := (19 + xm_l q' ≤ 64) ∧ ∀ {p : Program} {l : Launch} {e : Env} {R : Room} {s : State} {m : MethodId} {args : Array Value} {below : List Frame} {meth : Method} {c : Code}, x_Cx cc own nL nm MC MS p R s m args meth c →
  ∀ {H : Heap} {locs : List Loc} {cells slots mc ms : Nat} {ls : Array Slot} {rest vargs : List Value} {Pc : Array Value → State → Prop} {Qc : Array Value → State → Outcome → State → Prop} {free : Addr → Prop} {rm : Room}, Met l (xm_y q') (x_ws q') rm Pc Qc mc ms free → FrameBlind Pc → (∀ U : State, U.heap = H → s.WarmedH U.vm → Pc vargs.toArray U) →
  (xm_o q' = 999 ∨ ∃ b As, vargs = .ref b :: As ∧ ∃ cellB : Cell, H[b]? = some cellB ∧ cellB.vm.isStatics = false ∧ s.vm.findClass (xm_y q').cls = some cellB.cls) → vargs.length = na → rm.cells = mc → rm.slots = ms → rm.frames + 1 ≤ R.frames → 8 + (xm_l q' + 11) + rm.locals ≤ R.locals → ls.size = nL → (rest.map fun v => v.category).sum ≤ 8 → cells + mc ≤ R.cells ∧ slots + ms ≤ R.slots →
  va_Run p l e R s m args below meth c H locs cells slots mc ms (F0 m pc ls (vargs.reverse ++ rest)) rest (Qc vargs.toArray) free
/-- a place of a method's table may be trusted -/
def x_EOq (cl : List vw_C) (K : xKx) (I : Nat → xM) (q : xM) (pc : Nat) (en : xE) : Prop := match en with
  | (0, f, _, _) => x_Snd cl K (xm_b q) (xm_y q).cls (xm_l q) (xm_y q).name (xm_c q) (xm_s q) pc f
  | (1, _, k, _) => x_Rt (xm_b q) (xm_r q) pc k
  | (2, _, M', na) => x_Cl (xm_b q) (xm_y q).cls (xm_l q) (xm_y q).name (xm_c q) (xm_s q) pc (I M') na
  | (3, f, _, _) => x_Snd cl K (xm_b q) (xm_y q).cls (xm_l q) (xm_y q).name (xm_c q) (xm_s q) pc f
  | (4, _, M', na) => x_Cl (xm_b q) (xm_y q).cls (xm_l q) (xm_y q).name (xm_c q) (xm_s q) pc (I M') na
  | _ => True
abbrev x_EOk (cl : List vw_C) (K : xKx) (I : Nat → xM) (M pc : Nat) (en : xE) : Prop := x_EOq cl K I (I M) pc en
theorem x_each_in {α β : Type} {f : α → Option (List β)} : ∀ {l : List α} {r : List β}, x_each f l = some r → ∀ t ∈ l, ∃ a, f t = some a ∧ ∀ x ∈ a, x ∈ r
  | [], r, h, t, ht => absurd ht List.not_mem_nil
  | t0 :: l, r, h, t, ht => by
    unfold x_each at h
    split at h
    · rename_i a ha
      split at h
      · rename_i b hb
        cases h
        rcases List.mem_cons.mp ht with rfl | ht
        · exact ⟨a, ha, fun x hx => List.mem_append_left _ hx⟩
        · obtain ⟨a', h1, h2⟩ := x_each_in hb t ht
          exact ⟨a', h1, fun x hx => List.mem_append_right _ (h2 x hx)⟩
      · cases h
    · cases h
theorem x_rel_sc {ad : List Nat} {V : List Int} {sc sc' : Nat × Nat × List Nat} (h1 : sc.1 = sc'.1) (h2 : sc.2.1 = sc'.2.1) {x : xV} {v : Value} (h : x_rel ad V sc x v) : x_rel ad V sc' x v := by
  obtain ⟨t, a, b⟩ := x
  unfold x_rel at h ⊢
  split at h <;> try exact h
  exact ⟨by rw [← h1]; exact h.1, by rw [← h2]; exact h.2⟩
theorem x_cell_sc {cl : List vw_C} {ad : List Nat} {V : List Int} {sc sc' : Nat × Nat × List Nat} (h1 : sc.1 = sc'.1) (h2 : sc.2.1 = sc'.2.1) {tys : List (ClassId × FieldType)} {x : xC} {e : va_E} (h : x_cell cl ad V sc tys x e) : x_cell cl ad V sc' tys x e := by
  obtain ⟨t, n, ln, d, o⟩ := x
  unfold x_cell at h ⊢
  split at h
  · obtain ⟨fs, g1, g2, g3⟩ := h
    exact ⟨fs, g1, g2, fun k hk => by obtain ⟨v, k1, k2⟩ := g3 k hk; exact ⟨v, k1, x_rel_sc h1 h2 k2⟩⟩
  · obtain ⟨t0, cA, f, g1, g2, g3, g4⟩ := h
    exact ⟨t0, cA, f, g1, g2, g3, fun k hk => x_rel_sc h1 h2 (g4 k hk)⟩
  · obtain ⟨t0, cA, f, g1, g2, g3, g4⟩ := h
    exact ⟨t0, cA, f, g1, g2, g3, fun k hk => x_rel_sc h1 h2 (g4 k hk)⟩
  · obtain ⟨t0, cA, f, g1, g2, g3, g4⟩ := h
    exact ⟨t0, cA, f, g1, g2, g3, fun k hk => x_rel_sc h1 h2 (g4 k hk)⟩
  · obtain ⟨t0, cA, r, f, g0, g1, g2, g3, g4⟩ := h
    exact ⟨t0, cA, r, f, g0, g1, g2, g3, fun k hk => x_rel_sc h1 h2 (g4 k hk)⟩
  · obtain ⟨t0, cA, f, g1, g2, g3, g4⟩ := h
    exact ⟨t0, cA, f, g1, g2, g3, fun k hk => x_rel_sc h1 h2 (g4 k hk)⟩
  · exact h.elim
theorem x_ent_ok {ad : List Nat} {V : List Int} {sc : Nat × Nat × List Nat} : ∀ {as : List xV} {vs : List Value} (i : Nat), x_all2 (x_rel ad V sc) as vs → x_all2 (fun a q => a.1 = q.1 ∧ x_rel ad V sc a.2 q.2) (x_ent i as) (lv_args i vs)
  | [], [], _, _ => trivial
  | a :: as, v :: vs, i, h => by
    refine ⟨⟨rfl, h.1⟩, ?_⟩
    have e := x_kd_cat (x_ty_ok h.1)
    cases hb : Nat.beq (x_ty a) 1 with
    | true =>
      have := Nat.eq_of_beq_eq_true hb
      rw [this, if_pos rfl] at e
      rw [e, if_pos rfl]
      exact x_ent_ok (i + 2) h.2
    | false =>
      have h1 : ¬ x_ty a = 1 := fun q => by rw [q] at hb; cases hb
      rw [if_neg h1] at e
      rw [e, if_neg (by decide)]
      exact x_ent_ok (i + 1) h.2
  | [], _ :: _, _, h => h.elim
  | _ :: _, [], _, h => h.elim
theorem x_cats_ok {ad : List Nat} {V : List Int} {sc : Nat × Nat × List Nat} : ∀ {as : List xV} {vs : List Value}, x_all2 (x_rel ad V sc) as vs → (vs.map fun v => v.category).sum = x_cats as ∧ (lg_sl vs).length = x_cats as
  | [], [], _ => ⟨rfl, rfl⟩
  | a :: as, v :: vs, h => by
    have e := x_kd_cat (x_ty_ok h.1)
    obtain ⟨h1, h2⟩ := x_cats_ok h.2
    cases hb : Nat.beq (x_ty a) 1 with
    | true =>
      have := Nat.eq_of_beq_eq_true hb
      rw [this, if_pos rfl] at e
      refine ⟨by simp only [List.map_cons, List.sum_cons, e, h1, x_cats, hb, cond_true], ?_⟩
      show (List.flatMap _ (v :: vs)).length = _
      rw [List.flatMap_cons, e, if_pos rfl, List.length_append]
      show 2 + (lg_sl vs).length = _
      rw [h2]
      simp only [x_cats, hb, cond_true]
    | false =>
      have h3 : ¬ x_ty a = 1 := fun q => by rw [q] at hb; cases hb
      rw [if_neg h3] at e
      refine ⟨by simp only [List.map_cons, List.sum_cons, e, h1, x_cats, hb, cond_false], ?_⟩
      show (List.flatMap _ (v :: vs)).length = _
      rw [List.flatMap_cons, e, if_neg (by decide), List.length_append]
      show 1 + (lg_sl vs).length = _
      rw [h2]
      simp only [x_cats, hb, cond_false]
  | [], _ :: _, h => h.elim
  | _ :: _, [], h => h.elim
theorem x_split {α β : Type} {R : α → β → Prop} (n : Nat) : ∀ {as : List α} {bs : List β}, x_all2 R as bs → x_all2 R (as.take n) (bs.take n) ∧ x_all2 R (as.drop n) (bs.drop n) := by
  induction n with
  | zero => intro as bs h; simp only [List.take_zero, List.drop_zero]; exact ⟨trivial, h⟩
  | succ n ih =>
    intro as bs h
    match as, bs, h with
    | [], [], _ => exact ⟨trivial, trivial⟩
    | a :: as, b :: bs, h =>
      obtain ⟨h1, h2⟩ := ih h.2
      exact ⟨⟨h.1, h1⟩, h2⟩
theorem x_num_ok {ad ad' : List Nat} {V : List Int} {sc sc' : Nat × Nat × List Nat} {x : xV} {v : Value} (h : x_num x = true) (hr : x_rel ad V sc x v) : x_rel ad' V sc' x v := by
  obtain ⟨t, i, b⟩ := x
  unfold x_num at h
  unfold x_rel at hr ⊢
  split at h
  · rename_i h0; simp only at h0; subst h0; exact hr
  · rename_i h0; simp only at h0; subst h0; exact hr
  · rename_i h0; simp only at h0; subst h0; exact hr
  · rename_i h0; simp only at h0; subst h0; exact hr
  · cases h
theorem x_nums_ok {ad ad' : List Nat} {V : List Int} {sc sc' : Nat × Nat × List Nat} : ∀ {as : List xV} {vs : List Value}, as.all x_num = true → x_all2 (x_rel ad V sc) as vs → x_all2 (x_rel ad' V sc') as vs
  | [], [], _, _ => trivial
  | a :: as, v :: vs, h, hr => by
    simp only [List.all_cons, Bool.and_eq_true] at h
    exact ⟨x_num_ok h.1 hr.1, x_nums_ok h.2 hr.2⟩
  | [], _ :: _, _, h => h.elim
  | _ :: _, [], _, h => h.elim
end
