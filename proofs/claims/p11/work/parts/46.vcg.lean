noncomputable section
/-! rules for printed proofs: plain runs at once, calls, fewer locals -/
def e_steps (code : Nat → Nat → eE) (M : Nat) : Nat → eS → Option eS
  | 0, t => some t
  | n + 1, t => match code M t.1 with
    | (0, f, _, _) => match f t with
      | some t' => e_steps code M n t'
      | none => none
    | _ => none
def e_ndB : List Nat → Bool
  | [] => true
  | i :: r => (r.all fun j => !Nat.beq j i) && e_ndB r
theorem e_ndB_ok : ∀ {l : List Nat}, e_ndB l = true → l.Nodup
  | [], _ => List.nodup_nil
  | i :: r, h => by
    unfold e_ndB at h
    simp only [Bool.and_eq_true] at h
    rw [List.nodup_cons]
    refine ⟨fun hm => ?_, e_ndB_ok h.2⟩
    have := List.all_eq_true.mp h.1 i hm
    simp at this
def e_keys : eL → List Nat
  | [] => []
  | q :: r => q.1 :: e_keys r
theorem e_keys_ok : ∀ l : eL, e_keys l = l.map Prod.fst
  | [] => rfl
  | q :: r => by rw [e_keys, e_keys_ok r, List.map_cons]
def e_allF : eL → eL → Prop
  | [], _ => True
  | q :: r, l' => e_find l' q.1 = some q.2 ∧ e_allF r l'
theorem e_allF_ok {l' : eL} : ∀ {l : eL}, e_allF l l' → ∀ q ∈ l, q ∈ l'
  | [], _, q, h => by cases h
  | a :: r, h, q, hq => by
    rcases List.mem_cons.mp hq with rfl | hq
    · exact e_find_mem h.1
    · exact e_allF_ok h.2 q hq
theorem e_sub_of {l l' : eL} (hn : e_ndB (e_keys l') = true) (h : e_allF l l') : e_sub l l' := ⟨by rw [← e_keys_ok]; exact e_ndB_ok hn, e_allF_ok h⟩
def e_mayS (M' na : Nat) (q' : xM) (st : List eV) : Bool :=
  Nat.ble 1 M' && (Nat.ble na st.length && (Nat.ble (e_cats (st.drop na)) 8 && (Nat.ble (e_cats (st.take na).reverse) (xm_l q') && (Nat.beq (xm_c q') 0 && Nat.beq (xm_s q') 0))))
section E46
variable {fd : Nat} {lay : List eY} {code : Nat → Nat → eE} {I : Nat → xM} {d M k a b p : Nat} {l : eL} {w : eW} {Q Q' : List eV → eW → Prop}
theorem e_Ok.run {t t' : eS} (n : Nat) (h0 : e_steps code M n t = some t') (h : e_Ok fd lay code I d M t' Q) : e_Ok fd lay code I d M t Q := by
  induction n generalizing t with
  | zero => cases h0; exact h
  | succ n ih =>
    unfold e_steps at h0
    split at h0
    · rename_i f a b hc
      split at h0
      · rename_i t1 hf
        exact e_Ok.step hc hf (ih h0)
      · cases h0
    · cases h0
theorem e_Ok.callS {M' na : Nat} {f : eS → Option eS} {st : List eV} (hc : code M p = (2, f, M', na)) (hd : fd ≤ d) (ho : xm_o (I M') = 999) (hm : e_mayS M' na (I M') st = true) (h' : e_Ok fd lay code I d M' (0, e_ent 0 (st.take na).reverse, [], w) Q') (h : ∀ r w', Q' r w' → e_Ok fd lay code I (d + 1) M (p + 3, l, r ++ st.drop na, w') Q) : e_Ok fd lay code I (d + 1) M (p, l, st, w) Q := by
  refine e_Ok.call hc ?_ h' h
  unfold e_mayS at hm
  unfold e_may e_rcv
  simp only [Bool.and_eq_true] at hm ⊢
  exact ⟨Nat.ble_eq_true_of_le hd, hm.1, hm.2.1, hm.2.2.1, hm.2.2.2.1, hm.2.2.2.2.1, hm.2.2.2.2.2, by rw [ho]; rfl⟩
theorem e_Ok.callV {M' na c n : Nat} {j : Int} {f : eS → Option eS} {st as : List eV} (hc : code M p = (2, f, M', na)) (hd : fd ≤ d) (hs : (st.take na).reverse = (1, j) :: as) (hl : lay[j.toNat]? = some (0, c, n)) (ho : xm_o (I M') = c) (hm : e_mayS M' na (I M') st = true) (h' : e_Ok fd lay code I d M' (0, e_ent 0 (st.take na).reverse, [], w) Q') (h : ∀ r w', Q' r w' → e_Ok fd lay code I (d + 1) M (p + 3, l, r ++ st.drop na, w') Q) : e_Ok fd lay code I (d + 1) M (p, l, st, w) Q := by
  refine e_Ok.call hc ?_ h' h
  unfold e_mayS at hm
  unfold e_may
  simp only [Bool.and_eq_true] at hm ⊢
  refine ⟨Nat.ble_eq_true_of_le hd, hm.1, hm.2.1, hm.2.2.1, hm.2.2.2.1, hm.2.2.2.2.1, hm.2.2.2.2.2, ?_⟩
  rw [hs]
  unfold e_rcv
  simp only [hl, ho, Nat.beq_refl]
  cases Nat.beq c 999 <;> rfl
theorem e_Ok.divn {nx : Nat} {r : List eV} {x y : Int} (h : ∀ z, z = x / y → e_Ok fd lay code I d M (nx, l, (0, z) :: r, w) Q) (hc : code M p = (0, ei_bin eF_div nx, a, b)) (hx : 0 ≤ x ∧ x ≤ 2147483647) (hy : 0 < y) : e_Ok fd lay code I d M (p, l, (0, y) :: (0, x) :: r, w) Q := by
  refine e_Ok.step hc ?_ (h _ rfl)
  have e : eF_div x y = some (x / y) := by
    unfold eF_div
    rw [decide_eq_false (by omega), Int.tdiv_eq_ediv_of_nonneg hx.1]
    have h1 : 0 ≤ x / y := Int.ediv_nonneg hx.1 (by omega)
    have h2 : x / y ≤ x := Int.ediv_le_self y hx.1
    rw [e32_id (by omega) (by omega)]
    rfl
  show (match eF_div x y with | some z => _ | none => none) = _
  rw [e]
theorem e_Ok.remn {nx : Nat} {r : List eV} {x y : Int} (h : ∀ z, z = x % y → e_Ok fd lay code I d M (nx, l, (0, z) :: r, w) Q) (hc : code M p = (0, ei_bin eF_rem nx, a, b)) (hx : 0 ≤ x ∧ x ≤ 2147483647) (hy : 0 < y) : e_Ok fd lay code I d M (p, l, (0, y) :: (0, x) :: r, w) Q := by
  refine e_Ok.step hc ?_ (h _ rfl)
  have e : eF_rem x y = some (x % y) := by
    unfold eF_rem
    rw [decide_eq_false (by omega), Int.tdiv_eq_ediv_of_nonneg hx.1]
    have h1 : 0 ≤ x / y := Int.ediv_nonneg hx.1 (by omega)
    have h2 : x / y ≤ x := Int.ediv_le_self y hx.1
    have h3 : x / y * y ≤ x := Int.ediv_mul_le x (by omega)
    have h4 : 0 ≤ x / y * y := Int.mul_nonneg h1 (by omega)
    have h5 := Int.emod_nonneg x (show y ≠ 0 by omega)
    have h6 : x % y = x - x / y * y := by
      have := Int.mul_ediv_add_emod x y
      rw [Int.mul_comm] at this
      omega
    have a1 : e32 (x / y) = x / y := e32_id (by omega) (by omega)
    have a2 : e32 (x / y * y) = x / y * y := e32_id (by omega) (by omega)
    rw [a1, a2, e32_id (by omega) (by omega), h6]
    rfl
  show (match eF_rem x y with | some z => _ | none => none) = _
  rw [e]
theorem e_and32 (x m : Int) (k : Nat) (hk : k < 32) (hm : m = 2 ^ k - 1) : (Int32.ofInt x &&& Int32.ofInt m).toInt = x % (m + 1) := by
  have e1 : (Int32.ofInt x &&& Int32.ofInt m).toBitVec = BitVec.ofInt 32 x &&& BitVec.ofInt 32 m := rfl
  have hp : (2 : Nat) ^ k < 2 ^ 32 := Nat.pow_lt_pow_right (by decide) hk
  have hp1 : (2 : Nat) ^ k ≤ 2 ^ 31 := Nat.pow_le_pow_right (by decide) (by omega)
  have hpos : 0 < (2 : Nat) ^ k := Nat.pow_pos (by decide)
  have hc : ((2 : Int) ^ k) = ((2 ^ k : Nat) : Int) := by norm_cast
  have e2 : (BitVec.ofInt 32 m).toNat = 2 ^ k - 1 := by
    rw [BitVec.toNat_ofInt, hm, hc]
    have : (((2 ^ k : Nat) : Int) - 1) % ((2 ^ 32 : Nat) : Int) = ((2 ^ k : Nat) : Int) - 1 := Int.emod_eq_of_lt (by omega) (by omega)
    rw [this]
    omega
  have e3 : (BitVec.ofInt 32 x &&& BitVec.ofInt 32 m).toNat = (x % ((2 ^ 32 : Nat) : Int)).toNat % 2 ^ k := by
    rw [BitVec.toNat_and, e2, Nat.and_two_pow_sub_one_eq_mod, BitVec.toNat_ofInt]
  have hlt := Nat.mod_lt (x % ((2 ^ 32 : Nat) : Int)).toNat hpos
  have e4 : (BitVec.ofInt 32 x &&& BitVec.ofInt 32 m).toInt = (((x % ((2 ^ 32 : Nat) : Int)).toNat % 2 ^ k : Nat) : Int) := by
    rw [BitVec.toInt_eq_toNat_of_lt (by rw [e3]; omega), e3]
  show (Int32.ofInt x &&& Int32.ofInt m).toBitVec.toInt = _
  rw [e1, e4, Int.natCast_emod, Int.toNat_of_nonneg (Int.emod_nonneg _ (by decide))]
  rw [Int.emod_emod_of_dvd x (by exact_mod_cast Nat.pow_dvd_pow 2 (Nat.le_of_lt hk))]
  rw [hm, hc]
  congr 1
  omega
theorem e_Ok.andm {nx : Nat} {r : List eV} {x : Int} (m : Int) (k : Nat) (hc : code M p = (0, ei_bin (eB (fun x y => x &&& y)) nx, a, b)) (hk : k < 32 ∧ m = 2 ^ k - 1) (h : ∀ z, z = x % (m + 1) → e_Ok fd lay code I d M (nx, l, (0, z) :: r, w) Q) : e_Ok fd lay code I d M (p, l, (0, m) :: (0, x) :: r, w) Q := by
  refine e_Ok.step hc ?_ (h _ rfl)
  show some (nx, l, (0, (Int32.ofInt x &&& Int32.ofInt m).toInt) :: r, w) = _
  rw [e_and32 x m k hk.1 hk.2]
theorem e_Ok.neg {nx : Nat} {r : List eV} {x z : Int} (hc : code M p = (0, ei_un (fun x => (0, e32 (-x))) nx, a, b)) (hz : -x = z) (h1 : -2147483648 ≤ z ∧ z ≤ 2147483647) (h : e_Ok fd lay code I d M (nx, l, (0, z) :: r, w) Q) : e_Ok fd lay code I d M (p, l, (0, x) :: r, w) Q := by
  refine e_Ok.step hc ?_ h
  show some (nx, l, (0, e32 (-x)) :: r, w) = _
  rw [hz, e32_id h1.1 h1.2]
theorem e_Ok.anyU {nx : Nat} {r : List eV} {x : Int} (hc : code M p = (0, ei_un (fun x => (0, e32 (-x))) nx, a, b)) (h : ∀ z, -2147483648 ≤ z → z ≤ 2147483647 → e_Ok fd lay code I d M (nx, l, (0, z) :: r, w) Q) : e_Ok fd lay code I d M (p, l, (0, x) :: r, w) Q :=
  e_Ok.step hc rfl (h _ (e32_in _).1 (e32_in _).2)
theorem e_Ok.anyUL {nx : Nat} {r : List eV} {x : Int} (hc : code M p = (0, ei_unL (fun x => (4, e64 (-x))) nx, a, b)) (h : ∀ z, e_Ok fd lay code I d M (nx, l, (4, z) :: r, w) Q) : e_Ok fd lay code I d M (p, l, (4, x) :: r, w) Q :=
  e_Ok.step hc rfl (h _)
theorem e_Ok.l2i {nx : Nat} {r : List eV} {x : Int} (hc : code M p = (0, ei_unL (fun x => (0, e32 x)) nx, a, b)) (h : ∀ z, -2147483648 ≤ z → z ≤ 2147483647 → e_Ok fd lay code I d M (nx, l, (0, z) :: r, w) Q) : e_Ok fd lay code I d M (p, l, (4, x) :: r, w) Q :=
  e_Ok.step hc rfl (h _ (e32_in _).1 (e32_in _).2)
theorem e_b8 (x : Int) : -128 ≤ x.bmod 256 ∧ x.bmod 256 ≤ 127 := by
  have h1 := Int.le_bmod (x := x) (m := 256) (by decide)
  have h2 := Int.bmod_lt (x := x) (m := 256) (by decide)
  constructor <;> omega
theorem e_Ok.i2b {nx : Nat} {r : List eV} {x : Int} (hc : code M p = (0, ei_un (fun x => (0, x.bmod 256)) nx, a, b)) (h : ∀ z, -128 ≤ z ∧ z ≤ 127 → e_Ok fd lay code I d M (nx, l, (0, z) :: r, w) Q) : e_Ok fd lay code I d M (p, l, (0, x) :: r, w) Q :=
  e_Ok.step hc rfl (h _ (e_b8 x))
theorem e_nar_2 (x : Int) : ∃ z, e_nar 2 x = some z ∧ -128 ≤ z ∧ z ≤ 127 := ⟨_, rfl, e_b8 x⟩
theorem e_Ok.addL {nx : Nat} {r : List eV} {x y z : Int} (hc : code M p = (0, ei_binL eG_add nx, a, b)) (hz : x + y = z) (h1 : -9223372036854775808 ≤ z ∧ z ≤ 9223372036854775807) (h : e_Ok fd lay code I d M (nx, l, (4, z) :: r, w) Q) : e_Ok fd lay code I d M (p, l, (4, y) :: (4, x) :: r, w) Q := by
  refine e_Ok.step hc ?_ h
  show some _ = some _
  rw [hz, e64_id h1.1 h1.2]
theorem e_Ok.subL {nx : Nat} {r : List eV} {x y z : Int} (hc : code M p = (0, ei_binL eG_sub nx, a, b)) (hz : x - y = z) (h1 : -9223372036854775808 ≤ z ∧ z ≤ 9223372036854775807) (h : e_Ok fd lay code I d M (nx, l, (4, z) :: r, w) Q) : e_Ok fd lay code I d M (p, l, (4, y) :: (4, x) :: r, w) Q := by
  refine e_Ok.step hc ?_ h
  show some _ = some _
  rw [hz, e64_id h1.1 h1.2]
theorem e_Ok.mulL {nx : Nat} {r : List eV} {x y z : Int} (hc : code M p = (0, ei_binL eG_mul nx, a, b)) (hz : x * y = z) (h1 : -9223372036854775808 ≤ z ∧ z ≤ 9223372036854775807) (h : e_Ok fd lay code I d M (nx, l, (4, z) :: r, w) Q) : e_Ok fd lay code I d M (p, l, (4, y) :: (4, x) :: r, w) Q := by
  refine e_Ok.step hc ?_ h
  show some _ = some _
  rw [hz, e64_id h1.1 h1.2]
theorem e_Ok.alen {nx n kd c' : Nat} {r : List eV} {c : Int} (hc : code M p = (0, ei_alen lay nx, a, b)) (hl : lay[c.toNat]? = some (kd, c', n)) (hk : Nat.beq kd 0 = false) (h : e_Ok fd lay code I d M (nx, l, (0, (n : Int)) :: r, w) Q) : e_Ok fd lay code I d M (p, l, (1, c) :: r, w) Q := by
  refine e_Ok.step hc ?_ h
  unfold ei_alen
  simp only [hl, hk, cond_false]
theorem e_Ok.rets {kk : Nat} {f : eS → Option eS} {st r : List eV} (hc : code M p = (1, f, kk, b)) (hr : e_retv kk st = some r) (h : Q r w) : e_Ok fd lay code I d M (p, l, st, w) Q := e_Ok.ret hc hr h
theorem e_Ok.retb {f : eS → Option eS} {z : Int} (hc : code M p = (1, f, 4, b)) (hz : 0 ≤ z ∧ z ≤ 1) (h : Q [(0, z)] w) : e_Ok fd lay code I d M (p, l, [(0, z)], w) Q := by
  refine e_Ok.ret hc ?_ h
  show (bif e_pk 1 (0, z) then some [(0, z)] else none) = _
  unfold e_pk
  simp only [decide_eq_true hz.1, decide_eq_true hz.2]
  rfl
theorem e_kn_sub {w : eW} {c a a' b b' : Int} (h : ∀ i, a ≤ i → i ≤ b → -2147483648 ≤ w c i ∧ w c i ≤ 2147483647) (ha : a ≤ a') (hb : b' ≤ b) : ∀ i, a' ≤ i → i ≤ b' → -2147483648 ≤ w c i ∧ w c i ≤ 2147483647 := fun i h1 h2 => h i (by omega) (by omega)
end E46
end
