noncomputable section
/-! rows of the tables: an instruction's decoding gives its trust -/
theorem x_c {z : Int} {v : Int32} (h : v.toInt = z) : ∀ ad V sc, x_rel ad V sc (0, z, z) (.int v) := fun _ _ _ => ⟨v, rfl, by rw [h]; exact Int.le_refl z, by rw [h]; exact Int.le_refl z⟩
theorem x_cL {z : Int} {v : Int64} (h : v.toInt = z) : ∀ ad V sc, x_rel ad V sc (4, z, z) (.long v) := fun _ _ _ => ⟨v, rfl, by rw [h]; exact Int.le_refl z, by rw [h]; exact Int.le_refl z⟩
theorem x_lin {u v c : Int} (h1 : u ≤ c) (h2 : c ≤ v) (k : Int) : x_min (u * k) (v * k) ≤ c * k ∧ c * k ≤ x_max (u * k) (v * k) := by
  rcases Int.le_total 0 k with hk | hk
  · exact ⟨x_min_l (Int.mul_le_mul_of_nonneg_right h1 hk), x_max_r (Int.mul_le_mul_of_nonneg_right h2 hk)⟩
  · exact ⟨x_min_r (Int.mul_le_mul_of_nonpos_right h2 hk), x_max_l (Int.mul_le_mul_of_nonpos_right h1 hk)⟩
def xF_add (a b : Int × Int) : Option xV := some (x_I (a.1 + b.1) (a.2 + b.2))
def xF_sub (a b : Int × Int) : Option xV := some (x_I (a.1 - b.2) (a.2 - b.1))
def xF_mul (a b : Int × Int) : Option xV := some (x_I (x_min (x_min (a.1 * b.1) (a.2 * b.1)) (x_min (a.1 * b.2) (a.2 * b.2))) (x_max (x_max (a.1 * b.1) (a.2 * b.1)) (x_max (a.1 * b.2) (a.2 * b.2))))
def xF_neg (a : Int × Int) : xV := x_I (-a.2) (-a.1)
def xF_and63 (_ b : Int × Int) : Option xV := bif decide (b.1 = 63) && decide (b.2 = 63) then some (0, 0, 63) else none
def xF_any (_ _ : Int × Int) : Option xV := some x_any
def xF_byte (a : Int × Int) : xV := bif decide (-128 ≤ a.1) && decide (a.2 ≤ 127) then (0, a) else (0, -128, 127)
theorem x_corner {a1 a2 b1 b2 x y : Int} (h1 : a1 ≤ x) (h2 : x ≤ a2) (h3 : b1 ≤ y) (h4 : y ≤ b2) : x_min (x_min (a1 * b1) (a2 * b1)) (x_min (a1 * b2) (a2 * b2)) ≤ x * y ∧ x * y ≤ x_max (x_max (a1 * b1) (a2 * b1)) (x_max (a1 * b2) (a2 * b2)) := by
  obtain ⟨p1, p2⟩ := x_lin h1 h2 b1
  obtain ⟨q1, q2⟩ := x_lin h1 h2 b2
  obtain ⟨r1, r2⟩ := x_lin h3 h4 x
  rw [Int.mul_comm y x, Int.mul_comm b1 x, Int.mul_comm b2 x] at r1 r2
  constructor
  · refine Int.le_trans ?_ r1
    exact x_le_min (x_min_l p1) (x_min_r q1)
  · refine Int.le_trans r2 ?_
    exact x_max_le (x_max_l p2) (x_max_r q2)
section X11
variable {cl : List vw_C} {K : xKx} {cc : ByteArray} {own : String} {nL : Nat} {nm : String} {MC MS pc : Nat}
theorem xr_iconst {n z : Int} {v : Int32} (d : decode cc pc = .ok (.iconst n, 1)) (hv : Int32.ofInt n = v) (hz : v.toInt = z) : x_Snd cl K cc own nL nm MC MS pc (xi_push (0, z, z) (pc + 1)) := xi_push_ok (fun S => fun k => lv_iconst S.1 S.2.1 d hv k) (x_c hz)
theorem xr_bipush {n z : Int} {v : Int32} (d : decode cc pc = .ok (.bipush n, 2)) (hv : (Int8.ofInt n).toInt32 = v) (hz : v.toInt = z) : x_Snd cl K cc own nL nm MC MS pc (xi_push (0, z, z) (pc + 2)) := xi_push_ok (fun S => fun k => lv_bipush S.1 S.2.1 d hv k) (x_c hz)
theorem xr_sipush {n z : Int} {v : Int32} (d : decode cc pc = .ok (.sipush n, 3)) (hv : (Int16.ofInt n).toInt32 = v) (hz : v.toInt = z) : x_Snd cl K cc own nL nm MC MS pc (xi_push (0, z, z) (pc + 3)) := xi_push_ok (fun S => fun k => lv_sipush S.1 S.2.1 d hv k) (x_c hz)
theorem xr_ldc {ix : Nat} {z : Int} {v : Int32} (d : decode cc pc = .ok (.ldc ix, 2)) (hw : Cond.constant own ix v ∈ x_tbl) (hz : v.toInt = z) : x_Snd cl K cc own nL nm MC MS pc (xi_push (0, z, z) (pc + 2)) := xi_push_ok (fun S => fun k => lv_ldc S.1 S.2.1 S.2.2.2.1 (S.2.2.2.2 _ hw) d k) (x_c hz)
theorem xr_ldcw {ix : Nat} {z : Int} {v : Int32} (d : decode cc pc = .ok (.ldc_w ix, 3)) (hw : Cond.constant own ix v ∈ x_tbl) (hz : v.toInt = z) : x_Snd cl K cc own nL nm MC MS pc (xi_push (0, z, z) (pc + 3)) := xi_push_ok (fun S => fun k => lv_ldcw S.1 S.2.1 S.2.2.2.1 (S.2.2.2.2 _ hw) d k) (x_c hz)
theorem xr_ldc2 {ix : Nat} {z : Int} {v : Int64} (d : decode cc pc = .ok (.ldc2_w ix, 3)) (hw : Cond.constantLong own ix v ∈ x_tbl) (hz : v.toInt = z) : x_Snd cl K cc own nL nm MC MS pc (xi_push (4, z, z) (pc + 3)) := xi_push_ok (fun S => fun k => lv_ldc2 S.1 S.2.1 S.2.2.2.1 (S.2.2.2.2 _ hw) d k) (x_cL hz)
theorem xr_lconst {n : Fin 2} {z : Int} {v : Int64} (d : decode cc pc = .ok (.lconst n, 1)) (hv : Int64.ofNat n = v) (hz : v.toInt = z) : x_Snd cl K cc own nL nm MC MS pc (xi_push (4, z, z) (pc + 1)) := xi_push_ok (fun S => fun k => lv_lconst S.1 S.2.1 d hv k) (x_cL hz)
theorem xr_null (d : decode cc pc = .ok (.aconst_null, 1)) : x_Snd cl K cc own nL nm MC MS pc (xi_push (2, 0, 0) (pc + 1)) := xi_push_ok (x := (2, 0, 0)) (v := .null) (fun S => fun k => lv_null S.1 S.2.1 d k) (fun _ _ _ => rfl)
theorem xr_iload_n {i : Fin 4} (d : decode cc pc = .ok (.iload_n i, 1)) : x_Snd cl K cc own nL nm MC MS pc (xi_load i 0 (pc + 1)) := xi_load_ok (fun S => fun hl hk k => by obtain ⟨n, rfl⟩ := hk; exact lv_iload_n S.1 S.2.1 d rfl hl k)
theorem xr_iload {i : Nat} (d : decode cc pc = .ok (.iload i, 2)) : x_Snd cl K cc own nL nm MC MS pc (xi_load i 0 (pc + 2)) := xi_load_ok (fun S => fun hl hk k => by obtain ⟨n, rfl⟩ := hk; exact lv_iload S.1 S.2.1 d hl k)
theorem xr_lload_n {i : Fin 4} (d : decode cc pc = .ok (.lload_n i, 1)) : x_Snd cl K cc own nL nm MC MS pc (xi_load i 1 (pc + 1)) := xi_load_ok (fun S => fun hl hk k => by obtain ⟨n, rfl⟩ := hk; exact lv_lload_n S.1 S.2.1 d rfl hl k)
theorem xr_lload {i : Nat} (d : decode cc pc = .ok (.lload i, 2)) : x_Snd cl K cc own nL nm MC MS pc (xi_load i 1 (pc + 2)) := xi_load_ok (fun S => fun hl hk k => by obtain ⟨n, rfl⟩ := hk; exact lv_lload S.1 S.2.1 d hl k)
theorem xr_aload_n {i : Fin 4} (d : decode cc pc = .ok (.aload_n i, 1)) : x_Snd cl K cc own nL nm MC MS pc (xi_load i 2 (pc + 1)) := xi_load_ok (fun S => fun hl hk k => by rcases hk with rfl | ⟨a, rfl⟩; exact lv_aload_nN S.1 S.2.1 d rfl hl k; exact lv_aload_n S.1 S.2.1 d rfl hl k)
theorem xr_aload {i : Nat} (d : decode cc pc = .ok (.aload i, 2)) : x_Snd cl K cc own nL nm MC MS pc (xi_load i 2 (pc + 2)) := xi_load_ok (fun S => fun hl hk k => by rcases hk with rfl | ⟨a, rfl⟩; exact lv_aloadN S.1 S.2.1 d hl k; exact lv_aload S.1 S.2.1 d hl k)
theorem xr_istore_n {i : Fin 4} (d : decode cc pc = .ok (.istore_n i, 1)) (hn : (i : Nat) < nL) : x_Snd cl K cc own nL nm MC MS pc (xi_stor i 0 (pc + 1)) := xi_stor_ok (fun S => fun hl hk k => by obtain ⟨n, rfl⟩ := hk; exact lv_istore_n S.1 S.2.1 d rfl hl hn rfl k)
theorem xr_istore {i : Nat} (d : decode cc pc = .ok (.istore i, 2)) (hn : i < nL) : x_Snd cl K cc own nL nm MC MS pc (xi_stor i 0 (pc + 2)) := xi_stor_ok (fun S => fun hl hk k => by obtain ⟨n, rfl⟩ := hk; exact lv_istore S.1 S.2.1 d hl hn rfl k)
theorem xr_lstore_n {i : Fin 4} (d : decode cc pc = .ok (.lstore_n i, 1)) (hn : (i : Nat) + 1 < nL) : x_Snd cl K cc own nL nm MC MS pc (xi_stor i 1 (pc + 1)) := xi_stor_ok (fun S => fun hl hk k => by obtain ⟨n, rfl⟩ := hk; exact lv_lstore_n S.1 S.2.1 d rfl hl hn rfl k)
theorem xr_lstore {i : Nat} (d : decode cc pc = .ok (.lstore i, 2)) (hn : i + 1 < nL) : x_Snd cl K cc own nL nm MC MS pc (xi_stor i 1 (pc + 2)) := xi_stor_ok (fun S => fun hl hk k => by obtain ⟨n, rfl⟩ := hk; exact lv_lstore S.1 S.2.1 d hl hn rfl k)
theorem xr_astore_n {i : Fin 4} (d : decode cc pc = .ok (.astore_n i, 1)) (hn : (i : Nat) < nL) : x_Snd cl K cc own nL nm MC MS pc (xi_stor i 2 (pc + 1)) := xi_stor_ok (fun S => fun hl hk k => by rcases hk with rfl | ⟨a, rfl⟩; exact lv_astore_nN S.1 S.2.1 d rfl hl hn rfl k; exact lv_astore_n S.1 S.2.1 d rfl hl hn rfl k)
theorem xr_astore {i : Nat} (d : decode cc pc = .ok (.astore i, 2)) (hn : i < nL) : x_Snd cl K cc own nL nm MC MS pc (xi_stor i 2 (pc + 2)) := xi_stor_ok (fun S => fun hl hk k => by rcases hk with rfl | ⟨a, rfl⟩; exact lv_astoreN S.1 S.2.1 d hl hn rfl k; exact lv_astore S.1 S.2.1 d hl hn rfl k)
theorem xr_iinc {i : Nat} {n : Int} (d : decode cc pc = .ok (.iinc i n, 3)) (hn : i < nL) (hz : -2147483648 ≤ n ∧ n ≤ 2147483647) : x_Snd cl K cc own nL nm MC MS pc (xi_inc i n (pc + 3)) := xi_inc_ok hz (fun S => fun hl hk k => lv_iinc S.1 S.2.1 d hl hk rfl hn rfl k)
theorem xr_goto {off : Int} {tg : Nat} (d : decode cc pc = .ok (.goto off, 3)) (ht : (pc : Int) + off = (tg : Int)) : x_Snd cl K cc own nL nm MC MS pc (xi_goto tg) := xi_goto_ok (fun S => fun k => lv_goto S.1 S.2.1 d ht k)
theorem xr_iadd (d : decode cc pc = .ok (.iadd, 1)) : x_Snd cl K cc own nL nm MC MS pc (xi_bin xF_add (pc + 1)) := xi_bin_ok (g := fun x y => x + y) (fun _ => True) (fun x y _ => (fun S => fun k => lv_iadd S.1 S.2.1 d k)) (fun a b z x y h h1 h2 h3 h4 => ⟨trivial, fun ad V sc => by cases h; exact x_I_ok (Int32.toInt_add x y) (by omega) (by omega)⟩)
theorem xr_isub (d : decode cc pc = .ok (.isub, 1)) : x_Snd cl K cc own nL nm MC MS pc (xi_bin xF_sub (pc + 1)) := xi_bin_ok (g := fun x y => x - y) (fun _ => True) (fun x y _ => (fun S => fun k => lv_isub S.1 S.2.1 d k)) (fun a b z x y h h1 h2 h3 h4 => ⟨trivial, fun ad V sc => by cases h; exact x_I_ok (Int32.toInt_sub x y) (by omega) (by omega)⟩)
theorem xr_imul (d : decode cc pc = .ok (.imul, 1)) : x_Snd cl K cc own nL nm MC MS pc (xi_bin xF_mul (pc + 1)) := xi_bin_ok (g := fun x y => x * y) (fun _ => True) (fun x y _ => (fun S => fun k => lv_imul S.1 S.2.1 d k)) (fun a b z x y h h1 h2 h3 h4 => ⟨trivial, fun ad V sc => by cases h; exact x_I_ok (Int32.toInt_mul x y) (x_corner h1 h2 h3 h4).1 (x_corner h1 h2 h3 h4).2⟩)
theorem xr_iand (d : decode cc pc = .ok (.iand, 1)) : x_Snd cl K cc own nL nm MC MS pc (xi_bin xF_and63 (pc + 1)) := xi_bin_ok (g := fun x y => x &&& y) (fun _ => True) (fun x y _ => (fun S => fun k => lv_iand S.1 S.2.1 d k)) (fun a b z x y h h1 h2 h3 h4 => ⟨trivial, fun ad V sc => by
  unfold xF_and63 at h
  cases hb : (decide (b.1 = 63) && decide (b.2 = 63)) with
  | false => rw [hb] at h; cases h
  | true =>
    rw [hb] at h
    cases h
    simp only [Bool.and_eq_true, decide_eq_true_eq] at hb
    have e : y = 63 := Int32.toInt_inj.mp (by rw [show (63 : Int32).toInt = 63 from by decide]; omega)
    subst e
    obtain ⟨j, hj, ej⟩ := pk_andE x (m := 63) 6 (by decide)
    have e2 : (x &&& 63).toInt = j := by rw [ej]; exact nI_toInt (by omega)
    exact ⟨_, rfl, by show (0 : Int) ≤ _; omega, by show _ ≤ (63 : Int); omega⟩⟩)
theorem xr_ishr (d : decode cc pc = .ok (.ishr, 1)) : x_Snd cl K cc own nL nm MC MS pc (xi_bin xF_any (pc + 1)) := xi_bin_ok (g := fun x y => x >>> (y &&& 31)) (fun _ => True) (fun x y _ => (fun S => fun k => lv_ishr S.1 S.2.1 d k)) (fun a b z x y h h1 h2 h3 h4 => ⟨trivial, fun ad V sc => by cases h; exact x_any_ok _⟩)
theorem xr_ineg (d : decode cc pc = .ok (.ineg, 1)) : x_Snd cl K cc own nL nm MC MS pc (xi_un xF_neg (pc + 1)) := xi_un_ok (g := fun x => .int (-x)) (fun x => (fun S => fun k => lv_ineg S.1 S.2.1 d k)) (fun a x h1 h2 ad V sc => x_I_ok (Int32.toInt_neg x) (by omega) (by omega))
theorem xr_i2b (d : decode cc pc = .ok (.i2b, 1)) : x_Snd cl K cc own nL nm MC MS pc (xi_un xF_byte (pc + 1)) := xi_un_ok (g := fun x => .int x.toInt8.toInt32) (fun x => (fun S => fun k => lv_i2b S.1 S.2.1 d rfl k)) (fun a x h1 h2 ad V sc => by
  have h := (x_nrw_ok (ad := ad) (V := V) (sc := sc) (kd := 2) (x := (0, a)) (b := a) (n := x) ⟨x, rfl, h1, h2⟩ h1 h2).1
  unfold x_nrw at h
  unfold xF_byte
  cases hb : (decide (-128 ≤ a.1) && decide (a.2 ≤ 127)) with
  | true => rw [hb] at h; exact h
  | false => rw [hb] at h; exact h)
theorem xr_i2l (d : decode cc pc = .ok (.i2l, 1)) : x_Snd cl K cc own nL nm MC MS pc (xi_i2l (pc + 1)) := xi_i2l_ok (fun x => (fun S => fun k => lv_i2l S.1 S.2.1 d rfl k))
theorem xr_lcmp (d : decode cc pc = .ok (.lcmp, 1)) : x_Snd cl K cc own nL nm MC MS pc (xi_lcmp (pc + 1)) := xi_lcmp_ok (fun x y => (fun S => fun k => W.lcmp S.1 S.2.1 d k))
def xF_addL (a b : Int × Int) : Option xV := some (x_J (a.1 + b.1) (a.2 + b.2))
def xF_subL (a b : Int × Int) : Option xV := some (x_J (a.1 - b.2) (a.2 - b.1))
theorem xr_ladd (d : decode cc pc = .ok (.ladd, 1)) : x_Snd cl K cc own nL nm MC MS pc (xi_binL xF_addL (pc + 1)) := xi_binL_ok (g := fun x y => x + y) (fun _ => True) (fun x y _ => (fun S => fun k => lv_ladd S.1 S.2.1 d k)) (fun a b z x y h h1 h2 h3 h4 => ⟨trivial, fun ad V sc => by cases h; exact x_J_ok (Int64.toInt_add x y) (by omega) (by omega)⟩)
theorem xr_lsub (d : decode cc pc = .ok (.lsub, 1)) : x_Snd cl K cc own nL nm MC MS pc (xi_binL xF_subL (pc + 1)) := xi_binL_ok (g := fun x y => x - y) (fun _ => True) (fun x y _ => (fun S => fun k => lv_lsub S.1 S.2.1 d k)) (fun a b z x y h h1 h2 h3 h4 => ⟨trivial, fun ad V sc => by cases h; exact x_J_ok (Int64.toInt_sub x y) (by omega) (by omega)⟩)
theorem x_le32 {x y : Int32} : x ≤ y ↔ x.toInt ≤ y.toInt := Int32.le_iff_toInt_le
theorem x_lt32 {x y : Int32} : x < y ↔ x.toInt < y.toInt := Int32.lt_iff_toInt_lt
theorem x_eq32 {x y : Int32} : x = y ↔ x.toInt = y.toInt := Int32.toInt_inj.symm
theorem xr_icmpeq {off : Int} {tg : Nat} (d : decode cc pc = .ok (.if_icmp .eq off, 3)) (ht : (pc : Int) + off = (tg : Int)) : x_Snd cl K cc own nL nm MC MS pc (xi_if2 0 tg (pc + 3)) := xi_if2_ok (k := 0) (fun S => fun kt kf => lv_icmp_eq S.1 S.2.1 d ht (fun h => kt (x_eq32.mp h)) (fun h => kf (fun q => h (x_eq32.mpr q))))
theorem xr_icmpne {off : Int} {tg : Nat} (d : decode cc pc = .ok (.if_icmp .ne off, 3)) (ht : (pc : Int) + off = (tg : Int)) : x_Snd cl K cc own nL nm MC MS pc (xi_if2 1 tg (pc + 3)) := xi_if2_ok (k := 1) (fun S => fun kt kf => lv_icmp_ne S.1 S.2.1 d ht (fun h => kt (fun q => h (x_eq32.mpr q))) (fun h => kf (fun q => q (x_eq32.mp h))))
theorem xr_icmplt {off : Int} {tg : Nat} (d : decode cc pc = .ok (.if_icmp .lt off, 3)) (ht : (pc : Int) + off = (tg : Int)) : x_Snd cl K cc own nL nm MC MS pc (xi_if2 2 tg (pc + 3)) := xi_if2_ok (k := 2) (fun S => fun kt kf => lv_icmp_lt S.1 S.2.1 d ht (fun h => kt (x_lt32.mp h)) (fun h => kf (fun q => h (x_lt32.mpr q))))
theorem xr_icmpge {off : Int} {tg : Nat} (d : decode cc pc = .ok (.if_icmp .ge off, 3)) (ht : (pc : Int) + off = (tg : Int)) : x_Snd cl K cc own nL nm MC MS pc (xi_if2 3 tg (pc + 3)) := xi_if2_ok (k := 3) (fun S => fun kt kf => lv_icmp_ge S.1 S.2.1 d ht (fun h => kt (x_le32.mp h)) (fun h => kf (fun q => h (x_le32.mpr q))))
theorem xr_icmpgt {off : Int} {tg : Nat} (d : decode cc pc = .ok (.if_icmp .gt off, 3)) (ht : (pc : Int) + off = (tg : Int)) : x_Snd cl K cc own nL nm MC MS pc (xi_if2 4 tg (pc + 3)) := xi_if2_ok (k := 4) (fun S => fun kt kf => lv_icmp_gt S.1 S.2.1 d ht (fun h => kt (x_lt32.mp h)) (fun h => kf (fun q => h (x_lt32.mpr q))))
theorem xr_icmple {off : Int} {tg : Nat} (d : decode cc pc = .ok (.if_icmp .le off, 3)) (ht : (pc : Int) + off = (tg : Int)) : x_Snd cl K cc own nL nm MC MS pc (xi_if2 5 tg (pc + 3)) := xi_if2_ok (k := 5) (fun S => fun kt kf => lv_icmp_le S.1 S.2.1 d ht (fun h => kt (x_le32.mp h)) (fun h => kf (fun q => h (x_le32.mpr q))))
theorem x_z : (0 : Int32).toInt = 0 := by decide
theorem x_eq0 {x : Int32} : x = 0 ↔ x.toInt = 0 := by rw [x_eq32, x_z]
theorem x_lt0 {x : Int32} : x < 0 ↔ x.toInt < 0 := by rw [x_lt32, x_z]
theorem x_gt0 {x : Int32} : 0 < x ↔ 0 < x.toInt := by rw [x_lt32, x_z]
theorem x_le0 {x : Int32} : x ≤ 0 ↔ x.toInt ≤ 0 := by rw [x_le32, x_z]
theorem x_ge0 {x : Int32} : 0 ≤ x ↔ 0 ≤ x.toInt := by rw [x_le32, x_z]
theorem xr_ifeq {off : Int} {tg : Nat} (d : decode cc pc = .ok (.ifCond .eq off, 3)) (ht : (pc : Int) + off = (tg : Int)) : x_Snd cl K cc own nL nm MC MS pc (xi_if1 0 tg (pc + 3)) := xi_if1_ok (k := 0) (fun S => fun kt kf => lv_if_eq S.1 S.2.1 d ht (fun h => kt (x_eq0.mp h)) (fun h => kf (fun q => h (x_eq0.mpr q))))
theorem xr_ifne {off : Int} {tg : Nat} (d : decode cc pc = .ok (.ifCond .ne off, 3)) (ht : (pc : Int) + off = (tg : Int)) : x_Snd cl K cc own nL nm MC MS pc (xi_if1 1 tg (pc + 3)) := xi_if1_ok (k := 1) (fun S => fun kt kf => lv_if_ne S.1 S.2.1 d ht (fun h => kt (fun q => h (x_eq0.mpr q))) (fun h => kf (fun q => q (x_eq0.mp h))))
theorem xr_iflt {off : Int} {tg : Nat} (d : decode cc pc = .ok (.ifCond .lt off, 3)) (ht : (pc : Int) + off = (tg : Int)) : x_Snd cl K cc own nL nm MC MS pc (xi_if1 2 tg (pc + 3)) := xi_if1_ok (k := 2) (fun S => fun kt kf => lv_if_lt S.1 S.2.1 d ht (fun h => kt (x_lt0.mp h)) (fun h => kf (fun q => h (x_lt0.mpr q))))
theorem xr_ifge {off : Int} {tg : Nat} (d : decode cc pc = .ok (.ifCond .ge off, 3)) (ht : (pc : Int) + off = (tg : Int)) : x_Snd cl K cc own nL nm MC MS pc (xi_if1 3 tg (pc + 3)) := xi_if1_ok (k := 3) (fun S => fun kt kf => lv_if_ge S.1 S.2.1 d ht (fun h => kt (x_ge0.mp h)) (fun h => kf (fun q => h (x_ge0.mpr q))))
theorem xr_ifgt {off : Int} {tg : Nat} (d : decode cc pc = .ok (.ifCond .gt off, 3)) (ht : (pc : Int) + off = (tg : Int)) : x_Snd cl K cc own nL nm MC MS pc (xi_if1 4 tg (pc + 3)) := xi_if1_ok (k := 4) (fun S => fun kt kf => lv_if_gt S.1 S.2.1 d ht (fun h => kt (x_gt0.mp h)) (fun h => kf (fun q => h (x_gt0.mpr q))))
theorem xr_ifle {off : Int} {tg : Nat} (d : decode cc pc = .ok (.ifCond .le off, 3)) (ht : (pc : Int) + off = (tg : Int)) : x_Snd cl K cc own nL nm MC MS pc (xi_if1 5 tg (pc + 3)) := xi_if1_ok (k := 5) (fun S => fun kt kf => lv_if_le S.1 S.2.1 d ht (fun h => kt (x_le0.mp h)) (fun h => kf (fun q => h (x_le0.mpr q))))
theorem xr_dup (d : decode cc pc = .ok (.dup, 1)) : x_Snd cl K cc own nL nm MC MS pc (xi_stk xf_dup (pc + 1)) := xf_dup_ok (fun v h => (fun S => fun k => lv_dup S.1 S.2.1 d h k))
theorem xr_pop (d : decode cc pc = .ok (.pop, 1)) : x_Snd cl K cc own nL nm MC MS pc (xi_stk xf_pop (pc + 1)) := xf_pop_ok (fun v h => (fun S => fun k => lv_pop S.1 S.2.1 d h k))
theorem xr_dup2 (d : decode cc pc = .ok (.dup2, 1)) : x_Snd cl K cc own nL nm MC MS pc (xi_stk xf_dup2 (pc + 1)) := xf_dup2_ok (fun v u h h' => (fun S => fun k => lv_dup2_11 S.1 S.2.1 d h h' k))
theorem xr_dup_x1 (d : decode cc pc = .ok (.dup_x1, 1)) : x_Snd cl K cc own nL nm MC MS pc (xi_stk xf_dupx1 (pc + 1)) := xf_dupx1_ok (fun v u h h' => (fun S => fun k => lv_dup_x1 S.1 S.2.1 d h h' k))
theorem xr_dup_x2 (d : decode cc pc = .ok (.dup_x2, 1)) : x_Snd cl K cc own nL nm MC MS pc (xi_stk xf_dupx2 (pc + 1)) := xf_dupx2_ok (fun v u w h h' h'' => (fun S => fun k => lv_dup_x2 S.1 S.2.1 d h h' h'' k))
theorem xr_iaload (d : decode cc pc = .ok (.iaload, 1)) : x_Snd cl K cc own nL nm MC MS pc (xi_ald false (pc + 1)) := xi_ald_ok (fun kd hk => by
  have e := Nat.eq_of_beq_eq_true hk
  subst e
  intro p l e R s m args below meth c C H locs cells slots Q ls rest D tys ws a q0 t0 n cA f i h1 h2 h3 h4 h5 k
  exact va_iald C.1.1 C.1.2.1 h1 h2 _ _ h3 h4 h5 d k)
theorem xr_baload (d : decode cc pc = .ok (.baload, 1)) : x_Snd cl K cc own nL nm MC MS pc (xi_ald true (pc + 1)) := xi_ald_ok (fun kd hk => by
  unfold x_akd at hk
  simp only [Bool.or_eq_true] at hk
  rcases hk with hk | hk
  · have e := Nat.eq_of_beq_eq_true hk
    subst e
    intro p l e R s m args below meth c C H locs cells slots Q ls rest D tys ws a q0 t0 n cA f i h1 h2 h3 h4 h5 k
    exact va_bald C.1.1 C.1.2.1 h1 h2 _ _ h3 h4 h5 d k
  · have e := Nat.eq_of_beq_eq_true hk
    subst e
    intro p l e R s m args below meth c C H locs cells slots Q ls rest D tys ws a q0 t0 n cA f i h1 h2 h3 h4 h5 k
    exact va_zald C.1.1 C.1.2.1 h1 h2 _ _ h3 h4 h5 d k)
theorem xr_iastore (d : decode cc pc = .ok (.iastore, 1)) : x_Snd cl K cc own nL nm MC MS pc (xi_ast false (pc + 1)) := xi_ast_ok (fun kd hk => by
  have e := Nat.eq_of_beq_eq_true hk
  subst e
  intro p l e R s m args below meth c C H H0 locs cells slots Q ls rest D A tys ws a q0 t0 n cA f i x h1 h2 h6 h7 h3 h4 h5 k
  exact va_iast C.1.1 C.1.2.1 h1 h2 h6 h7 _ _ h3 h4 h5 d k)
theorem xr_bastore (d : decode cc pc = .ok (.bastore, 1)) : x_Snd cl K cc own nL nm MC MS pc (xi_ast true (pc + 1)) := xi_ast_ok (fun kd hk => by
  unfold x_akd at hk
  simp only [Bool.or_eq_true] at hk
  rcases hk with hk | hk
  · have e := Nat.eq_of_beq_eq_true hk
    subst e
    intro p l e R s m args below meth c C H H0 locs cells slots Q ls rest D A tys ws a q0 t0 n cA f i x h1 h2 h6 h7 h3 h4 h5 k
    exact va_bast C.1.1 C.1.2.1 h1 h2 h6 h7 _ _ h3 h4 h5 d k
  · have e := Nat.eq_of_beq_eq_true hk
    subst e
    intro p l e R s m args below meth c C H H0 locs cells slots Q ls rest D A tys ws a q0 t0 n cA f i x h1 h2 h6 h7 h3 h4 h5 k
    exact va_zast C.1.1 C.1.2.1 h1 h2 h6 h7 _ _ h3 h4 h5 d k)
theorem xr_aaload (d : decode cc pc = .ok (.aaload, 1)) : x_Snd cl K cc own nL nm MC MS pc (xi_aald (pc + 1)) := xi_aald_ok (fun C => fun h0 h1 h2 h3 h4 h5 k => x_aald C.1.1 C.1.2.1 h1 h2 _ _ h0 h3 h4 h5 d k)
theorem xr_aastore (d : decode cc pc = .ok (.aastore, 1)) : x_Snd cl K cc own nL nm MC MS pc (xi_aast (pc + 1)) := xi_aast_ok (fun C => fun h1 h2 h3 h4 h5 h6 h7 h8 h9 k => va_astq C.1.1 C.1.2.1 h1 h2 h3 h4 _ _ _ _ h5 h6 h7 h8 h9 d k)
theorem xr_alen (d : decode cc pc = .ok (.arraylength, 1)) : x_Snd cl K cc own nL nm MC MS pc (xi_alen (pc + 1)) := xi_alen_ok (fun C => fun h1 h2 h3 h4 k => va_alen C.1.1 C.1.2.1 h1 h2 _ _ h3 h4 rfl d k)
end X11
end
