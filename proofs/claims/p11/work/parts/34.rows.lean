noncomputable section
/-! exact: a row an instruction -/
theorem e_c {z : Int} {v : Int32} (h : v.toInt = z) : ∀ ad, e_rel ad (0, z) (.int v) := fun _ => ⟨v, rfl, h⟩
theorem e_cL {z : Int} {v : Int64} (h : v.toInt = z) : ∀ ad, e_rel ad (4, z) (.long v) := fun _ => ⟨v, rfl, h⟩
section E34
variable {ft : Nat → Nat → Nat} {cl : List vw_C} {lay : List eY} {cc : ByteArray} {own : String} {nL : Nat} {nm : String} {MC MS pc : Nat}
theorem er_iconst {n z : Int} {v : Int32} (d : decode cc pc = .ok (.iconst n, 1)) (hv : Int32.ofInt n = v) (hz : v.toInt = z) : e_Snd ft cl lay cc own nL nm MC MS pc (ei_push (0, z) (pc + 1)) := ei_push_ok (fun S => fun k => lv_iconst S.1 S.2.1 d hv k) (e_c hz)
theorem er_bipush {n z : Int} {v : Int32} (d : decode cc pc = .ok (.bipush n, 2)) (hv : (Int8.ofInt n).toInt32 = v) (hz : v.toInt = z) : e_Snd ft cl lay cc own nL nm MC MS pc (ei_push (0, z) (pc + 2)) := ei_push_ok (fun S => fun k => lv_bipush S.1 S.2.1 d hv k) (e_c hz)
theorem er_sipush {n z : Int} {v : Int32} (d : decode cc pc = .ok (.sipush n, 3)) (hv : (Int16.ofInt n).toInt32 = v) (hz : v.toInt = z) : e_Snd ft cl lay cc own nL nm MC MS pc (ei_push (0, z) (pc + 3)) := ei_push_ok (fun S => fun k => lv_sipush S.1 S.2.1 d hv k) (e_c hz)
theorem er_ldc {ix : Nat} {z : Int} {v : Int32} (d : decode cc pc = .ok (.ldc ix, 2)) (hw : Cond.constant own ix v ∈ x_tbl) (hz : v.toInt = z) : e_Snd ft cl lay cc own nL nm MC MS pc (ei_push (0, z) (pc + 2)) := ei_push_ok (fun S => fun k => lv_ldc S.1 S.2.1 S.2.2.2.1 (S.2.2.2.2 _ hw) d k) (e_c hz)
theorem er_ldcw {ix : Nat} {z : Int} {v : Int32} (d : decode cc pc = .ok (.ldc_w ix, 3)) (hw : Cond.constant own ix v ∈ x_tbl) (hz : v.toInt = z) : e_Snd ft cl lay cc own nL nm MC MS pc (ei_push (0, z) (pc + 3)) := ei_push_ok (fun S => fun k => lv_ldcw S.1 S.2.1 S.2.2.2.1 (S.2.2.2.2 _ hw) d k) (e_c hz)
theorem er_ldc2 {ix : Nat} {z : Int} {v : Int64} (d : decode cc pc = .ok (.ldc2_w ix, 3)) (hw : Cond.constantLong own ix v ∈ x_tbl) (hz : v.toInt = z) : e_Snd ft cl lay cc own nL nm MC MS pc (ei_push (4, z) (pc + 3)) := ei_push_ok (fun S => fun k => lv_ldc2 S.1 S.2.1 S.2.2.2.1 (S.2.2.2.2 _ hw) d k) (e_cL hz)
theorem er_lconst {n : Fin 2} {z : Int} {v : Int64} (d : decode cc pc = .ok (.lconst n, 1)) (hv : Int64.ofNat n = v) (hz : v.toInt = z) : e_Snd ft cl lay cc own nL nm MC MS pc (ei_push (4, z) (pc + 1)) := ei_push_ok (fun S => fun k => lv_lconst S.1 S.2.1 d hv k) (e_cL hz)
theorem er_null (d : decode cc pc = .ok (.aconst_null, 1)) : e_Snd ft cl lay cc own nL nm MC MS pc (ei_push (2, 0) (pc + 1)) := ei_push_ok (x := (2, 0)) (v := .null) (fun S => fun k => lv_null S.1 S.2.1 d k) (fun _ => rfl)
theorem er_iload_n {i : Fin 4} (d : decode cc pc = .ok (.iload_n i, 1)) : e_Snd ft cl lay cc own nL nm MC MS pc (ei_load i 0 (pc + 1)) := ei_load_ok (fun S => fun hl hk k => by obtain ⟨n, rfl⟩ := hk; exact lv_iload_n S.1 S.2.1 d rfl hl k)
theorem er_iload {i : Nat} (d : decode cc pc = .ok (.iload i, 2)) : e_Snd ft cl lay cc own nL nm MC MS pc (ei_load i 0 (pc + 2)) := ei_load_ok (fun S => fun hl hk k => by obtain ⟨n, rfl⟩ := hk; exact lv_iload S.1 S.2.1 d hl k)
theorem er_lload_n {i : Fin 4} (d : decode cc pc = .ok (.lload_n i, 1)) : e_Snd ft cl lay cc own nL nm MC MS pc (ei_load i 1 (pc + 1)) := ei_load_ok (fun S => fun hl hk k => by obtain ⟨n, rfl⟩ := hk; exact lv_lload_n S.1 S.2.1 d rfl hl k)
theorem er_lload {i : Nat} (d : decode cc pc = .ok (.lload i, 2)) : e_Snd ft cl lay cc own nL nm MC MS pc (ei_load i 1 (pc + 2)) := ei_load_ok (fun S => fun hl hk k => by obtain ⟨n, rfl⟩ := hk; exact lv_lload S.1 S.2.1 d hl k)
theorem er_aload_n {i : Fin 4} (d : decode cc pc = .ok (.aload_n i, 1)) : e_Snd ft cl lay cc own nL nm MC MS pc (ei_load i 2 (pc + 1)) := ei_load_ok (fun S => fun hl hk k => by rcases hk with rfl | ⟨a, rfl⟩; exact lv_aload_nN S.1 S.2.1 d rfl hl k; exact lv_aload_n S.1 S.2.1 d rfl hl k)
theorem er_aload {i : Nat} (d : decode cc pc = .ok (.aload i, 2)) : e_Snd ft cl lay cc own nL nm MC MS pc (ei_load i 2 (pc + 2)) := ei_load_ok (fun S => fun hl hk k => by rcases hk with rfl | ⟨a, rfl⟩; exact lv_aloadN S.1 S.2.1 d hl k; exact lv_aload S.1 S.2.1 d hl k)
theorem er_istore_n {i : Fin 4} (d : decode cc pc = .ok (.istore_n i, 1)) (hn : (i : Nat) < nL) : e_Snd ft cl lay cc own nL nm MC MS pc (ei_stor i 0 (pc + 1)) := ei_stor_ok (fun S => fun hl hk k => by obtain ⟨n, rfl⟩ := hk; exact lv_istore_n S.1 S.2.1 d rfl hl hn rfl k)
theorem er_istore {i : Nat} (d : decode cc pc = .ok (.istore i, 2)) (hn : i < nL) : e_Snd ft cl lay cc own nL nm MC MS pc (ei_stor i 0 (pc + 2)) := ei_stor_ok (fun S => fun hl hk k => by obtain ⟨n, rfl⟩ := hk; exact lv_istore S.1 S.2.1 d hl hn rfl k)
theorem er_lstore_n {i : Fin 4} (d : decode cc pc = .ok (.lstore_n i, 1)) (hn : (i : Nat) + 1 < nL) : e_Snd ft cl lay cc own nL nm MC MS pc (ei_stor i 1 (pc + 1)) := ei_stor_ok (fun S => fun hl hk k => by obtain ⟨n, rfl⟩ := hk; exact lv_lstore_n S.1 S.2.1 d rfl hl hn rfl k)
theorem er_lstore {i : Nat} (d : decode cc pc = .ok (.lstore i, 2)) (hn : i + 1 < nL) : e_Snd ft cl lay cc own nL nm MC MS pc (ei_stor i 1 (pc + 2)) := ei_stor_ok (fun S => fun hl hk k => by obtain ⟨n, rfl⟩ := hk; exact lv_lstore S.1 S.2.1 d hl hn rfl k)
theorem er_astore_n {i : Fin 4} (d : decode cc pc = .ok (.astore_n i, 1)) (hn : (i : Nat) < nL) : e_Snd ft cl lay cc own nL nm MC MS pc (ei_stor i 2 (pc + 1)) := ei_stor_ok (fun S => fun hl hk k => by rcases hk with rfl | ⟨a, rfl⟩; exact lv_astore_nN S.1 S.2.1 d rfl hl hn rfl k; exact lv_astore_n S.1 S.2.1 d rfl hl hn rfl k)
theorem er_astore {i : Nat} (d : decode cc pc = .ok (.astore i, 2)) (hn : i < nL) : e_Snd ft cl lay cc own nL nm MC MS pc (ei_stor i 2 (pc + 2)) := ei_stor_ok (fun S => fun hl hk k => by rcases hk with rfl | ⟨a, rfl⟩; exact lv_astoreN S.1 S.2.1 d hl hn rfl k; exact lv_astore S.1 S.2.1 d hl hn rfl k)
theorem er_iinc {i : Nat} {n : Int} (d : decode cc pc = .ok (.iinc i n, 3)) (hn : i < nL) (hz : -2147483648 ≤ n ∧ n ≤ 2147483647) : e_Snd ft cl lay cc own nL nm MC MS pc (ei_inc i n (pc + 3)) := ei_inc_ok hz (fun S => fun hl hk k => lv_iinc S.1 S.2.1 d hl hk rfl hn rfl k)
theorem er_goto {off : Int} {tg : Nat} (d : decode cc pc = .ok (.goto off, 3)) (ht : (pc : Int) + off = (tg : Int)) : e_Snd ft cl lay cc own nL nm MC MS pc (ei_goto tg) := ei_goto_ok (fun S => fun k => lv_goto S.1 S.2.1 d ht k)
theorem er_icmpeq {off : Int} {tg : Nat} (d : decode cc pc = .ok (.if_icmp .eq off, 3)) (ht : (pc : Int) + off = (tg : Int)) : e_Snd ft cl lay cc own nL nm MC MS pc (ei_if2 0 tg (pc + 3)) := ei_if2_ok (k := 0) (fun S => fun kt kf => lv_icmp_eq S.1 S.2.1 d ht (fun h => kt (x_eq32.mp h)) (fun h => kf (fun q => h (x_eq32.mpr q))))
theorem er_icmpne {off : Int} {tg : Nat} (d : decode cc pc = .ok (.if_icmp .ne off, 3)) (ht : (pc : Int) + off = (tg : Int)) : e_Snd ft cl lay cc own nL nm MC MS pc (ei_if2 1 tg (pc + 3)) := ei_if2_ok (k := 1) (fun S => fun kt kf => lv_icmp_ne S.1 S.2.1 d ht (fun h => kt (fun q => h (x_eq32.mpr q))) (fun h => kf (fun q => q (x_eq32.mp h))))
theorem er_icmplt {off : Int} {tg : Nat} (d : decode cc pc = .ok (.if_icmp .lt off, 3)) (ht : (pc : Int) + off = (tg : Int)) : e_Snd ft cl lay cc own nL nm MC MS pc (ei_if2 2 tg (pc + 3)) := ei_if2_ok (k := 2) (fun S => fun kt kf => lv_icmp_lt S.1 S.2.1 d ht (fun h => kt (x_lt32.mp h)) (fun h => kf (fun q => h (x_lt32.mpr q))))
theorem er_icmpge {off : Int} {tg : Nat} (d : decode cc pc = .ok (.if_icmp .ge off, 3)) (ht : (pc : Int) + off = (tg : Int)) : e_Snd ft cl lay cc own nL nm MC MS pc (ei_if2 3 tg (pc + 3)) := ei_if2_ok (k := 3) (fun S => fun kt kf => lv_icmp_ge S.1 S.2.1 d ht (fun h => kt (x_le32.mp h)) (fun h => kf (fun q => h (x_le32.mpr q))))
theorem er_icmpgt {off : Int} {tg : Nat} (d : decode cc pc = .ok (.if_icmp .gt off, 3)) (ht : (pc : Int) + off = (tg : Int)) : e_Snd ft cl lay cc own nL nm MC MS pc (ei_if2 4 tg (pc + 3)) := ei_if2_ok (k := 4) (fun S => fun kt kf => lv_icmp_gt S.1 S.2.1 d ht (fun h => kt (x_lt32.mp h)) (fun h => kf (fun q => h (x_lt32.mpr q))))
theorem er_icmple {off : Int} {tg : Nat} (d : decode cc pc = .ok (.if_icmp .le off, 3)) (ht : (pc : Int) + off = (tg : Int)) : e_Snd ft cl lay cc own nL nm MC MS pc (ei_if2 5 tg (pc + 3)) := ei_if2_ok (k := 5) (fun S => fun kt kf => lv_icmp_le S.1 S.2.1 d ht (fun h => kt (x_le32.mp h)) (fun h => kf (fun q => h (x_le32.mpr q))))
theorem er_ifeq {off : Int} {tg : Nat} (d : decode cc pc = .ok (.ifCond .eq off, 3)) (ht : (pc : Int) + off = (tg : Int)) : e_Snd ft cl lay cc own nL nm MC MS pc (ei_if1 0 tg (pc + 3)) := ei_if1_ok (k := 0) (fun S => fun kt kf => lv_if_eq S.1 S.2.1 d ht (fun h => kt (x_eq0.mp h)) (fun h => kf (fun q => h (x_eq0.mpr q))))
theorem er_ifne {off : Int} {tg : Nat} (d : decode cc pc = .ok (.ifCond .ne off, 3)) (ht : (pc : Int) + off = (tg : Int)) : e_Snd ft cl lay cc own nL nm MC MS pc (ei_if1 1 tg (pc + 3)) := ei_if1_ok (k := 1) (fun S => fun kt kf => lv_if_ne S.1 S.2.1 d ht (fun h => kt (fun q => h (x_eq0.mpr q))) (fun h => kf (fun q => q (x_eq0.mp h))))
theorem er_iflt {off : Int} {tg : Nat} (d : decode cc pc = .ok (.ifCond .lt off, 3)) (ht : (pc : Int) + off = (tg : Int)) : e_Snd ft cl lay cc own nL nm MC MS pc (ei_if1 2 tg (pc + 3)) := ei_if1_ok (k := 2) (fun S => fun kt kf => lv_if_lt S.1 S.2.1 d ht (fun h => kt (x_lt0.mp h)) (fun h => kf (fun q => h (x_lt0.mpr q))))
theorem er_ifge {off : Int} {tg : Nat} (d : decode cc pc = .ok (.ifCond .ge off, 3)) (ht : (pc : Int) + off = (tg : Int)) : e_Snd ft cl lay cc own nL nm MC MS pc (ei_if1 3 tg (pc + 3)) := ei_if1_ok (k := 3) (fun S => fun kt kf => lv_if_ge S.1 S.2.1 d ht (fun h => kt (x_ge0.mp h)) (fun h => kf (fun q => h (x_ge0.mpr q))))
theorem er_ifgt {off : Int} {tg : Nat} (d : decode cc pc = .ok (.ifCond .gt off, 3)) (ht : (pc : Int) + off = (tg : Int)) : e_Snd ft cl lay cc own nL nm MC MS pc (ei_if1 4 tg (pc + 3)) := ei_if1_ok (k := 4) (fun S => fun kt kf => lv_if_gt S.1 S.2.1 d ht (fun h => kt (x_gt0.mp h)) (fun h => kf (fun q => h (x_gt0.mpr q))))
theorem er_ifle {off : Int} {tg : Nat} (d : decode cc pc = .ok (.ifCond .le off, 3)) (ht : (pc : Int) + off = (tg : Int)) : e_Snd ft cl lay cc own nL nm MC MS pc (ei_if1 5 tg (pc + 3)) := ei_if1_ok (k := 5) (fun S => fun kt kf => lv_if_le S.1 S.2.1 d ht (fun h => kt (x_le0.mp h)) (fun h => kf (fun q => h (x_le0.mpr q))))
def eB (g : Int32 → Int32 → Int32) (x y : Int) : Option Int := some (g (Int32.ofInt x) (Int32.ofInt y)).toInt
def eSh (g : Int64 → Int32 → Int64) (x y : Int) : Option Int := some (g (Int64.ofInt x) (Int32.ofInt y)).toInt
theorem eB_ok {g : Int32 → Int32 → Int32} (x y : Int32) (z : Int) (h : eB g x.toInt y.toInt = some z) : True ∧ (g x y).toInt = z := by
  unfold eB at h
  rw [Int32.ofInt_toInt, Int32.ofInt_toInt] at h
  exact ⟨trivial, Option.some.inj h⟩
theorem eSh_ok {g : Int64 → Int32 → Int64} (x : Int64) (y : Int32) (z : Int) (h : eSh g x.toInt y.toInt = some z) : (g x y).toInt = z := by
  unfold eSh at h
  rw [Int64.ofInt_toInt, Int32.ofInt_toInt] at h
  exact Option.some.inj h
def eF_add (x y : Int) : Option Int := some (e32 (x + y))
def eF_sub (x y : Int) : Option Int := some (e32 (x - y))
def eF_mul (x y : Int) : Option Int := some (e32 (x * y))
def eF_div (x y : Int) : Option Int := bif decide (y = 0) then none else some (e32 (x.tdiv y))
def eF_rem (x y : Int) : Option Int := bif decide (y = 0) then none else some (e32 (x - e32 (e32 (x.tdiv y) * y)))
theorem er_iadd (d : decode cc pc = .ok (.iadd, 1)) : e_Snd ft cl lay cc own nL nm MC MS pc (ei_bin eF_add (pc + 1)) := ei_bin_ok (g := fun x y => x + y) (fun _ => True) (fun x y _ => (fun S => fun k => lv_iadd S.1 S.2.1 d k)) (fun x y z h => ⟨trivial, by cases h; exact Int32.toInt_add x y⟩)
theorem er_isub (d : decode cc pc = .ok (.isub, 1)) : e_Snd ft cl lay cc own nL nm MC MS pc (ei_bin eF_sub (pc + 1)) := ei_bin_ok (g := fun x y => x - y) (fun _ => True) (fun x y _ => (fun S => fun k => lv_isub S.1 S.2.1 d k)) (fun x y z h => ⟨trivial, by cases h; exact Int32.toInt_sub x y⟩)
theorem er_imul (d : decode cc pc = .ok (.imul, 1)) : e_Snd ft cl lay cc own nL nm MC MS pc (ei_bin eF_mul (pc + 1)) := ei_bin_ok (g := fun x y => x * y) (fun _ => True) (fun x y _ => (fun S => fun k => lv_imul S.1 S.2.1 d k)) (fun x y z h => ⟨trivial, by cases h; exact Int32.toInt_mul x y⟩)
theorem e_nz {y : Int32} (h : decide (y.toInt = 0) = false) : ¬ y = 0 := fun e => by
  subst e
  have : (0 : Int32).toInt = 0 := by decide
  simp [this] at h
theorem er_idiv (d : decode cc pc = .ok (.idiv, 1)) : e_Snd ft cl lay cc own nL nm MC MS pc (ei_bin eF_div (pc + 1)) := ei_bin_ok (g := fun x y => x / y) (fun y => ¬ y = 0) (fun x y hy => (fun S => fun k => lv_idiv S.1 S.2.1 d hy k)) (fun x y z h => by
  unfold eF_div at h
  cases hb : decide (y.toInt = 0) with
  | true => rw [hb] at h; cases h
  | false =>
    rw [hb] at h
    cases h
    exact ⟨e_nz hb, Int32.toInt_div x y⟩)
theorem er_irem (d : decode cc pc = .ok (.irem, 1)) : e_Snd ft cl lay cc own nL nm MC MS pc (ei_bin eF_rem (pc + 1)) := ei_bin_ok (g := fun x y => x - x / y * y) (fun y => ¬ y = 0) (fun x y hy => (fun S => fun k => lv_irem S.1 S.2.1 d hy k)) (fun x y z h => by
  unfold eF_rem at h
  cases hb : decide (y.toInt = 0) with
  | true => rw [hb] at h; cases h
  | false =>
    rw [hb] at h
    cases h
    refine ⟨e_nz hb, ?_⟩
    rw [Int32.toInt_sub, Int32.toInt_mul, Int32.toInt_div]
    rfl)
theorem er_iand (d : decode cc pc = .ok (.iand, 1)) : e_Snd ft cl lay cc own nL nm MC MS pc (ei_bin (eB (fun x y => x &&& y)) (pc + 1)) := ei_bin_ok (g := fun x y => x &&& y) (fun _ => True) (fun x y _ => (fun S => fun k => lv_iand S.1 S.2.1 d k)) eB_ok
theorem er_ior (d : decode cc pc = .ok (.ior, 1)) : e_Snd ft cl lay cc own nL nm MC MS pc (ei_bin (eB (fun x y => x ||| y)) (pc + 1)) := ei_bin_ok (g := fun x y => x ||| y) (fun _ => True) (fun x y _ => (fun S => fun k => lv_ior S.1 S.2.1 d k)) eB_ok
theorem er_ishr (d : decode cc pc = .ok (.ishr, 1)) : e_Snd ft cl lay cc own nL nm MC MS pc (ei_bin (eB (fun x y => x >>> (y &&& 31))) (pc + 1)) := ei_bin_ok (g := fun x y => x >>> (y &&& 31)) (fun _ => True) (fun x y _ => (fun S => fun k => lv_ishr S.1 S.2.1 d k)) eB_ok
theorem er_ishl (d : decode cc pc = .ok (.ishl, 1)) : e_Snd ft cl lay cc own nL nm MC MS pc (ei_bin (eB (fun x y => x <<< (y &&& 31))) (pc + 1)) := ei_bin_ok (g := fun x y => x <<< (y &&& 31)) (fun _ => True) (fun x y _ => (fun S => fun k => lv_ishl S.1 S.2.1 d k)) eB_ok
theorem er_ineg (d : decode cc pc = .ok (.ineg, 1)) : e_Snd ft cl lay cc own nL nm MC MS pc (ei_un (fun x => (0, e32 (-x))) (pc + 1)) := ei_un_ok (g := fun x => .int (-x)) (fun x => (fun S => fun k => lv_ineg S.1 S.2.1 d k)) (fun x ad => e_c (Int32.toInt_neg x) ad)
theorem er_i2b (d : decode cc pc = .ok (.i2b, 1)) : e_Snd ft cl lay cc own nL nm MC MS pc (ei_un (fun x => (0, x.bmod 256)) (pc + 1)) := ei_un_ok (g := fun x => .int x.toInt8.toInt32) (fun x => (fun S => fun k => lv_i2b S.1 S.2.1 d rfl k)) (fun x ad => e_c (z := x.toInt.bmod 256) (by rw [Int8.toInt_toInt32, Int32.toInt_toInt8]) ad)
theorem er_i2l (d : decode cc pc = .ok (.i2l, 1)) : e_Snd ft cl lay cc own nL nm MC MS pc (ei_un (fun x => (4, x)) (pc + 1)) := ei_un_ok (g := fun x => .long x.toInt64) (fun x => (fun S => fun k => lv_i2l S.1 S.2.1 d rfl k)) (fun x ad => e_cL (Int32.toInt_toInt64 x) ad)
def eG_add (x y : Int) : Option eV := some (4, e64 (x + y))
def eG_sub (x y : Int) : Option eV := some (4, e64 (x - y))
def eG_mul (x y : Int) : Option eV := some (4, e64 (x * y))
def eG_cmp (x y : Int) : Option eV := some (0, bif decide (x < y) then -1 else bif decide (x = y) then 0 else 1)
theorem er_ladd (d : decode cc pc = .ok (.ladd, 1)) : e_Snd ft cl lay cc own nL nm MC MS pc (ei_binL eG_add (pc + 1)) := ei_binL_ok (g := fun x y => .long (x + y)) (fun _ => True) (fun x y _ => (fun S => fun k => lv_ladd S.1 S.2.1 d k)) (fun x y z h => ⟨trivial, fun ad => by cases h; exact e_cL (Int64.toInt_add x y) ad⟩)
theorem er_lsub (d : decode cc pc = .ok (.lsub, 1)) : e_Snd ft cl lay cc own nL nm MC MS pc (ei_binL eG_sub (pc + 1)) := ei_binL_ok (g := fun x y => .long (x - y)) (fun _ => True) (fun x y _ => (fun S => fun k => lv_lsub S.1 S.2.1 d k)) (fun x y z h => ⟨trivial, fun ad => by cases h; exact e_cL (Int64.toInt_sub x y) ad⟩)
theorem er_lmul (d : decode cc pc = .ok (.lmul, 1)) : e_Snd ft cl lay cc own nL nm MC MS pc (ei_binL eG_mul (pc + 1)) := ei_binL_ok (g := fun x y => .long (x * y)) (fun _ => True) (fun x y _ => (fun S => fun k => lv_lmul S.1 S.2.1 d k)) (fun x y z h => ⟨trivial, fun ad => by cases h; exact e_cL (Int64.toInt_mul x y) ad⟩)
theorem er_lcmp (d : decode cc pc = .ok (.lcmp, 1)) : e_Snd ft cl lay cc own nL nm MC MS pc (ei_binL eG_cmp (pc + 1)) := ei_binL_ok (g := fun x y => .int (lg_cmp x y)) (fun _ => True) (fun x y _ => (fun S => fun k => W.lcmp S.1 S.2.1 d k)) (fun x y z h => ⟨trivial, fun ad => by
  cases h
  refine ⟨_, rfl, ?_⟩
  obtain ⟨h1, h2, h3⟩ := x_lg_cmp x y
  rcases Int.lt_trichotomy x.toInt y.toInt with h | h | h
  · rw [h1 h, decide_eq_true h]
    show (-1 : Int32).toInt = -1
    decide
  · rw [h2 h, decide_eq_false (by omega), decide_eq_true h]
    show (0 : Int32).toInt = 0
    decide
  · rw [h3 h, decide_eq_false (by omega), decide_eq_false (by omega)]
    show (1 : Int32).toInt = 1
    decide⟩)
theorem er_lshr (d : decode cc pc = .ok (.lshr, 1)) : e_Snd ft cl lay cc own nL nm MC MS pc (ei_shL (eSh (fun x y => x >>> (y.toInt64 &&& 63))) (pc + 1)) := ei_shL_ok (g := fun x y => x >>> (y.toInt64 &&& 63)) (fun x y => (fun S => fun k => lv_lshr S.1 S.2.1 d rfl k)) eSh_ok
theorem er_lshl (d : decode cc pc = .ok (.lshl, 1)) : e_Snd ft cl lay cc own nL nm MC MS pc (ei_shL (eSh (fun x y => x <<< (y.toInt64 &&& 63))) (pc + 1)) := ei_shL_ok (g := fun x y => x <<< (y.toInt64 &&& 63)) (fun x y => (fun S => fun k => lv_lshl S.1 S.2.1 d rfl k)) eSh_ok
theorem er_lneg (d : decode cc pc = .ok (.lneg, 1)) : e_Snd ft cl lay cc own nL nm MC MS pc (ei_unL (fun x => (4, e64 (-x))) (pc + 1)) := ei_unL_ok (g := fun x => .long (-x)) (fun x => (fun S => fun k => lv_lneg S.1 S.2.1 d k)) (fun x ad => e_cL (Int64.toInt_neg x) ad)
theorem er_l2i (d : decode cc pc = .ok (.l2i, 1)) : e_Snd ft cl lay cc own nL nm MC MS pc (ei_unL (fun x => (0, e32 x)) (pc + 1)) := ei_unL_ok (g := fun x => .int x.toInt32) (fun x => (fun S => fun k => lv_l2i S.1 S.2.1 d rfl k)) (fun x ad => e_c (Int64.toInt_toInt32 x) ad)
theorem er_getf {ci k ix N : Nat} {C : String} {T : u_T} (hc : cl[ci]? = some (C, T, N)) (hin : ∀ w ∈ u_ws C T N, w ∈ x_tbl) (hk : k < N) (hw : Cond.fieldLink own ix (T k).1 (T k).2.1 (T k).2.2.1 ∈ x_tbl) (d : decode cc pc = .ok (.getfield ix, 3)) : e_Snd ft cl lay cc own nL nm MC MS pc (ei_getf ft lay ci k (pc + 3)) := ei_getf_ok (xw_getf hc hin hk hw d)
theorem er_alen (d : decode cc pc = .ok (.arraylength, 1)) : e_Snd ft cl lay cc own nL nm MC MS pc (ei_alen lay (pc + 1)) := ei_alen_ok (fun C => fun h1 h2 h3 h4 k => va_alen C.1.1 C.1.2.1 h1 h2 _ _ h3 h4 rfl d k)
theorem er_aaload (d : decode cc pc = .ok (.aaload, 1)) : e_Snd ft cl lay cc own nL nm MC MS pc (ei_aald lay (pc + 1)) := ei_aald_ok (fun C => fun h0 h1 h2 h3 h4 h5 k => x_aald C.1.1 C.1.2.1 h1 h2 _ _ h0 h3 h4 h5 d k)
theorem er_iaload (d : decode cc pc = .ok (.iaload, 1)) : e_Snd ft cl lay cc own nL nm MC MS pc (ei_ald lay false (pc + 1)) := ei_ald_ok (fun kd hk => by
  have e := Nat.eq_of_beq_eq_true hk
  subst e
  intro p l e R s m args below meth c C H locs cells slots Q ls rest D tys ws a q0 t0 n cA f i h1 h2 h3 h4 h5 k
  exact va_iald C.1.1 C.1.2.1 h1 h2 _ _ h3 h4 h5 d k)
theorem er_baload (d : decode cc pc = .ok (.baload, 1)) : e_Snd ft cl lay cc own nL nm MC MS pc (ei_ald lay true (pc + 1)) := ei_ald_ok (fun kd hk => by
  unfold x_akd at hk
  simp only [Bool.or_eq_true] at hk
  rcases hk with hk | hk
  · have e := Nat.eq_of_beq_eq_true hk
    subst e
    intro p l e R s m args below meth c C H locs cells slots Q ls rest D tys ws a q0 t0 n cA f i h1 h2 h3 h4 h5 k
    exact va_bald C.1.1 C.1.2.1 h1 h2 _ _ h3 h4 h5 d k
  · have e := Nat.eq_of_beq_eq_true hk
    subst e
    intro p l e R s m args below meth c C H locs cells slots Q ls rest D tys ws a q0 t0 n cA f i h1 h2 h3 h4 h5 k
    exact va_zald C.1.1 C.1.2.1 h1 h2 _ _ h3 h4 h5 d k)
theorem er_iastore (d : decode cc pc = .ok (.iastore, 1)) : e_Snd ft cl lay cc own nL nm MC MS pc (ei_ast lay false (pc + 1)) := ei_ast_ok (fun kd hk => by
  have e := Nat.eq_of_beq_eq_true hk
  subst e
  intro p l e R s m args below meth c C H H0 locs cells slots Q ls rest D A tys ws a q0 t0 n cA f i x h1 h2 h6 h7 h3 h4 h5 k
  exact va_iast C.1.1 C.1.2.1 h1 h2 h6 h7 _ _ h3 h4 h5 d k)
theorem er_bastore (d : decode cc pc = .ok (.bastore, 1)) : e_Snd ft cl lay cc own nL nm MC MS pc (ei_ast lay true (pc + 1)) := ei_ast_ok (fun kd hk => by
  unfold x_akd at hk
  simp only [Bool.or_eq_true] at hk
  rcases hk with hk | hk
  · have e := Nat.eq_of_beq_eq_true hk
    subst e
    intro p l e R s m args below meth c C H H0 locs cells slots Q ls rest D A tys ws a q0 t0 n cA f i x h1 h2 h6 h7 h3 h4 h5 k
    exact va_bast C.1.1 C.1.2.1 h1 h2 h6 h7 _ _ h3 h4 h5 d k
  · have e := Nat.eq_of_beq_eq_true hk
    subst e
    intro p l e R s m args below meth c C H H0 locs cells slots Q ls rest D A tys ws a q0 t0 n cA f i x h1 h2 h6 h7 h3 h4 h5 k
    exact va_zast C.1.1 C.1.2.1 h1 h2 h6 h7 _ _ h3 h4 h5 d k)
theorem er_putf {ci k ix N fk : Nat} {C : String} {T : u_T} {ty0 : Nat → FieldType} {ty : FieldType} (hc : cl[ci]? = some (C, T, N)) (hin : ∀ w ∈ u_ws C T N, w ∈ x_tbl) (hty : ∀ k, k < N → parseFieldDescriptor (T k).2.2.1 = some (ty0 k)) (hnm : ∀ a, a < N → ∀ b, b < N → a ≠ b → (T a).2.1 ≠ (T b).2.1) (hk : k < N) (hw : Cond.fieldLink own ix (T k).1 (T k).2.1 (T k).2.2.1 ∈ x_tbl) (hfin : (T k).2.2.2 = false) (hd : ty0 k = ty) (hv : ∀ v, x_pk fk v → narrow ty v = v ∧ fits ty v = true) (d : decode cc pc = .ok (.putfield ix, 3)) : e_Snd ft cl lay cc own nL nm MC MS pc (ei_putf ft lay ci k fk (pc + 3)) := ei_putf_ok (by
  intro p l e R s m args below meth c C1 H H0 locs cells slots Q ls rest D A tys ws a q0 fs v h1 h2 h3 h4 h5 h6 h7 kk
  exact va_put C1.1.1 C1.1.2.1 C1.1.2.2.2.2 hin ty0 hty hnm C1.1.2.2.2.1 h1 h2 h3 h4 q0 h5 hc k hk (C1.1.2.2.2.2 _ hw) (fun _ h => h) hfin (by rw [← hd]; exact hty k hk) (hv v h7).1 (hv v h7).2 h6 d kk)
def e_tswB (pc : Nat) (dflt lo : Int) (n : Nat) (offs : Array Int) (l : List (Int × Int × Nat)) : Bool := l.all (fun q => ((decide (q.2.1 < lo) || decide (lo + n ≤ q.1)) && decide ((pc : Int) + dflt = (q.2.2 : Int))) || (decide (q.1 = q.2.1) && (decide (lo ≤ q.1) && (decide (q.1 < lo + n) && decide (offs[(q.1 - lo).toNat]?.map (fun o => (pc : Int) + o) = some (q.2.2 : Int))))))
theorem er_tsw {dflt lo hi : Int} {offs : Array Int} {len n : Nat} {l : List (Int × Int × Nat)} (d : decode cc pc = .ok (.tableswitch dflt lo hi offs, len)) (hn : hi + 1 = lo + n) (h : e_tswB pc dflt lo n offs l = true) : e_Snd ft cl lay cc own nL nm MC MS pc (ei_sw l) := ei_sw_ok (fun x q hq q1 q2 => by
  have hq := List.all_eq_true.mp h q hq
  simp only [Bool.or_eq_true, Bool.and_eq_true, decide_eq_true_eq] at hq
  rcases hq with ⟨h1 | h1, h2⟩ | ⟨h1, h2, h3, h4⟩
  · have g : x.toInt < lo := by omega
    intro p l e R s m args below meth c S H locs cells slots Q ls rest k
    exact lv_tableOut S.1 S.2.1 d (Or.inl g) h2 k
  · have g : hi < x.toInt := by omega
    intro p l e R s m args below meth c S H locs cells slots Q ls rest k
    exact lv_tableOut S.1 S.2.1 d (Or.inr g) h2 k
  · have e : x.toInt = q.1 := by omega
    rw [← e] at h4
    cases ho : offs[(x.toInt - lo).toNat]? with
    | none => rw [ho] at h4; cases h4
    | some off =>
      rw [ho] at h4
      have g1 : ¬ x.toInt < lo := by omega
      have g2 : ¬ hi < x.toInt := by omega
      intro p l e R s m args below meth c S H locs cells slots Q ls rest k
      exact lv_tableIn S.1 S.2.1 d g1 g2 ho (Option.some.inj h4) k)
end E34
end
