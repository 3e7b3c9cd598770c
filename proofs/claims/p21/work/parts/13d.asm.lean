noncomputable section
/-! decoding by walking along the bytes once -/
abbrev xa_R (α : Type) := Jvm.ClassFile.Reader Jvm.ClassFile.DecodeError α
/-- the byte at a place -/
def xa_by (b : ByteArray) (p v : Nat) : Prop := ∃ h : p < b.size, b[p].toNat = v
theorem xa_bind {α β : Type} {r : xa_R α} {F : α → xa_R β} {b : ByteArray} {p n : Nat} {v : α} (h : r.runAt b p = .ok (v, n)) : (r >>= F).runAt b p = (F v).runAt b n := by
  unfold Jvm.ClassFile.Reader.runAt at h ⊢
  rw [ReaderT.run_bind, StateT.run_bind, h]
  rfl
theorem xa_u1 {b : ByteArray} {p v : Nat} (h : xa_by b p v) : (Jvm.ClassFile.Reader.u1 : xa_R Nat).runAt b p = .ok (v, p + 1) := by
  obtain ⟨h1, h2⟩ := h
  show (dite (p < b.size) _ _ : xa_R Nat) b p = _
  rw [dif_pos h1, ← h2]
  rfl
theorem xa_u2 {b : ByteArray} {p v u : Nat} (h : xa_by b p v) (h' : xa_by b (p + 1) u) : (Jvm.ClassFile.Reader.u2 : xa_R Nat).runAt b p = .ok (v * 256 + u, p + 2) :=
  by
  refine (xa_bind (xa_u1 h)).trans ?_
  exact xa_bind (xa_u1 h')
theorem xa_map {α β : Type} {r : xa_R α} {f : α → β} {b : ByteArray} {p n : Nat} {v : α} (h : r.runAt b p = .ok (v, n)) : (f <$> r).runAt b p = .ok (f v, n) := by
  unfold Jvm.ClassFile.Reader.runAt at h ⊢
  rw [ReaderT.run_map, StateT.run_map, h]
  rfl
theorem xa_dec {b : ByteArray} {pc n : Nat} {ins : Instr} (h : (Jvm.ClassFile.Decoder.instr pc).runAt b pc = .ok (ins, pc + n)) : decode b pc = .ok (ins, n) := by
  unfold decode
  rw [h]
  show Except.ok (ins, pc + n - pc) = _
  rw [Nat.add_sub_cancel_left]
theorem xa_aaload {b : ByteArray} {pc : Nat} (h : xa_by b pc 50) : decode b pc = .ok (.aaload, 1) := xa_dec (xa_bind (xa_u1 h))
theorem xa_aastore {b : ByteArray} {pc : Nat} (h : xa_by b pc 83) : decode b pc = .ok (.aastore, 1) := xa_dec (xa_bind (xa_u1 h))
theorem xa_aconst_null {b : ByteArray} {pc : Nat} (h : xa_by b pc 1) : decode b pc = .ok (.aconst_null, 1) := xa_dec (xa_bind (xa_u1 h))
theorem xa_areturn {b : ByteArray} {pc : Nat} (h : xa_by b pc 176) : decode b pc = .ok (.areturn, 1) := xa_dec (xa_bind (xa_u1 h))
theorem xa_arraylength {b : ByteArray} {pc : Nat} (h : xa_by b pc 190) : decode b pc = .ok (.arraylength, 1) := xa_dec (xa_bind (xa_u1 h))
theorem xa_athrow {b : ByteArray} {pc : Nat} (h : xa_by b pc 191) : decode b pc = .ok (.athrow, 1) := xa_dec (xa_bind (xa_u1 h))
theorem xa_baload {b : ByteArray} {pc : Nat} (h : xa_by b pc 51) : decode b pc = .ok (.baload, 1) := xa_dec (xa_bind (xa_u1 h))
theorem xa_bastore {b : ByteArray} {pc : Nat} (h : xa_by b pc 84) : decode b pc = .ok (.bastore, 1) := xa_dec (xa_bind (xa_u1 h))
theorem xa_caload {b : ByteArray} {pc : Nat} (h : xa_by b pc 52) : decode b pc = .ok (.caload, 1) := xa_dec (xa_bind (xa_u1 h))
theorem xa_castore {b : ByteArray} {pc : Nat} (h : xa_by b pc 85) : decode b pc = .ok (.castore, 1) := xa_dec (xa_bind (xa_u1 h))
theorem xa_dup {b : ByteArray} {pc : Nat} (h : xa_by b pc 89) : decode b pc = .ok (.dup, 1) := xa_dec (xa_bind (xa_u1 h))
theorem xa_dup2 {b : ByteArray} {pc : Nat} (h : xa_by b pc 92) : decode b pc = .ok (.dup2, 1) := xa_dec (xa_bind (xa_u1 h))
theorem xa_dup_x1 {b : ByteArray} {pc : Nat} (h : xa_by b pc 90) : decode b pc = .ok (.dup_x1, 1) := xa_dec (xa_bind (xa_u1 h))
theorem xa_i2b {b : ByteArray} {pc : Nat} (h : xa_by b pc 145) : decode b pc = .ok (.i2b, 1) := xa_dec (xa_bind (xa_u1 h))
theorem xa_i2c {b : ByteArray} {pc : Nat} (h : xa_by b pc 146) : decode b pc = .ok (.i2c, 1) := xa_dec (xa_bind (xa_u1 h))
theorem xa_i2l {b : ByteArray} {pc : Nat} (h : xa_by b pc 133) : decode b pc = .ok (.i2l, 1) := xa_dec (xa_bind (xa_u1 h))
theorem xa_i2s {b : ByteArray} {pc : Nat} (h : xa_by b pc 147) : decode b pc = .ok (.i2s, 1) := xa_dec (xa_bind (xa_u1 h))
theorem xa_iadd {b : ByteArray} {pc : Nat} (h : xa_by b pc 96) : decode b pc = .ok (.iadd, 1) := xa_dec (xa_bind (xa_u1 h))
theorem xa_iaload {b : ByteArray} {pc : Nat} (h : xa_by b pc 46) : decode b pc = .ok (.iaload, 1) := xa_dec (xa_bind (xa_u1 h))
theorem xa_iand {b : ByteArray} {pc : Nat} (h : xa_by b pc 126) : decode b pc = .ok (.iand, 1) := xa_dec (xa_bind (xa_u1 h))
theorem xa_iastore {b : ByteArray} {pc : Nat} (h : xa_by b pc 79) : decode b pc = .ok (.iastore, 1) := xa_dec (xa_bind (xa_u1 h))
theorem xa_idiv {b : ByteArray} {pc : Nat} (h : xa_by b pc 108) : decode b pc = .ok (.idiv, 1) := xa_dec (xa_bind (xa_u1 h))
theorem xa_imul {b : ByteArray} {pc : Nat} (h : xa_by b pc 104) : decode b pc = .ok (.imul, 1) := xa_dec (xa_bind (xa_u1 h))
theorem xa_ineg {b : ByteArray} {pc : Nat} (h : xa_by b pc 116) : decode b pc = .ok (.ineg, 1) := xa_dec (xa_bind (xa_u1 h))
theorem xa_ior {b : ByteArray} {pc : Nat} (h : xa_by b pc 128) : decode b pc = .ok (.ior, 1) := xa_dec (xa_bind (xa_u1 h))
theorem xa_irem {b : ByteArray} {pc : Nat} (h : xa_by b pc 112) : decode b pc = .ok (.irem, 1) := xa_dec (xa_bind (xa_u1 h))
theorem xa_ireturn {b : ByteArray} {pc : Nat} (h : xa_by b pc 172) : decode b pc = .ok (.ireturn, 1) := xa_dec (xa_bind (xa_u1 h))
theorem xa_ishl {b : ByteArray} {pc : Nat} (h : xa_by b pc 120) : decode b pc = .ok (.ishl, 1) := xa_dec (xa_bind (xa_u1 h))
theorem xa_ishr {b : ByteArray} {pc : Nat} (h : xa_by b pc 122) : decode b pc = .ok (.ishr, 1) := xa_dec (xa_bind (xa_u1 h))
theorem xa_isub {b : ByteArray} {pc : Nat} (h : xa_by b pc 100) : decode b pc = .ok (.isub, 1) := xa_dec (xa_bind (xa_u1 h))
theorem xa_iushr {b : ByteArray} {pc : Nat} (h : xa_by b pc 124) : decode b pc = .ok (.iushr, 1) := xa_dec (xa_bind (xa_u1 h))
theorem xa_ixor {b : ByteArray} {pc : Nat} (h : xa_by b pc 130) : decode b pc = .ok (.ixor, 1) := xa_dec (xa_bind (xa_u1 h))
theorem xa_l2i {b : ByteArray} {pc : Nat} (h : xa_by b pc 136) : decode b pc = .ok (.l2i, 1) := xa_dec (xa_bind (xa_u1 h))
theorem xa_ladd {b : ByteArray} {pc : Nat} (h : xa_by b pc 97) : decode b pc = .ok (.ladd, 1) := xa_dec (xa_bind (xa_u1 h))
theorem xa_land {b : ByteArray} {pc : Nat} (h : xa_by b pc 127) : decode b pc = .ok (.land, 1) := xa_dec (xa_bind (xa_u1 h))
theorem xa_lcmp {b : ByteArray} {pc : Nat} (h : xa_by b pc 148) : decode b pc = .ok (.lcmp, 1) := xa_dec (xa_bind (xa_u1 h))
theorem xa_ldiv {b : ByteArray} {pc : Nat} (h : xa_by b pc 109) : decode b pc = .ok (.ldiv, 1) := xa_dec (xa_bind (xa_u1 h))
theorem xa_lmul {b : ByteArray} {pc : Nat} (h : xa_by b pc 105) : decode b pc = .ok (.lmul, 1) := xa_dec (xa_bind (xa_u1 h))
theorem xa_lneg {b : ByteArray} {pc : Nat} (h : xa_by b pc 117) : decode b pc = .ok (.lneg, 1) := xa_dec (xa_bind (xa_u1 h))
theorem xa_lor {b : ByteArray} {pc : Nat} (h : xa_by b pc 129) : decode b pc = .ok (.lor, 1) := xa_dec (xa_bind (xa_u1 h))
theorem xa_lrem {b : ByteArray} {pc : Nat} (h : xa_by b pc 113) : decode b pc = .ok (.lrem, 1) := xa_dec (xa_bind (xa_u1 h))
theorem xa_lreturn {b : ByteArray} {pc : Nat} (h : xa_by b pc 173) : decode b pc = .ok (.lreturn, 1) := xa_dec (xa_bind (xa_u1 h))
theorem xa_lshl {b : ByteArray} {pc : Nat} (h : xa_by b pc 121) : decode b pc = .ok (.lshl, 1) := xa_dec (xa_bind (xa_u1 h))
theorem xa_lshr {b : ByteArray} {pc : Nat} (h : xa_by b pc 123) : decode b pc = .ok (.lshr, 1) := xa_dec (xa_bind (xa_u1 h))
theorem xa_lsub {b : ByteArray} {pc : Nat} (h : xa_by b pc 101) : decode b pc = .ok (.lsub, 1) := xa_dec (xa_bind (xa_u1 h))
theorem xa_pop {b : ByteArray} {pc : Nat} (h : xa_by b pc 87) : decode b pc = .ok (.pop, 1) := xa_dec (xa_bind (xa_u1 h))
theorem xa_pop2 {b : ByteArray} {pc : Nat} (h : xa_by b pc 88) : decode b pc = .ok (.pop2, 1) := xa_dec (xa_bind (xa_u1 h))
theorem xa_return_ {b : ByteArray} {pc : Nat} (h : xa_by b pc 177) : decode b pc = .ok (.return_, 1) := xa_dec (xa_bind (xa_u1 h))
theorem xa_iload_n0 {b : ByteArray} {pc : Nat} (h : xa_by b pc 26) : decode b pc = .ok (.iload_n 0, 1) := xa_dec (xa_bind (xa_u1 h))
theorem xa_iload_n1 {b : ByteArray} {pc : Nat} (h : xa_by b pc 27) : decode b pc = .ok (.iload_n 1, 1) := xa_dec (xa_bind (xa_u1 h))
theorem xa_iload_n2 {b : ByteArray} {pc : Nat} (h : xa_by b pc 28) : decode b pc = .ok (.iload_n 2, 1) := xa_dec (xa_bind (xa_u1 h))
theorem xa_iload_n3 {b : ByteArray} {pc : Nat} (h : xa_by b pc 29) : decode b pc = .ok (.iload_n 3, 1) := xa_dec (xa_bind (xa_u1 h))
theorem xa_lload_n0 {b : ByteArray} {pc : Nat} (h : xa_by b pc 30) : decode b pc = .ok (.lload_n 0, 1) := xa_dec (xa_bind (xa_u1 h))
theorem xa_lload_n1 {b : ByteArray} {pc : Nat} (h : xa_by b pc 31) : decode b pc = .ok (.lload_n 1, 1) := xa_dec (xa_bind (xa_u1 h))
theorem xa_lload_n2 {b : ByteArray} {pc : Nat} (h : xa_by b pc 32) : decode b pc = .ok (.lload_n 2, 1) := xa_dec (xa_bind (xa_u1 h))
theorem xa_lload_n3 {b : ByteArray} {pc : Nat} (h : xa_by b pc 33) : decode b pc = .ok (.lload_n 3, 1) := xa_dec (xa_bind (xa_u1 h))
theorem xa_aload_n0 {b : ByteArray} {pc : Nat} (h : xa_by b pc 42) : decode b pc = .ok (.aload_n 0, 1) := xa_dec (xa_bind (xa_u1 h))
theorem xa_aload_n1 {b : ByteArray} {pc : Nat} (h : xa_by b pc 43) : decode b pc = .ok (.aload_n 1, 1) := xa_dec (xa_bind (xa_u1 h))
theorem xa_aload_n2 {b : ByteArray} {pc : Nat} (h : xa_by b pc 44) : decode b pc = .ok (.aload_n 2, 1) := xa_dec (xa_bind (xa_u1 h))
theorem xa_aload_n3 {b : ByteArray} {pc : Nat} (h : xa_by b pc 45) : decode b pc = .ok (.aload_n 3, 1) := xa_dec (xa_bind (xa_u1 h))
theorem xa_istore_n0 {b : ByteArray} {pc : Nat} (h : xa_by b pc 59) : decode b pc = .ok (.istore_n 0, 1) := xa_dec (xa_bind (xa_u1 h))
theorem xa_istore_n1 {b : ByteArray} {pc : Nat} (h : xa_by b pc 60) : decode b pc = .ok (.istore_n 1, 1) := xa_dec (xa_bind (xa_u1 h))
theorem xa_istore_n2 {b : ByteArray} {pc : Nat} (h : xa_by b pc 61) : decode b pc = .ok (.istore_n 2, 1) := xa_dec (xa_bind (xa_u1 h))
theorem xa_istore_n3 {b : ByteArray} {pc : Nat} (h : xa_by b pc 62) : decode b pc = .ok (.istore_n 3, 1) := xa_dec (xa_bind (xa_u1 h))
theorem xa_lstore_n0 {b : ByteArray} {pc : Nat} (h : xa_by b pc 63) : decode b pc = .ok (.lstore_n 0, 1) := xa_dec (xa_bind (xa_u1 h))
theorem xa_lstore_n1 {b : ByteArray} {pc : Nat} (h : xa_by b pc 64) : decode b pc = .ok (.lstore_n 1, 1) := xa_dec (xa_bind (xa_u1 h))
theorem xa_lstore_n2 {b : ByteArray} {pc : Nat} (h : xa_by b pc 65) : decode b pc = .ok (.lstore_n 2, 1) := xa_dec (xa_bind (xa_u1 h))
theorem xa_lstore_n3 {b : ByteArray} {pc : Nat} (h : xa_by b pc 66) : decode b pc = .ok (.lstore_n 3, 1) := xa_dec (xa_bind (xa_u1 h))
theorem xa_astore_n0 {b : ByteArray} {pc : Nat} (h : xa_by b pc 75) : decode b pc = .ok (.astore_n 0, 1) := xa_dec (xa_bind (xa_u1 h))
theorem xa_astore_n1 {b : ByteArray} {pc : Nat} (h : xa_by b pc 76) : decode b pc = .ok (.astore_n 1, 1) := xa_dec (xa_bind (xa_u1 h))
theorem xa_astore_n2 {b : ByteArray} {pc : Nat} (h : xa_by b pc 77) : decode b pc = .ok (.astore_n 2, 1) := xa_dec (xa_bind (xa_u1 h))
theorem xa_astore_n3 {b : ByteArray} {pc : Nat} (h : xa_by b pc 78) : decode b pc = .ok (.astore_n 3, 1) := xa_dec (xa_bind (xa_u1 h))
theorem xa_iconstm1 {b : ByteArray} {pc : Nat} (h : xa_by b pc 2) : decode b pc = .ok (.iconst (-1), 1) := xa_dec (xa_bind (xa_u1 h))
theorem xa_iconst0 {b : ByteArray} {pc : Nat} (h : xa_by b pc 3) : decode b pc = .ok (.iconst (0), 1) := xa_dec (xa_bind (xa_u1 h))
theorem xa_iconst1 {b : ByteArray} {pc : Nat} (h : xa_by b pc 4) : decode b pc = .ok (.iconst (1), 1) := xa_dec (xa_bind (xa_u1 h))
theorem xa_iconst2 {b : ByteArray} {pc : Nat} (h : xa_by b pc 5) : decode b pc = .ok (.iconst (2), 1) := xa_dec (xa_bind (xa_u1 h))
theorem xa_iconst3 {b : ByteArray} {pc : Nat} (h : xa_by b pc 6) : decode b pc = .ok (.iconst (3), 1) := xa_dec (xa_bind (xa_u1 h))
theorem xa_iconst4 {b : ByteArray} {pc : Nat} (h : xa_by b pc 7) : decode b pc = .ok (.iconst (4), 1) := xa_dec (xa_bind (xa_u1 h))
theorem xa_iconst5 {b : ByteArray} {pc : Nat} (h : xa_by b pc 8) : decode b pc = .ok (.iconst (5), 1) := xa_dec (xa_bind (xa_u1 h))
theorem xa_lconst0 {b : ByteArray} {pc : Nat} (h : xa_by b pc 9) : decode b pc = .ok (.lconst 0, 1) := xa_dec (xa_bind (xa_u1 h))
theorem xa_lconst1 {b : ByteArray} {pc : Nat} (h : xa_by b pc 10) : decode b pc = .ok (.lconst 1, 1) := xa_dec (xa_bind (xa_u1 h))
theorem xa_iload {b : ByteArray} {pc v : Nat} (h : xa_by b pc 21) (h1 : xa_by b (pc + 1) v) : decode b pc = .ok (.iload v, 2) := by
  refine xa_dec ((xa_bind (xa_u1 h)).trans ?_)
  exact xa_bind (xa_u1 h1)
theorem xa_lload {b : ByteArray} {pc v : Nat} (h : xa_by b pc 22) (h1 : xa_by b (pc + 1) v) : decode b pc = .ok (.lload v, 2) := by
  refine xa_dec ((xa_bind (xa_u1 h)).trans ?_)
  exact xa_bind (xa_u1 h1)
theorem xa_aload {b : ByteArray} {pc v : Nat} (h : xa_by b pc 25) (h1 : xa_by b (pc + 1) v) : decode b pc = .ok (.aload v, 2) := by
  refine xa_dec ((xa_bind (xa_u1 h)).trans ?_)
  exact xa_bind (xa_u1 h1)
theorem xa_istore {b : ByteArray} {pc v : Nat} (h : xa_by b pc 54) (h1 : xa_by b (pc + 1) v) : decode b pc = .ok (.istore v, 2) := by
  refine xa_dec ((xa_bind (xa_u1 h)).trans ?_)
  exact xa_bind (xa_u1 h1)
theorem xa_lstore {b : ByteArray} {pc v : Nat} (h : xa_by b pc 55) (h1 : xa_by b (pc + 1) v) : decode b pc = .ok (.lstore v, 2) := by
  refine xa_dec ((xa_bind (xa_u1 h)).trans ?_)
  exact xa_bind (xa_u1 h1)
theorem xa_astore {b : ByteArray} {pc v : Nat} (h : xa_by b pc 58) (h1 : xa_by b (pc + 1) v) : decode b pc = .ok (.astore v, 2) := by
  refine xa_dec ((xa_bind (xa_u1 h)).trans ?_)
  exact xa_bind (xa_u1 h1)
theorem xa_ldc {b : ByteArray} {pc v : Nat} (h : xa_by b pc 18) (h1 : xa_by b (pc + 1) v) : decode b pc = .ok (.ldc v, 2) := by
  refine xa_dec ((xa_bind (xa_u1 h)).trans ?_)
  exact xa_bind (xa_u1 h1)
theorem xa_bipush {b : ByteArray} {pc v : Nat} (h : xa_by b pc 16) (h1 : xa_by b (pc + 1) v) : decode b pc = .ok (.bipush (Jvm.ClassFile.Reader.signed 8 v), 2) := by
  refine xa_dec ((xa_bind (xa_u1 h)).trans ?_)
  exact xa_bind (xa_map (xa_u1 h1))
theorem xa_ldc_w {b : ByteArray} {pc v u : Nat} (h : xa_by b pc 19) (h1 : xa_by b (pc + 1) v) (h2 : xa_by b (pc + 2) u) : decode b pc = .ok (.ldc_w (v * 256 + u), 3) := by
  refine xa_dec ((xa_bind (xa_u1 h)).trans ?_)
  exact xa_bind (xa_u2 h1 h2)
theorem xa_ldc2_w {b : ByteArray} {pc v u : Nat} (h : xa_by b pc 20) (h1 : xa_by b (pc + 1) v) (h2 : xa_by b (pc + 2) u) : decode b pc = .ok (.ldc2_w (v * 256 + u), 3) := by
  refine xa_dec ((xa_bind (xa_u1 h)).trans ?_)
  exact xa_bind (xa_u2 h1 h2)
theorem xa_getstatic {b : ByteArray} {pc v u : Nat} (h : xa_by b pc 178) (h1 : xa_by b (pc + 1) v) (h2 : xa_by b (pc + 2) u) : decode b pc = .ok (.getstatic (v * 256 + u), 3) := by
  refine xa_dec ((xa_bind (xa_u1 h)).trans ?_)
  exact xa_bind (xa_u2 h1 h2)
theorem xa_putstatic {b : ByteArray} {pc v u : Nat} (h : xa_by b pc 179) (h1 : xa_by b (pc + 1) v) (h2 : xa_by b (pc + 2) u) : decode b pc = .ok (.putstatic (v * 256 + u), 3) := by
  refine xa_dec ((xa_bind (xa_u1 h)).trans ?_)
  exact xa_bind (xa_u2 h1 h2)
theorem xa_getfield {b : ByteArray} {pc v u : Nat} (h : xa_by b pc 180) (h1 : xa_by b (pc + 1) v) (h2 : xa_by b (pc + 2) u) : decode b pc = .ok (.getfield (v * 256 + u), 3) := by
  refine xa_dec ((xa_bind (xa_u1 h)).trans ?_)
  exact xa_bind (xa_u2 h1 h2)
theorem xa_putfield {b : ByteArray} {pc v u : Nat} (h : xa_by b pc 181) (h1 : xa_by b (pc + 1) v) (h2 : xa_by b (pc + 2) u) : decode b pc = .ok (.putfield (v * 256 + u), 3) := by
  refine xa_dec ((xa_bind (xa_u1 h)).trans ?_)
  exact xa_bind (xa_u2 h1 h2)
theorem xa_invokevirtual {b : ByteArray} {pc v u : Nat} (h : xa_by b pc 182) (h1 : xa_by b (pc + 1) v) (h2 : xa_by b (pc + 2) u) : decode b pc = .ok (.invokevirtual (v * 256 + u), 3) := by
  refine xa_dec ((xa_bind (xa_u1 h)).trans ?_)
  exact xa_bind (xa_u2 h1 h2)
theorem xa_invokespecial {b : ByteArray} {pc v u : Nat} (h : xa_by b pc 183) (h1 : xa_by b (pc + 1) v) (h2 : xa_by b (pc + 2) u) : decode b pc = .ok (.invokespecial (v * 256 + u), 3) := by
  refine xa_dec ((xa_bind (xa_u1 h)).trans ?_)
  exact xa_bind (xa_u2 h1 h2)
theorem xa_invokestatic {b : ByteArray} {pc v u : Nat} (h : xa_by b pc 184) (h1 : xa_by b (pc + 1) v) (h2 : xa_by b (pc + 2) u) : decode b pc = .ok (.invokestatic (v * 256 + u), 3) := by
  refine xa_dec ((xa_bind (xa_u1 h)).trans ?_)
  exact xa_bind (xa_u2 h1 h2)
theorem xa_new {b : ByteArray} {pc v u : Nat} (h : xa_by b pc 187) (h1 : xa_by b (pc + 1) v) (h2 : xa_by b (pc + 2) u) : decode b pc = .ok (.new (v * 256 + u), 3) := by
  refine xa_dec ((xa_bind (xa_u1 h)).trans ?_)
  exact xa_bind (xa_u2 h1 h2)
theorem xa_anewarray {b : ByteArray} {pc v u : Nat} (h : xa_by b pc 189) (h1 : xa_by b (pc + 1) v) (h2 : xa_by b (pc + 2) u) : decode b pc = .ok (.anewarray (v * 256 + u), 3) := by
  refine xa_dec ((xa_bind (xa_u1 h)).trans ?_)
  exact xa_bind (xa_u2 h1 h2)
theorem xa_checkcast {b : ByteArray} {pc v u : Nat} (h : xa_by b pc 192) (h1 : xa_by b (pc + 1) v) (h2 : xa_by b (pc + 2) u) : decode b pc = .ok (.checkcast (v * 256 + u), 3) := by
  refine xa_dec ((xa_bind (xa_u1 h)).trans ?_)
  exact xa_bind (xa_u2 h1 h2)
theorem xa_sipush {b : ByteArray} {pc v u : Nat} (h : xa_by b pc 17) (h1 : xa_by b (pc + 1) v) (h2 : xa_by b (pc + 2) u) : decode b pc = .ok (.sipush (Jvm.ClassFile.Reader.signed 16 (v * 256 + u)), 3) := by
  refine xa_dec ((xa_bind (xa_u1 h)).trans ?_)
  exact xa_bind (xa_map (xa_u2 h1 h2))
theorem xa_goto {b : ByteArray} {pc v u : Nat} (h : xa_by b pc 167) (h1 : xa_by b (pc + 1) v) (h2 : xa_by b (pc + 2) u) : decode b pc = .ok (.goto (Jvm.ClassFile.Reader.signed 16 (v * 256 + u)), 3) := by
  refine xa_dec ((xa_bind (xa_u1 h)).trans ?_)
  exact xa_bind (xa_map (xa_u2 h1 h2))
theorem xa_ifnull {b : ByteArray} {pc v u : Nat} (h : xa_by b pc 198) (h1 : xa_by b (pc + 1) v) (h2 : xa_by b (pc + 2) u) : decode b pc = .ok (.ifnull (Jvm.ClassFile.Reader.signed 16 (v * 256 + u)), 3) := by
  refine xa_dec ((xa_bind (xa_u1 h)).trans ?_)
  exact xa_bind (xa_map (xa_u2 h1 h2))
theorem xa_ifnonnull {b : ByteArray} {pc v u : Nat} (h : xa_by b pc 199) (h1 : xa_by b (pc + 1) v) (h2 : xa_by b (pc + 2) u) : decode b pc = .ok (.ifnonnull (Jvm.ClassFile.Reader.signed 16 (v * 256 + u)), 3) := by
  refine xa_dec ((xa_bind (xa_u1 h)).trans ?_)
  exact xa_bind (xa_map (xa_u2 h1 h2))
theorem xa_ifCond_eq {b : ByteArray} {pc v u : Nat} (h : xa_by b pc 153) (h1 : xa_by b (pc + 1) v) (h2 : xa_by b (pc + 2) u) : decode b pc = .ok (.ifCond .eq (Jvm.ClassFile.Reader.signed 16 (v * 256 + u)), 3) := by
  refine xa_dec ((xa_bind (xa_u1 h)).trans ?_)
  exact xa_bind (xa_map (xa_u2 h1 h2))
theorem xa_ifCond_ne {b : ByteArray} {pc v u : Nat} (h : xa_by b pc 154) (h1 : xa_by b (pc + 1) v) (h2 : xa_by b (pc + 2) u) : decode b pc = .ok (.ifCond .ne (Jvm.ClassFile.Reader.signed 16 (v * 256 + u)), 3) := by
  refine xa_dec ((xa_bind (xa_u1 h)).trans ?_)
  exact xa_bind (xa_map (xa_u2 h1 h2))
theorem xa_ifCond_lt {b : ByteArray} {pc v u : Nat} (h : xa_by b pc 155) (h1 : xa_by b (pc + 1) v) (h2 : xa_by b (pc + 2) u) : decode b pc = .ok (.ifCond .lt (Jvm.ClassFile.Reader.signed 16 (v * 256 + u)), 3) := by
  refine xa_dec ((xa_bind (xa_u1 h)).trans ?_)
  exact xa_bind (xa_map (xa_u2 h1 h2))
theorem xa_ifCond_ge {b : ByteArray} {pc v u : Nat} (h : xa_by b pc 156) (h1 : xa_by b (pc + 1) v) (h2 : xa_by b (pc + 2) u) : decode b pc = .ok (.ifCond .ge (Jvm.ClassFile.Reader.signed 16 (v * 256 + u)), 3) := by
  refine xa_dec ((xa_bind (xa_u1 h)).trans ?_)
  exact xa_bind (xa_map (xa_u2 h1 h2))
theorem xa_ifCond_gt {b : ByteArray} {pc v u : Nat} (h : xa_by b pc 157) (h1 : xa_by b (pc + 1) v) (h2 : xa_by b (pc + 2) u) : decode b pc = .ok (.ifCond .gt (Jvm.ClassFile.Reader.signed 16 (v * 256 + u)), 3) := by
  refine xa_dec ((xa_bind (xa_u1 h)).trans ?_)
  exact xa_bind (xa_map (xa_u2 h1 h2))
theorem xa_ifCond_le {b : ByteArray} {pc v u : Nat} (h : xa_by b pc 158) (h1 : xa_by b (pc + 1) v) (h2 : xa_by b (pc + 2) u) : decode b pc = .ok (.ifCond .le (Jvm.ClassFile.Reader.signed 16 (v * 256 + u)), 3) := by
  refine xa_dec ((xa_bind (xa_u1 h)).trans ?_)
  exact xa_bind (xa_map (xa_u2 h1 h2))
theorem xa_if_icmp_eq {b : ByteArray} {pc v u : Nat} (h : xa_by b pc 159) (h1 : xa_by b (pc + 1) v) (h2 : xa_by b (pc + 2) u) : decode b pc = .ok (.if_icmp .eq (Jvm.ClassFile.Reader.signed 16 (v * 256 + u)), 3) := by
  refine xa_dec ((xa_bind (xa_u1 h)).trans ?_)
  exact xa_bind (xa_map (xa_u2 h1 h2))
theorem xa_if_icmp_ne {b : ByteArray} {pc v u : Nat} (h : xa_by b pc 160) (h1 : xa_by b (pc + 1) v) (h2 : xa_by b (pc + 2) u) : decode b pc = .ok (.if_icmp .ne (Jvm.ClassFile.Reader.signed 16 (v * 256 + u)), 3) := by
  refine xa_dec ((xa_bind (xa_u1 h)).trans ?_)
  exact xa_bind (xa_map (xa_u2 h1 h2))
theorem xa_if_icmp_lt {b : ByteArray} {pc v u : Nat} (h : xa_by b pc 161) (h1 : xa_by b (pc + 1) v) (h2 : xa_by b (pc + 2) u) : decode b pc = .ok (.if_icmp .lt (Jvm.ClassFile.Reader.signed 16 (v * 256 + u)), 3) := by
  refine xa_dec ((xa_bind (xa_u1 h)).trans ?_)
  exact xa_bind (xa_map (xa_u2 h1 h2))
theorem xa_if_icmp_ge {b : ByteArray} {pc v u : Nat} (h : xa_by b pc 162) (h1 : xa_by b (pc + 1) v) (h2 : xa_by b (pc + 2) u) : decode b pc = .ok (.if_icmp .ge (Jvm.ClassFile.Reader.signed 16 (v * 256 + u)), 3) := by
  refine xa_dec ((xa_bind (xa_u1 h)).trans ?_)
  exact xa_bind (xa_map (xa_u2 h1 h2))
theorem xa_if_icmp_gt {b : ByteArray} {pc v u : Nat} (h : xa_by b pc 163) (h1 : xa_by b (pc + 1) v) (h2 : xa_by b (pc + 2) u) : decode b pc = .ok (.if_icmp .gt (Jvm.ClassFile.Reader.signed 16 (v * 256 + u)), 3) := by
  refine xa_dec ((xa_bind (xa_u1 h)).trans ?_)
  exact xa_bind (xa_map (xa_u2 h1 h2))
theorem xa_if_icmp_le {b : ByteArray} {pc v u : Nat} (h : xa_by b pc 164) (h1 : xa_by b (pc + 1) v) (h2 : xa_by b (pc + 2) u) : decode b pc = .ok (.if_icmp .le (Jvm.ClassFile.Reader.signed 16 (v * 256 + u)), 3) := by
  refine xa_dec ((xa_bind (xa_u1 h)).trans ?_)
  exact xa_bind (xa_map (xa_u2 h1 h2))
theorem xa_iinc {b : ByteArray} {pc v u : Nat} (h : xa_by b pc 132) (h1 : xa_by b (pc + 1) v) (h2 : xa_by b (pc + 2) u) : decode b pc = .ok (.iinc v (Jvm.ClassFile.Reader.signed 8 u), 3) := by
  refine xa_dec ((xa_bind (xa_u1 h)).trans ?_)
  refine (xa_bind (xa_u1 h1)).trans ?_
  exact xa_bind (xa_map (xa_u1 h2))
def xa_0 (o : Nat) (bs : List UInt8) : Bool := match bs with
  | x :: _ => Nat.beq x.toNat o
  | [] => false
def xa_1 (o : Nat) (P : Nat → Bool) (bs : List UInt8) : Bool := match bs with
  | x :: y :: _ => Nat.beq x.toNat o && P y.toNat
  | _ => false
def xa_2 (o : Nat) (P : Nat → Nat → Bool) (bs : List UInt8) : Bool := match bs with
  | x :: y :: z :: _ => Nat.beq x.toNat o && P y.toNat z.toNat
  | _ => false
def xa_c (k : Nat) (c : Jvm.ClassFile.Cond) : Nat := match c with
  | .eq => k
  | .ne => k + 1
  | .lt => k + 2
  | .ge => k + 3
  | .gt => k + 4
  | .le => k + 5
theorem xa_hd {b : ByteArray} {pc : Nat} {x : UInt8} {t : List UInt8} (h : b.data.toList.drop pc = x :: t) : xa_by b pc x.toNat ∧ b.data.toList.drop (pc + 1) = t := by
  have hl : pc < b.data.toList.length := by
    rcases Nat.lt_or_ge pc b.data.toList.length with q | q
    · exact q
    · rw [List.drop_eq_nil_of_le q] at h
      cases h
  rw [List.drop_eq_getElem_cons hl] at h
  obtain ⟨h1, h2⟩ := List.cons.inj h
  exact ⟨⟨hl, congrArg UInt8.toNat h1⟩, h2⟩
theorem xa_0_ok {o : Nat} {b : ByteArray} {pc : Nat} (h : xa_0 o (b.data.toList.drop pc) = true) : xa_by b pc o := by
  unfold xa_0 at h
  split at h
  · rename_i x t e
    rw [← Nat.eq_of_beq_eq_true h]
    exact (xa_hd e).1
  · cases h
theorem xa_1_ok {o : Nat} {P : Nat → Bool} {b : ByteArray} {pc : Nat} (h : xa_1 o P (b.data.toList.drop pc) = true) : xa_by b pc o ∧ ∃ v, xa_by b (pc + 1) v ∧ P v = true := by
  unfold xa_1 at h
  split at h
  · rename_i x y t e
    obtain ⟨a1, a2⟩ := Bool.and_eq_true_iff.mp h
    rw [← Nat.eq_of_beq_eq_true a1]
    obtain ⟨b1, b2⟩ := xa_hd e
    exact ⟨b1, _, (xa_hd b2).1, a2⟩
  · cases h
theorem xa_2_ok {o : Nat} {P : Nat → Nat → Bool} {b : ByteArray} {pc : Nat} (h : xa_2 o P (b.data.toList.drop pc) = true) : xa_by b pc o ∧ ∃ v u, xa_by b (pc + 1) v ∧ xa_by b (pc + 2) u ∧ P v u = true := by
  unfold xa_2 at h
  split at h
  · rename_i x y z t e
    obtain ⟨a1, a2⟩ := Bool.and_eq_true_iff.mp h
    rw [← Nat.eq_of_beq_eq_true a1]
    obtain ⟨b1, b2⟩ := xa_hd e
    obtain ⟨c1, c2⟩ := xa_hd b2
    exact ⟨b1, _, _, c1, (xa_hd c2).1, a2⟩
  · cases h
/-- the bytes that come are those of an instruction -/
def xa_k (ins : Instr) (len : Nat) (bs : List UInt8) : Bool := match ins with
  | .aaload => xa_0 50 bs && Nat.beq len 1
  | .aastore => xa_0 83 bs && Nat.beq len 1
  | .aconst_null => xa_0 1 bs && Nat.beq len 1
  | .areturn => xa_0 176 bs && Nat.beq len 1
  | .arraylength => xa_0 190 bs && Nat.beq len 1
  | .athrow => xa_0 191 bs && Nat.beq len 1
  | .baload => xa_0 51 bs && Nat.beq len 1
  | .bastore => xa_0 84 bs && Nat.beq len 1
  | .caload => xa_0 52 bs && Nat.beq len 1
  | .castore => xa_0 85 bs && Nat.beq len 1
  | .dup => xa_0 89 bs && Nat.beq len 1
  | .dup2 => xa_0 92 bs && Nat.beq len 1
  | .dup_x1 => xa_0 90 bs && Nat.beq len 1
  | .i2b => xa_0 145 bs && Nat.beq len 1
  | .i2c => xa_0 146 bs && Nat.beq len 1
  | .i2l => xa_0 133 bs && Nat.beq len 1
  | .i2s => xa_0 147 bs && Nat.beq len 1
  | .iadd => xa_0 96 bs && Nat.beq len 1
  | .iaload => xa_0 46 bs && Nat.beq len 1
  | .iand => xa_0 126 bs && Nat.beq len 1
  | .iastore => xa_0 79 bs && Nat.beq len 1
  | .idiv => xa_0 108 bs && Nat.beq len 1
  | .imul => xa_0 104 bs && Nat.beq len 1
  | .ineg => xa_0 116 bs && Nat.beq len 1
  | .ior => xa_0 128 bs && Nat.beq len 1
  | .irem => xa_0 112 bs && Nat.beq len 1
  | .ireturn => xa_0 172 bs && Nat.beq len 1
  | .ishl => xa_0 120 bs && Nat.beq len 1
  | .ishr => xa_0 122 bs && Nat.beq len 1
  | .isub => xa_0 100 bs && Nat.beq len 1
  | .iushr => xa_0 124 bs && Nat.beq len 1
  | .ixor => xa_0 130 bs && Nat.beq len 1
  | .l2i => xa_0 136 bs && Nat.beq len 1
  | .ladd => xa_0 97 bs && Nat.beq len 1
  | .land => xa_0 127 bs && Nat.beq len 1
  | .lcmp => xa_0 148 bs && Nat.beq len 1
  | .ldiv => xa_0 109 bs && Nat.beq len 1
  | .lmul => xa_0 105 bs && Nat.beq len 1
  | .lneg => xa_0 117 bs && Nat.beq len 1
  | .lor => xa_0 129 bs && Nat.beq len 1
  | .lrem => xa_0 113 bs && Nat.beq len 1
  | .lreturn => xa_0 173 bs && Nat.beq len 1
  | .lshl => xa_0 121 bs && Nat.beq len 1
  | .lshr => xa_0 123 bs && Nat.beq len 1
  | .lsub => xa_0 101 bs && Nat.beq len 1
  | .pop => xa_0 87 bs && Nat.beq len 1
  | .pop2 => xa_0 88 bs && Nat.beq len 1
  | .return_ => xa_0 177 bs && Nat.beq len 1
  | .iload_n i => xa_0 (26 + i.val) bs && Nat.beq len 1
  | .lload_n i => xa_0 (30 + i.val) bs && Nat.beq len 1
  | .aload_n i => xa_0 (42 + i.val) bs && Nat.beq len 1
  | .istore_n i => xa_0 (59 + i.val) bs && Nat.beq len 1
  | .lstore_n i => xa_0 (63 + i.val) bs && Nat.beq len 1
  | .astore_n i => xa_0 (75 + i.val) bs && Nat.beq len 1
  | .iconst n => decide (-1 ≤ n ∧ n ≤ 5) && xa_0 (n + 3).toNat bs && Nat.beq len 1
  | .lconst n => xa_0 (9 + n.val) bs && Nat.beq len 1
  | .iload k => xa_1 21 (fun v => Nat.beq v k) bs && Nat.beq len 2
  | .lload k => xa_1 22 (fun v => Nat.beq v k) bs && Nat.beq len 2
  | .aload k => xa_1 25 (fun v => Nat.beq v k) bs && Nat.beq len 2
  | .istore k => xa_1 54 (fun v => Nat.beq v k) bs && Nat.beq len 2
  | .lstore k => xa_1 55 (fun v => Nat.beq v k) bs && Nat.beq len 2
  | .astore k => xa_1 58 (fun v => Nat.beq v k) bs && Nat.beq len 2
  | .ldc k => xa_1 18 (fun v => Nat.beq v k) bs && Nat.beq len 2
  | .bipush k => xa_1 16 (fun v => decide ((Jvm.ClassFile.Reader.signed 8 v) = k)) bs && Nat.beq len 2
  | .ldc_w k => xa_2 19 (fun v u => Nat.beq (v * 256 + u) k) bs && Nat.beq len 3
  | .ldc2_w k => xa_2 20 (fun v u => Nat.beq (v * 256 + u) k) bs && Nat.beq len 3
  | .getstatic k => xa_2 178 (fun v u => Nat.beq (v * 256 + u) k) bs && Nat.beq len 3
  | .putstatic k => xa_2 179 (fun v u => Nat.beq (v * 256 + u) k) bs && Nat.beq len 3
  | .getfield k => xa_2 180 (fun v u => Nat.beq (v * 256 + u) k) bs && Nat.beq len 3
  | .putfield k => xa_2 181 (fun v u => Nat.beq (v * 256 + u) k) bs && Nat.beq len 3
  | .invokevirtual k => xa_2 182 (fun v u => Nat.beq (v * 256 + u) k) bs && Nat.beq len 3
  | .invokespecial k => xa_2 183 (fun v u => Nat.beq (v * 256 + u) k) bs && Nat.beq len 3
  | .invokestatic k => xa_2 184 (fun v u => Nat.beq (v * 256 + u) k) bs && Nat.beq len 3
  | .new k => xa_2 187 (fun v u => Nat.beq (v * 256 + u) k) bs && Nat.beq len 3
  | .anewarray k => xa_2 189 (fun v u => Nat.beq (v * 256 + u) k) bs && Nat.beq len 3
  | .checkcast k => xa_2 192 (fun v u => Nat.beq (v * 256 + u) k) bs && Nat.beq len 3
  | .sipush k => xa_2 17 (fun v u => decide ((Jvm.ClassFile.Reader.signed 16 (v * 256 + u)) = k)) bs && Nat.beq len 3
  | .goto k => xa_2 167 (fun v u => decide ((Jvm.ClassFile.Reader.signed 16 (v * 256 + u)) = k)) bs && Nat.beq len 3
  | .ifnull k => xa_2 198 (fun v u => decide ((Jvm.ClassFile.Reader.signed 16 (v * 256 + u)) = k)) bs && Nat.beq len 3
  | .ifnonnull k => xa_2 199 (fun v u => decide ((Jvm.ClassFile.Reader.signed 16 (v * 256 + u)) = k)) bs && Nat.beq len 3
  | .ifCond c k => xa_2 (xa_c 153 c) (fun v u => decide ((Jvm.ClassFile.Reader.signed 16 (v * 256 + u)) = k)) bs && Nat.beq len 3
  | .if_icmp c k => xa_2 (xa_c 159 c) (fun v u => decide ((Jvm.ClassFile.Reader.signed 16 (v * 256 + u)) = k)) bs && Nat.beq len 3
  | .iinc i k => xa_2 132 (fun v u => Nat.beq v i && decide ((Jvm.ClassFile.Reader.signed 8 u) = k)) bs && Nat.beq len 3
  | _ => false
set_option maxHeartbeats 4000000 in
theorem xa_k_ok {ins : Instr} {len : Nat} {b : ByteArray} {pc : Nat} (h : xa_k ins len (b.data.toList.drop pc) = true) : decode b pc = .ok (ins, len) := by
  cases ins with
  | aaload =>
    obtain ⟨h, hn⟩ := Bool.and_eq_true_iff.mp h
    rw [Nat.eq_of_beq_eq_true hn]
    clear hn
    exact xa_aaload (xa_0_ok h)
  | aastore =>
    obtain ⟨h, hn⟩ := Bool.and_eq_true_iff.mp h
    rw [Nat.eq_of_beq_eq_true hn]
    clear hn
    exact xa_aastore (xa_0_ok h)
  | aconst_null =>
    obtain ⟨h, hn⟩ := Bool.and_eq_true_iff.mp h
    rw [Nat.eq_of_beq_eq_true hn]
    clear hn
    exact xa_aconst_null (xa_0_ok h)
  | areturn =>
    obtain ⟨h, hn⟩ := Bool.and_eq_true_iff.mp h
    rw [Nat.eq_of_beq_eq_true hn]
    clear hn
    exact xa_areturn (xa_0_ok h)
  | arraylength =>
    obtain ⟨h, hn⟩ := Bool.and_eq_true_iff.mp h
    rw [Nat.eq_of_beq_eq_true hn]
    clear hn
    exact xa_arraylength (xa_0_ok h)
  | athrow =>
    obtain ⟨h, hn⟩ := Bool.and_eq_true_iff.mp h
    rw [Nat.eq_of_beq_eq_true hn]
    clear hn
    exact xa_athrow (xa_0_ok h)
  | baload =>
    obtain ⟨h, hn⟩ := Bool.and_eq_true_iff.mp h
    rw [Nat.eq_of_beq_eq_true hn]
    clear hn
    exact xa_baload (xa_0_ok h)
  | bastore =>
    obtain ⟨h, hn⟩ := Bool.and_eq_true_iff.mp h
    rw [Nat.eq_of_beq_eq_true hn]
    clear hn
    exact xa_bastore (xa_0_ok h)
  | caload =>
    obtain ⟨h, hn⟩ := Bool.and_eq_true_iff.mp h
    rw [Nat.eq_of_beq_eq_true hn]
    clear hn
    exact xa_caload (xa_0_ok h)
  | castore =>
    obtain ⟨h, hn⟩ := Bool.and_eq_true_iff.mp h
    rw [Nat.eq_of_beq_eq_true hn]
    clear hn
    exact xa_castore (xa_0_ok h)
  | dup =>
    obtain ⟨h, hn⟩ := Bool.and_eq_true_iff.mp h
    rw [Nat.eq_of_beq_eq_true hn]
    clear hn
    exact xa_dup (xa_0_ok h)
  | dup2 =>
    obtain ⟨h, hn⟩ := Bool.and_eq_true_iff.mp h
    rw [Nat.eq_of_beq_eq_true hn]
    clear hn
    exact xa_dup2 (xa_0_ok h)
  | dup_x1 =>
    obtain ⟨h, hn⟩ := Bool.and_eq_true_iff.mp h
    rw [Nat.eq_of_beq_eq_true hn]
    clear hn
    exact xa_dup_x1 (xa_0_ok h)
  | i2b =>
    obtain ⟨h, hn⟩ := Bool.and_eq_true_iff.mp h
    rw [Nat.eq_of_beq_eq_true hn]
    clear hn
    exact xa_i2b (xa_0_ok h)
  | i2c =>
    obtain ⟨h, hn⟩ := Bool.and_eq_true_iff.mp h
    rw [Nat.eq_of_beq_eq_true hn]
    clear hn
    exact xa_i2c (xa_0_ok h)
  | i2l =>
    obtain ⟨h, hn⟩ := Bool.and_eq_true_iff.mp h
    rw [Nat.eq_of_beq_eq_true hn]
    clear hn
    exact xa_i2l (xa_0_ok h)
  | i2s =>
    obtain ⟨h, hn⟩ := Bool.and_eq_true_iff.mp h
    rw [Nat.eq_of_beq_eq_true hn]
    clear hn
    exact xa_i2s (xa_0_ok h)
  | iadd =>
    obtain ⟨h, hn⟩ := Bool.and_eq_true_iff.mp h
    rw [Nat.eq_of_beq_eq_true hn]
    clear hn
    exact xa_iadd (xa_0_ok h)
  | iaload =>
    obtain ⟨h, hn⟩ := Bool.and_eq_true_iff.mp h
    rw [Nat.eq_of_beq_eq_true hn]
    clear hn
    exact xa_iaload (xa_0_ok h)
  | iand =>
    obtain ⟨h, hn⟩ := Bool.and_eq_true_iff.mp h
    rw [Nat.eq_of_beq_eq_true hn]
    clear hn
    exact xa_iand (xa_0_ok h)
  | iastore =>
    obtain ⟨h, hn⟩ := Bool.and_eq_true_iff.mp h
    rw [Nat.eq_of_beq_eq_true hn]
    clear hn
    exact xa_iastore (xa_0_ok h)
  | idiv =>
    obtain ⟨h, hn⟩ := Bool.and_eq_true_iff.mp h
    rw [Nat.eq_of_beq_eq_true hn]
    clear hn
    exact xa_idiv (xa_0_ok h)
  | imul =>
    obtain ⟨h, hn⟩ := Bool.and_eq_true_iff.mp h
    rw [Nat.eq_of_beq_eq_true hn]
    clear hn
    exact xa_imul (xa_0_ok h)
  | ineg =>
    obtain ⟨h, hn⟩ := Bool.and_eq_true_iff.mp h
    rw [Nat.eq_of_beq_eq_true hn]
    clear hn
    exact xa_ineg (xa_0_ok h)
  | ior =>
    obtain ⟨h, hn⟩ := Bool.and_eq_true_iff.mp h
    rw [Nat.eq_of_beq_eq_true hn]
    clear hn
    exact xa_ior (xa_0_ok h)
  | irem =>
    obtain ⟨h, hn⟩ := Bool.and_eq_true_iff.mp h
    rw [Nat.eq_of_beq_eq_true hn]
    clear hn
    exact xa_irem (xa_0_ok h)
  | ireturn =>
    obtain ⟨h, hn⟩ := Bool.and_eq_true_iff.mp h
    rw [Nat.eq_of_beq_eq_true hn]
    clear hn
    exact xa_ireturn (xa_0_ok h)
  | ishl =>
    obtain ⟨h, hn⟩ := Bool.and_eq_true_iff.mp h
    rw [Nat.eq_of_beq_eq_true hn]
    clear hn
    exact xa_ishl (xa_0_ok h)
  | ishr =>
    obtain ⟨h, hn⟩ := Bool.and_eq_true_iff.mp h
    rw [Nat.eq_of_beq_eq_true hn]
    clear hn
    exact xa_ishr (xa_0_ok h)
  | isub =>
    obtain ⟨h, hn⟩ := Bool.and_eq_true_iff.mp h
    rw [Nat.eq_of_beq_eq_true hn]
    clear hn
    exact xa_isub (xa_0_ok h)
  | iushr =>
    obtain ⟨h, hn⟩ := Bool.and_eq_true_iff.mp h
    rw [Nat.eq_of_beq_eq_true hn]
    clear hn
    exact xa_iushr (xa_0_ok h)
  | ixor =>
    obtain ⟨h, hn⟩ := Bool.and_eq_true_iff.mp h
    rw [Nat.eq_of_beq_eq_true hn]
    clear hn
    exact xa_ixor (xa_0_ok h)
  | l2i =>
    obtain ⟨h, hn⟩ := Bool.and_eq_true_iff.mp h
    rw [Nat.eq_of_beq_eq_true hn]
    clear hn
    exact xa_l2i (xa_0_ok h)
  | ladd =>
    obtain ⟨h, hn⟩ := Bool.and_eq_true_iff.mp h
    rw [Nat.eq_of_beq_eq_true hn]
    clear hn
    exact xa_ladd (xa_0_ok h)
  | land =>
    obtain ⟨h, hn⟩ := Bool.and_eq_true_iff.mp h
    rw [Nat.eq_of_beq_eq_true hn]
    clear hn
    exact xa_land (xa_0_ok h)
  | lcmp =>
    obtain ⟨h, hn⟩ := Bool.and_eq_true_iff.mp h
    rw [Nat.eq_of_beq_eq_true hn]
    clear hn
    exact xa_lcmp (xa_0_ok h)
  | ldiv =>
    obtain ⟨h, hn⟩ := Bool.and_eq_true_iff.mp h
    rw [Nat.eq_of_beq_eq_true hn]
    clear hn
    exact xa_ldiv (xa_0_ok h)
  | lmul =>
    obtain ⟨h, hn⟩ := Bool.and_eq_true_iff.mp h
    rw [Nat.eq_of_beq_eq_true hn]
    clear hn
    exact xa_lmul (xa_0_ok h)
  | lneg =>
    obtain ⟨h, hn⟩ := Bool.and_eq_true_iff.mp h
    rw [Nat.eq_of_beq_eq_true hn]
    clear hn
    exact xa_lneg (xa_0_ok h)
  | lor =>
    obtain ⟨h, hn⟩ := Bool.and_eq_true_iff.mp h
    rw [Nat.eq_of_beq_eq_true hn]
    clear hn
    exact xa_lor (xa_0_ok h)
  | lrem =>
    obtain ⟨h, hn⟩ := Bool.and_eq_true_iff.mp h
    rw [Nat.eq_of_beq_eq_true hn]
    clear hn
    exact xa_lrem (xa_0_ok h)
  | lreturn =>
    obtain ⟨h, hn⟩ := Bool.and_eq_true_iff.mp h
    rw [Nat.eq_of_beq_eq_true hn]
    clear hn
    exact xa_lreturn (xa_0_ok h)
  | lshl =>
    obtain ⟨h, hn⟩ := Bool.and_eq_true_iff.mp h
    rw [Nat.eq_of_beq_eq_true hn]
    clear hn
    exact xa_lshl (xa_0_ok h)
  | lshr =>
    obtain ⟨h, hn⟩ := Bool.and_eq_true_iff.mp h
    rw [Nat.eq_of_beq_eq_true hn]
    clear hn
    exact xa_lshr (xa_0_ok h)
  | lsub =>
    obtain ⟨h, hn⟩ := Bool.and_eq_true_iff.mp h
    rw [Nat.eq_of_beq_eq_true hn]
    clear hn
    exact xa_lsub (xa_0_ok h)
  | pop =>
    obtain ⟨h, hn⟩ := Bool.and_eq_true_iff.mp h
    rw [Nat.eq_of_beq_eq_true hn]
    clear hn
    exact xa_pop (xa_0_ok h)
  | pop2 =>
    obtain ⟨h, hn⟩ := Bool.and_eq_true_iff.mp h
    rw [Nat.eq_of_beq_eq_true hn]
    clear hn
    exact xa_pop2 (xa_0_ok h)
  | return_ =>
    obtain ⟨h, hn⟩ := Bool.and_eq_true_iff.mp h
    rw [Nat.eq_of_beq_eq_true hn]
    clear hn
    exact xa_return_ (xa_0_ok h)
  | iload_n i =>
    obtain ⟨h, hn⟩ := Bool.and_eq_true_iff.mp h
    rw [Nat.eq_of_beq_eq_true hn]
    clear hn
    rcases i with ⟨i, hi⟩
    rcases (show i = 0 ∨ i = 1 ∨ i = 2 ∨ i = 3 by omega) with rfl | rfl | rfl | rfl
    · exact xa_iload_n0 (xa_0_ok h)
    · exact xa_iload_n1 (xa_0_ok h)
    · exact xa_iload_n2 (xa_0_ok h)
    · exact xa_iload_n3 (xa_0_ok h)
  | lload_n i =>
    obtain ⟨h, hn⟩ := Bool.and_eq_true_iff.mp h
    rw [Nat.eq_of_beq_eq_true hn]
    clear hn
    rcases i with ⟨i, hi⟩
    rcases (show i = 0 ∨ i = 1 ∨ i = 2 ∨ i = 3 by omega) with rfl | rfl | rfl | rfl
    · exact xa_lload_n0 (xa_0_ok h)
    · exact xa_lload_n1 (xa_0_ok h)
    · exact xa_lload_n2 (xa_0_ok h)
    · exact xa_lload_n3 (xa_0_ok h)
  | aload_n i =>
    obtain ⟨h, hn⟩ := Bool.and_eq_true_iff.mp h
    rw [Nat.eq_of_beq_eq_true hn]
    clear hn
    rcases i with ⟨i, hi⟩
    rcases (show i = 0 ∨ i = 1 ∨ i = 2 ∨ i = 3 by omega) with rfl | rfl | rfl | rfl
    · exact xa_aload_n0 (xa_0_ok h)
    · exact xa_aload_n1 (xa_0_ok h)
    · exact xa_aload_n2 (xa_0_ok h)
    · exact xa_aload_n3 (xa_0_ok h)
  | istore_n i =>
    obtain ⟨h, hn⟩ := Bool.and_eq_true_iff.mp h
    rw [Nat.eq_of_beq_eq_true hn]
    clear hn
    rcases i with ⟨i, hi⟩
    rcases (show i = 0 ∨ i = 1 ∨ i = 2 ∨ i = 3 by omega) with rfl | rfl | rfl | rfl
    · exact xa_istore_n0 (xa_0_ok h)
    · exact xa_istore_n1 (xa_0_ok h)
    · exact xa_istore_n2 (xa_0_ok h)
    · exact xa_istore_n3 (xa_0_ok h)
  | lstore_n i =>
    obtain ⟨h, hn⟩ := Bool.and_eq_true_iff.mp h
    rw [Nat.eq_of_beq_eq_true hn]
    clear hn
    rcases i with ⟨i, hi⟩
    rcases (show i = 0 ∨ i = 1 ∨ i = 2 ∨ i = 3 by omega) with rfl | rfl | rfl | rfl
    · exact xa_lstore_n0 (xa_0_ok h)
    · exact xa_lstore_n1 (xa_0_ok h)
    · exact xa_lstore_n2 (xa_0_ok h)
    · exact xa_lstore_n3 (xa_0_ok h)
  | astore_n i =>
    obtain ⟨h, hn⟩ := Bool.and_eq_true_iff.mp h
    rw [Nat.eq_of_beq_eq_true hn]
    clear hn
    rcases i with ⟨i, hi⟩
    rcases (show i = 0 ∨ i = 1 ∨ i = 2 ∨ i = 3 by omega) with rfl | rfl | rfl | rfl
    · exact xa_astore_n0 (xa_0_ok h)
    · exact xa_astore_n1 (xa_0_ok h)
    · exact xa_astore_n2 (xa_0_ok h)
    · exact xa_astore_n3 (xa_0_ok h)
  | iconst n =>
    obtain ⟨h, hn⟩ := Bool.and_eq_true_iff.mp h
    rw [Nat.eq_of_beq_eq_true hn]
    clear hn
    obtain ⟨h9, h⟩ := Bool.and_eq_true_iff.mp h
    have h8 := of_decide_eq_true h9
    rcases (show n = -1 ∨ n = 0 ∨ n = 1 ∨ n = 2 ∨ n = 3 ∨ n = 4 ∨ n = 5 by omega) with rfl | rfl | rfl | rfl | rfl | rfl | rfl
    · exact xa_iconstm1 (xa_0_ok h)
    · exact xa_iconst0 (xa_0_ok h)
    · exact xa_iconst1 (xa_0_ok h)
    · exact xa_iconst2 (xa_0_ok h)
    · exact xa_iconst3 (xa_0_ok h)
    · exact xa_iconst4 (xa_0_ok h)
    · exact xa_iconst5 (xa_0_ok h)
  | lconst n =>
    obtain ⟨h, hn⟩ := Bool.and_eq_true_iff.mp h
    rw [Nat.eq_of_beq_eq_true hn]
    clear hn
    rcases n with ⟨i, hi⟩
    rcases (show i = 0 ∨ i = 1 by omega) with rfl | rfl
    · exact xa_lconst0 (xa_0_ok h)
    · exact xa_lconst1 (xa_0_ok h)
  | iload k =>
    obtain ⟨h, hn⟩ := Bool.and_eq_true_iff.mp h
    rw [Nat.eq_of_beq_eq_true hn]
    clear hn
    obtain ⟨h1, v, h2, h3⟩ := xa_1_ok h
    rw [← Nat.eq_of_beq_eq_true h3]
    exact xa_iload h1 h2
  | lload k =>
    obtain ⟨h, hn⟩ := Bool.and_eq_true_iff.mp h
    rw [Nat.eq_of_beq_eq_true hn]
    clear hn
    obtain ⟨h1, v, h2, h3⟩ := xa_1_ok h
    rw [← Nat.eq_of_beq_eq_true h3]
    exact xa_lload h1 h2
  | aload k =>
    obtain ⟨h, hn⟩ := Bool.and_eq_true_iff.mp h
    rw [Nat.eq_of_beq_eq_true hn]
    clear hn
    obtain ⟨h1, v, h2, h3⟩ := xa_1_ok h
    rw [← Nat.eq_of_beq_eq_true h3]
    exact xa_aload h1 h2
  | istore k =>
    obtain ⟨h, hn⟩ := Bool.and_eq_true_iff.mp h
    rw [Nat.eq_of_beq_eq_true hn]
    clear hn
    obtain ⟨h1, v, h2, h3⟩ := xa_1_ok h
    rw [← Nat.eq_of_beq_eq_true h3]
    exact xa_istore h1 h2
  | lstore k =>
    obtain ⟨h, hn⟩ := Bool.and_eq_true_iff.mp h
    rw [Nat.eq_of_beq_eq_true hn]
    clear hn
    obtain ⟨h1, v, h2, h3⟩ := xa_1_ok h
    rw [← Nat.eq_of_beq_eq_true h3]
    exact xa_lstore h1 h2
  | astore k =>
    obtain ⟨h, hn⟩ := Bool.and_eq_true_iff.mp h
    rw [Nat.eq_of_beq_eq_true hn]
    clear hn
    obtain ⟨h1, v, h2, h3⟩ := xa_1_ok h
    rw [← Nat.eq_of_beq_eq_true h3]
    exact xa_astore h1 h2
  | ldc k =>
    obtain ⟨h, hn⟩ := Bool.and_eq_true_iff.mp h
    rw [Nat.eq_of_beq_eq_true hn]
    clear hn
    obtain ⟨h1, v, h2, h3⟩ := xa_1_ok h
    rw [← Nat.eq_of_beq_eq_true h3]
    exact xa_ldc h1 h2
  | bipush k =>
    obtain ⟨h, hn⟩ := Bool.and_eq_true_iff.mp h
    rw [Nat.eq_of_beq_eq_true hn]
    clear hn
    obtain ⟨h1, v, h2, h3⟩ := xa_1_ok h
    rw [← of_decide_eq_true h3]
    exact xa_bipush h1 h2
  | ldc_w k =>
    obtain ⟨h, hn⟩ := Bool.and_eq_true_iff.mp h
    rw [Nat.eq_of_beq_eq_true hn]
    clear hn
    obtain ⟨h1, v, u, h2, h4, h3⟩ := xa_2_ok h
    rw [← Nat.eq_of_beq_eq_true h3]
    exact xa_ldc_w h1 h2 h4
  | ldc2_w k =>
    obtain ⟨h, hn⟩ := Bool.and_eq_true_iff.mp h
    rw [Nat.eq_of_beq_eq_true hn]
    clear hn
    obtain ⟨h1, v, u, h2, h4, h3⟩ := xa_2_ok h
    rw [← Nat.eq_of_beq_eq_true h3]
    exact xa_ldc2_w h1 h2 h4
  | getstatic k =>
    obtain ⟨h, hn⟩ := Bool.and_eq_true_iff.mp h
    rw [Nat.eq_of_beq_eq_true hn]
    clear hn
    obtain ⟨h1, v, u, h2, h4, h3⟩ := xa_2_ok h
    rw [← Nat.eq_of_beq_eq_true h3]
    exact xa_getstatic h1 h2 h4
  | putstatic k =>
    obtain ⟨h, hn⟩ := Bool.and_eq_true_iff.mp h
    rw [Nat.eq_of_beq_eq_true hn]
    clear hn
    obtain ⟨h1, v, u, h2, h4, h3⟩ := xa_2_ok h
    rw [← Nat.eq_of_beq_eq_true h3]
    exact xa_putstatic h1 h2 h4
  | getfield k =>
    obtain ⟨h, hn⟩ := Bool.and_eq_true_iff.mp h
    rw [Nat.eq_of_beq_eq_true hn]
    clear hn
    obtain ⟨h1, v, u, h2, h4, h3⟩ := xa_2_ok h
    rw [← Nat.eq_of_beq_eq_true h3]
    exact xa_getfield h1 h2 h4
  | putfield k =>
    obtain ⟨h, hn⟩ := Bool.and_eq_true_iff.mp h
    rw [Nat.eq_of_beq_eq_true hn]
    clear hn
    obtain ⟨h1, v, u, h2, h4, h3⟩ := xa_2_ok h
    rw [← Nat.eq_of_beq_eq_true h3]
    exact xa_putfield h1 h2 h4
  | invokevirtual k =>
    obtain ⟨h, hn⟩ := Bool.and_eq_true_iff.mp h
    rw [Nat.eq_of_beq_eq_true hn]
    clear hn
    obtain ⟨h1, v, u, h2, h4, h3⟩ := xa_2_ok h
    rw [← Nat.eq_of_beq_eq_true h3]
    exact xa_invokevirtual h1 h2 h4
  | invokespecial k =>
    obtain ⟨h, hn⟩ := Bool.and_eq_true_iff.mp h
    rw [Nat.eq_of_beq_eq_true hn]
    clear hn
    obtain ⟨h1, v, u, h2, h4, h3⟩ := xa_2_ok h
    rw [← Nat.eq_of_beq_eq_true h3]
    exact xa_invokespecial h1 h2 h4
  | invokestatic k =>
    obtain ⟨h, hn⟩ := Bool.and_eq_true_iff.mp h
    rw [Nat.eq_of_beq_eq_true hn]
    clear hn
    obtain ⟨h1, v, u, h2, h4, h3⟩ := xa_2_ok h
    rw [← Nat.eq_of_beq_eq_true h3]
    exact xa_invokestatic h1 h2 h4
  | new k =>
    obtain ⟨h, hn⟩ := Bool.and_eq_true_iff.mp h
    rw [Nat.eq_of_beq_eq_true hn]
    clear hn
    obtain ⟨h1, v, u, h2, h4, h3⟩ := xa_2_ok h
    rw [← Nat.eq_of_beq_eq_true h3]
    exact xa_new h1 h2 h4
  | anewarray k =>
    obtain ⟨h, hn⟩ := Bool.and_eq_true_iff.mp h
    rw [Nat.eq_of_beq_eq_true hn]
    clear hn
    obtain ⟨h1, v, u, h2, h4, h3⟩ := xa_2_ok h
    rw [← Nat.eq_of_beq_eq_true h3]
    exact xa_anewarray h1 h2 h4
  | checkcast k =>
    obtain ⟨h, hn⟩ := Bool.and_eq_true_iff.mp h
    rw [Nat.eq_of_beq_eq_true hn]
    clear hn
    obtain ⟨h1, v, u, h2, h4, h3⟩ := xa_2_ok h
    rw [← Nat.eq_of_beq_eq_true h3]
    exact xa_checkcast h1 h2 h4
  | sipush k =>
    obtain ⟨h, hn⟩ := Bool.and_eq_true_iff.mp h
    rw [Nat.eq_of_beq_eq_true hn]
    clear hn
    obtain ⟨h1, v, u, h2, h4, h3⟩ := xa_2_ok h
    rw [← of_decide_eq_true h3]
    exact xa_sipush h1 h2 h4
  | goto k =>
    obtain ⟨h, hn⟩ := Bool.and_eq_true_iff.mp h
    rw [Nat.eq_of_beq_eq_true hn]
    clear hn
    obtain ⟨h1, v, u, h2, h4, h3⟩ := xa_2_ok h
    rw [← of_decide_eq_true h3]
    exact xa_goto h1 h2 h4
  | ifnull k =>
    obtain ⟨h, hn⟩ := Bool.and_eq_true_iff.mp h
    rw [Nat.eq_of_beq_eq_true hn]
    clear hn
    obtain ⟨h1, v, u, h2, h4, h3⟩ := xa_2_ok h
    rw [← of_decide_eq_true h3]
    exact xa_ifnull h1 h2 h4
  | ifnonnull k =>
    obtain ⟨h, hn⟩ := Bool.and_eq_true_iff.mp h
    rw [Nat.eq_of_beq_eq_true hn]
    clear hn
    obtain ⟨h1, v, u, h2, h4, h3⟩ := xa_2_ok h
    rw [← of_decide_eq_true h3]
    exact xa_ifnonnull h1 h2 h4
  | ifCond c k =>
    obtain ⟨h, hn⟩ := Bool.and_eq_true_iff.mp h
    rw [Nat.eq_of_beq_eq_true hn]
    clear hn
    obtain ⟨h1, v, u, h2, h4, h3⟩ := xa_2_ok h
    rw [← of_decide_eq_true h3]
    cases c
    · exact xa_ifCond_eq h1 h2 h4
    · exact xa_ifCond_ne h1 h2 h4
    · exact xa_ifCond_lt h1 h2 h4
    · exact xa_ifCond_ge h1 h2 h4
    · exact xa_ifCond_gt h1 h2 h4
    · exact xa_ifCond_le h1 h2 h4
  | if_icmp c k =>
    obtain ⟨h, hn⟩ := Bool.and_eq_true_iff.mp h
    rw [Nat.eq_of_beq_eq_true hn]
    clear hn
    obtain ⟨h1, v, u, h2, h4, h3⟩ := xa_2_ok h
    rw [← of_decide_eq_true h3]
    cases c
    · exact xa_if_icmp_eq h1 h2 h4
    · exact xa_if_icmp_ne h1 h2 h4
    · exact xa_if_icmp_lt h1 h2 h4
    · exact xa_if_icmp_ge h1 h2 h4
    · exact xa_if_icmp_gt h1 h2 h4
    · exact xa_if_icmp_le h1 h2 h4
  | iinc i k =>
    obtain ⟨h, hn⟩ := Bool.and_eq_true_iff.mp h
    rw [Nat.eq_of_beq_eq_true hn]
    clear hn
    obtain ⟨h1, v, u, h2, h4, h3⟩ := xa_2_ok h
    obtain ⟨h5, h6⟩ := Bool.and_eq_true_iff.mp h3
    rw [← of_decide_eq_true h6, ← Nat.eq_of_beq_eq_true h5]
    exact xa_iinc h1 h2 h4
  | _ => exact absurd (show (false : Bool) = true from h) Bool.false_ne_true
/-- one walk: each instruction by its bytes, or (what has no row above) decoded as it stands -/
def xa_w (b : ByteArray) : List (Nat × Instr × Nat) → Nat → List UInt8 → Bool
  | [], _, _ => true
  | q :: r, pc, bs => Nat.ble pc q.1 && (xa_k q.2.1 q.2.2 (bs.drop (q.1 - pc)) || decide (decode b q.1 = .ok (q.2.1, q.2.2))) && xa_w b r q.1 (bs.drop (q.1 - pc))
theorem xa_w_ok {b : ByteArray} : ∀ (L : List (Nat × Instr × Nat)) (pc : Nat), xa_w b L pc (b.data.toList.drop pc) = true → L.all (fun q => decide (decode b q.1 = .ok (q.2.1, q.2.2))) = true
  | [], _, _ => rfl
  | q :: r, pc, h => by
    unfold xa_w at h
    obtain ⟨h1, h2⟩ := Bool.and_eq_true_iff.mp h
    obtain ⟨h3, h4⟩ := Bool.and_eq_true_iff.mp h1
    have e := Nat.le_of_ble_eq_true h3
    have ed : (b.data.toList.drop pc).drop (q.1 - pc) = b.data.toList.drop q.1 := by
      rw [List.drop_drop]
      congr 1
      omega
    rw [ed] at h2 h4
    have ih := xa_w_ok r q.1 h2
    rw [List.all_cons, ih, Bool.and_true]
    rcases Bool.or_eq_true_iff.mp h4 with h5 | h5
    · exact decide_eq_true (xa_k_ok h5)
    · exact h5
def xa_g (b : ByteArray) (L : List (Nat × Instr × Nat)) : Bool := match L with
  | [] => true
  | q :: _ => xa_w b L q.1 (b.data.toList.drop q.1)
theorem xa_g_ok {b : ByteArray} {L : List (Nat × Instr × Nat)} (h : xa_g b L = true) : L.all (fun q => decide (decode b q.1 = .ok (q.2.1, q.2.2))) = true := by
  unfold xa_g at h
  split at h
  · rfl
  · exact xa_w_ok _ _ h
end
