noncomputable section
/-! wires that were told: the same on both sides -/
def rK8 (c k : Int) : Prop := c = 15
def rM8 (c k : Int) : Prop := c = 318
def rks8 (w w' : eW) : Prop := ∀ c k, rK8 c k → w' c k = w c k
def rms8 (w w' : eW) : Prop := ∀ c k, rM8 c k → w' c k = w c k
theorem kcs.r8 {w w' : eW} (h : kcs w w') : rks8 w w' := fun c k y => h c k (by unfold rK8 at y; unfold kCf; omega)
theorem mcs.r8 {w w' : eW} (h : mcs w w') : rms8 w w' := fun c k y => h c k (by unfold rM8 at y; unfold mCfg; omega)
def lw8 (u : eW) : Prop := ∀ p, 0 ≤ p → p ≤ 63 → u 15 p = u 318 p
theorem lw8.keep {u v : eW} (h : lw8 u) (hK : rks8 u v) (hM : rms8 u v) : lw8 v := fun p p0 p1 => by
  rw [hK 15 p rfl, hM 318 p rfl]
  exact h p p0 p1
theorem L8_st {B : Int → Prop} {u w1 v : eW} (ha : e_all u) (hf : e_Lf B u w1 v) {c k : Int} (hc : B c) (e : w1 c k = e_PB B u c k) : v c k = u c k := by
  rw [e_PB_in hc] at e
  exact (hf.val hc (by rw [e]; exact ha c k)).trans e
theorem L8_vl {B : Int → Prop} {u w1 v : eW} (hf : e_Lf B u w1 v) {c k x : Int} (hc : B c) (hx : kn1 x) (e : w1 c k = x) : v c k = x := (hf.val hc (by rw [e]; exact hx)).trans e
theorem W_ks {u w1 v w2 v2 : eW} (h0 : lw0 u) (hf1 : e_Lf Bk u w1 v) (hf2 : e_Lf Bm v w2 v2) {c k : Int} (hc : 0 ≤ c ∧ c ≤ 274) (e : w1 c k = e_PB Bk u c k) : v2 c k = u c k := (hf2.2.2.1 c k (by unfold Bm; omega)).trans (L8_st h0.1 hf1 hc e)
theorem W_kv {u w1 v w2 v2 : eW} (hf1 : e_Lf Bk u w1 v) (hf2 : e_Lf Bm v w2 v2) {c k x : Int} (hc : 0 ≤ c ∧ c ≤ 274) (hx : kn1 x) (e : w1 c k = x) : v2 c k = x := (hf2.2.2.1 c k (by unfold Bm; omega)).trans (L8_vl hf1 hc hx e)
theorem W_ms {u w1 v w2 v2 : eW} (hf1 : e_Lf Bk u w1 v) (hf2 : e_Lf Bm v w2 v2) {c k : Int} (hc : 275 ≤ c ∧ c ≤ 356) (e : w2 c k = e_PB Bm v c k) : v2 c k = u c k := (L8_st hf1.2.2.2.2.1 hf2 hc e).trans (hf1.2.2.1 c k (by unfold Bk; omega))
theorem W_mv {v w2 v2 : eW} (hf2 : e_Lf Bm v w2 v2) {c k x : Int} (hc : 275 ≤ c ∧ c ≤ 356) (hx : kn1 x) (e : w2 c k = x) : v2 c k = x := L8_vl hf2 hc hx e
theorem W_kb {u : eW} {c k : Int} (hc : 0 ≤ c ∧ c ≤ 274) : e_PB Bk u c k = u c k := e_PB_in hc
theorem W_mb {u w1 v : eW} (hf1 : e_Lf Bk u w1 v) {c k : Int} (hc : 275 ≤ c ∧ c ≤ 356) : e_PB Bm v c k = u c k := (e_PB_in hc).trans (hf1.2.2.1 c k (by unfold Bk; omega))
theorem lw8_same {u w1 v w2 v2 : eW} (h0 : lw0 u) (h8 : lw8 u) (hf1 : e_Lf Bk u w1 v) (e1 : rks8 (e_PB Bk u) w1) (hf2 : e_Lf Bm v w2 v2) (e2 : rms8 (e_PB Bm v) w2) : lw8 v2 :=
  h8.keep (fun c k y => W_ks h0 hf1 hf2 (by unfold rK8 at y; omega) (e1 c k y)) (fun c k y => W_ms hf1 hf2 (by unfold rM8 at y; omega) (e2 c k y))
theorem hit_eq {s t : eW} {b : Int} (h : ∀ p, 0 ≤ p → p ≤ 63 → s 15 p = t 318 p) (hr : ∀ p, 0 ≤ p → p ≤ 63 → s 15 p ≤ 63) : ∀ (n : Nat) (y : Int), y ≤ 63 → (kHit s b n y ↔ wHit t b n y)
  | 0, y, _ => ⟨fun g => g, fun g => g⟩
  | n + 1, y, hy => by
    constructor
    · rintro ⟨h0, hk⟩
      refine ⟨h0, ?_⟩
      rw [← h y h0 hy]
      exact (hit_eq h hr n _ (hr y h0 hy)).1 hk
    · rintro ⟨h0, hk⟩
      refine ⟨h0, ?_⟩
      rw [← h y h0 hy] at hk
      exact (hit_eq h hr n _ (hr y h0 hy)).2 hk
theorem ex_pairW {C N1 N2 E1 E2 X1 X2 : Prop} {z1 z2 : Int} (hn : C → (N1 ↔ N2)) (x1 : (E1 ∧ ((¬ C ∧ z1 = -1) ∨ (C ∧ N1 ∧ z1 = -2))) ∨ ((C ∧ ¬ N1) ∧ z1 = 0 ∧ X1)) (x2 : (E2 ∧ ((¬ C ∧ z2 = -1) ∨ (C ∧ N2 ∧ z2 = -2))) ∨ ((C ∧ ¬ N2) ∧ z2 = 0 ∧ X2)) : z1 = z2 ∧ ((E1 ∧ E2) ∨ (C ∧ X1 ∧ X2)) := by
  rcases x1 with ⟨e1, x1⟩ | ⟨⟨c1, n1⟩, y1, f1⟩
  · rcases x2 with ⟨e2, x2⟩ | ⟨⟨c2, n2⟩, y2, f2⟩
    · refine ⟨?_, Or.inl ⟨e1, e2⟩⟩
      rcases x1 with ⟨c1, a1⟩ | ⟨c1, b1, a1⟩
      · rcases x2 with ⟨c2, a2⟩ | ⟨c2, b2, a2⟩
        · exact a1.trans a2.symm
        · exact absurd c2 c1
      · rcases x2 with ⟨c2, a2⟩ | ⟨c2, b2, a2⟩
        · exact absurd c1 c2
        · exact a1.trans a2.symm
    · exfalso
      rcases x1 with ⟨c1, a1⟩ | ⟨c1, b1, a1⟩
      · exact c1 c2
      · exact n2 ((hn c2).1 b1)
  · rcases x2 with ⟨e2, x2⟩ | ⟨⟨c2, n2⟩, y2, f2⟩
    · exfalso
      rcases x2 with ⟨c2, a2⟩ | ⟨c2, b2, a2⟩
      · exact c2 c1
      · exact n1 ((hn c1).2 b2)
    · exact ⟨y1.trans y2.symm, Or.inr ⟨c1, f1, f2⟩⟩
theorem lw8_wire {u w1 v w2 v2 : eW} {z1 z2 p1 p2 p3 : Int} (h0 : lw0 u) (h3 : lw3 u) (h8 : lw8 u) (hf1 : e_Lf Bk u w1 v) (x1 : (((e_PB Bk u) = w1 ∧ ((¬ ((0 ≤ p1 ∧ p1 ≤ 63) ∧ 0 ≤ p2 ∧ p2 ≤ 63) ∧ z1 = -1) ∨ (((0 ≤ p1 ∧ p1 ≤ 63) ∧ 0 ≤ p2 ∧ p2 ≤ 63) ∧ ((e_PB Bk u) 0 13 ≠ 0 ∨ 0 ≤ (e_PB Bk u) 15 p2 ∨ ∃ n, kHit (e_PB Bk u) p2 n p1) ∧ z1 = -2))) ∨ ((((0 ≤ p1 ∧ p1 ≤ 63) ∧ 0 ≤ p2 ∧ p2 ≤ 63) ∧ ¬ ((e_PB Bk u) 0 13 ≠ 0 ∨ 0 ≤ (e_PB Bk u) 15 p2 ∨ ∃ n, kHit (e_PB Bk u) p2 n p1)) ∧ z1 = 0 ∧ ∀ k, w1 15 k = if k = p2 then p1 else (e_PB Bk u) 15 k))) (hf2 : e_Lf Bm v w2 v2) (x2 : (((e_PB Bm v) = w2 ∧ ((¬ ((0 ≤ p1 ∧ p1 ≤ 63) ∧ 0 ≤ p2 ∧ p2 ≤ 63) ∧ z2 = -1) ∨ (((0 ≤ p1 ∧ p1 ≤ 63) ∧ 0 ≤ p2 ∧ p2 ≤ 63) ∧ ((e_PB Bm v) 275 3 ≠ 0 ∨ 0 ≤ (e_PB Bm v) 318 p2 ∨ ∃ n, wHit (e_PB Bm v) p2 n p1) ∧ z2 = -2))) ∨ ((((0 ≤ p1 ∧ p1 ≤ 63) ∧ 0 ≤ p2 ∧ p2 ≤ 63) ∧ ¬ ((e_PB Bm v) 275 3 ≠ 0 ∨ 0 ≤ (e_PB Bm v) 318 p2 ∨ ∃ n, wHit (e_PB Bm v) p2 n p1)) ∧ z2 = 0 ∧ w2 = e_up (e_up (e_PB Bm v) 318 p2 p1) 319 p2 p3))) : lw8 v2 ∧ z1 = z2 := by
  have b13 : e_PB Bk u 0 13 = u 0 13 := W_kb (by omega)
  have d3 : e_PB Bm v 275 3 = u 275 3 := W_mb hf1 (by omega)
  obtain ⟨y9, y3, y10⟩ := h3
  have hs : ∀ p, e_PB Bk u 15 p = u 15 p := fun p => W_kb (by omega)
  have ht : ∀ p, e_PB Bm v 318 p = u 318 p := fun p => W_mb hf1 (by omega)
  have hst : ∀ p, 0 ≤ p → p ≤ 63 → e_PB Bk u 15 p = e_PB Bm v 318 p := fun p p0 p1 => by rw [hs, ht]; exact h8 p p0 p1
  have hr : ∀ p, 0 ≤ p → p ≤ 63 → e_PB Bk u 15 p ≤ 63 := fun p _ _ => (e_Has.get h0.2.2.2.2.1.1 (c := 15) (k := p) (lo := (-1)) (hi := 63) rfl (by decide)).2
  obtain ⟨ez, hx⟩ := ex_pairW (fun q => by
    have e := hst p2 q.2.1 q.2.2
    constructor
    · intro g
      rcases g with g | g | ⟨n, g⟩
      · exact Or.inl (by omega)
      · exact Or.inr (Or.inl (by omega))
      · exact Or.inr (Or.inr ⟨n, (hit_eq hst hr n p1 q.1.2).1 g⟩)
    · intro g
      rcases g with g | g | ⟨n, g⟩
      · exact Or.inl (by omega)
      · exact Or.inr (Or.inl (by omega))
      · exact Or.inr (Or.inr ⟨n, (hit_eq hst hr n p1 q.1.2).2 g⟩)) x1 x2
  refine ⟨?_, ez⟩
  rcases hx with ⟨e1, e2⟩ | ⟨c, e1, e2⟩
  · exact lw8_same h0 h8 hf1 (fun c k _ => by rw [← e1]) hf2 (fun c k _ => by rw [← e2])
  · intro k k0 k1
    by_cases ek : k = p2
    · have a1 : v2 15 k = p1 := W_kv hf1 hf2 (by omega) (by unfold kn1; omega) (by rw [e1, if_pos ek])
      have a2 : v2 318 k = p1 := W_mv hf2 (by omega) (by unfold kn1; omega) (by rw [e2, ek, e_up_ne _ _ (by omega), e_up_eq])
      rw [a1, a2]
    · have a1 : v2 15 k = u 15 k := W_ks h0 hf1 hf2 (by omega) (by rw [e1, if_neg ek])
      have a2 : v2 318 k = u 318 k := W_ms hf1 hf2 (by omega) (by rw [e2, e_up_ne _ _ (by omega), e_up_ne _ _ (by omega)])
      rw [a1, a2]
      exact h8 k k0 k1
theorem lw8_zero {u w1 v w2 v2 : eW} (hf1 : e_Lf Bk u w1 v) (e1 : ∀ p, 0 ≤ p → p ≤ 63 → w1 15 p = -1) (hf2 : e_Lf Bm v w2 v2) (e2 : ∀ p, 0 ≤ p → p < 64 → w2 318 p = -1) : lw8 v2 := fun p p0 p1 => by
  have a1 : v2 15 p = -1 := W_kv hf1 hf2 (by omega) (by unfold kn1; omega) (e1 p p0 p1)
  have a2 : v2 318 p = -1 := W_mv hf2 (by omega) (by unfold kn1; omega) (e2 p p0 (by omega))
  rw [a1, a2]
theorem i0.lw8 {w u : eW} (h : i0 w u) : lw8 u := fun p p0 p1 => by
  obtain ⟨n, rfl⟩ := Int.eq_ofNat_of_zero_le p0
  have k1 : ∀ p : Nat, p < 64 → pv 15 p = some (-1) := by decide +kernel
  have k2 : ∀ p : Nat, p < 64 → pv 318 p = some (-1) := by decide +kernel
  have a1 : u 15 (n : Int) = -1 := h.vl (j := 15) (k := n) (k1 n (by omega))
  have a2 : u 318 (n : Int) = -1 := h.vl (j := 318) (k := n) (k2 n (by omega))
  exact a1.trans a2.symm
def lwS (u : eW) : Prop := lwR u ∧ lw8 u
theorem i0.lwS {w u : eW} (h : i0 w u) (ha : e_all u) : lwS u := ⟨h.lwR ha, h.lw8⟩
theorem m_277w {d : Nat} (hd : 23 ≤ d) {w : eW} (h : mRel w) : e_Ok 20 elay ecode eI d 277 (0, [(0, (1, 275))], [], w) (fun _ w' => ∀ p, 0 ≤ p → p < 64 → w' 318 p = -1) :=
  (c_277_h hd h.1 h.2.1).imp (fun r w' q => by
    obtain ⟨z, hr, q1, q2, q3, q4⟩ := q
    exact q4.2.2.1)
theorem ks8_190 {d : Nat} (hd : 460 ≤ d) {w : eW} (q : kRel w) (hAl : kAl w) {a : Int} (g_a : (-2147483648 ≤ a ∧ a ≤ 2147483647)) {b : Int} (g_b : (-2147483648 ≤ b ∧ b ≤ 2147483647)) {c : Int} (g_c : (-2147483648 ≤ c ∧ c ≤ 2147483647)) {e : Int} (g_e : (-2147483648 ≤ e ∧ e ≤ 2147483647)) {g : Int} (g_g : (-2147483648 ≤ g ∧ g ≤ 2147483647)) : e_Ok 20 elay kcode eI d 190 (0, [(0, (1, 0)), (1, (0, a)), (2, (0, b)), (3, (0, c)), (4, (0, e)), (5, (0, g))], [], w) (fun r w' => ∃ z : Int, r = [(0, z)] ∧ kRelF w' ∧ (((3980 < w 1 0 ∧ z = -3 ∧ km3 w w') ∨ (w 1 0 ≤ 3980 ∧ z = w 1 0 + 20 ∧ w' 0 13 = w 0 13 ∧ w' 1 0 = w 1 0 + 20 ∧ w' 0 11 = w 0 11))) ∧ rks8 w w') :=
  (e_Ok.both (k_190 hd q hAl g_a g_b g_c g_e g_g) (kq_190 hd q hAl g_a g_b g_c g_e g_g)).imp (fun r w' h => by
    obtain ⟨⟨z, h1, hF, e⟩, f⟩ := h
    exact ⟨z, h1, hF, e, f.r8⟩)
theorem ks8_191 {d : Nat} (hd : 460 ≤ d) {w : eW} (q : kRel w) (hAl : kAl w) {a : Int} (g_a : (-2147483648 ≤ a ∧ a ≤ 2147483647)) : e_Ok 20 elay kcode eI d 191 (0, [(0, (1, 0)), (1, (0, a))], [], w) (fun r w' => ∃ z : Int, r = [(0, z)] ∧ kRelF w' ∧ ((((a < 0 ∨ w 1 0 < a) ∧ z = -1 ∧ km3 w w') ∨ ((0 ≤ a ∧ a ≤ w 1 0) ∧ z = w 1 0 - a ∧ w' 0 13 = w 0 13 ∧ w' 1 0 = w 1 0 - a ∧ w' 0 11 = w 0 11))) ∧ rks8 w w') :=
  (e_Ok.both (k_191 hd q hAl g_a) (kq_191 hd q hAl g_a)).imp (fun r w' h => by
    obtain ⟨⟨z, h1, hF, e⟩, f⟩ := h
    exact ⟨z, h1, hF, e, f.r8⟩)
theorem ks8_193 {d : Nat} (hd : 460 ≤ d) {w : eW} (q : kRel w) (hAl : kAl w) {x : Int} (g_x : (-2147483648 ≤ x ∧ x ≤ 2147483647)) {y : Int} (g_y : (-2147483648 ≤ y ∧ y ≤ 2147483647)) {u : Int} (g_u : (-2147483648 ≤ u ∧ u ≤ 2147483647)) {v : Int} (g_v : (-2147483648 ≤ v ∧ v ≤ 2147483647)) : e_Ok 20 elay kcode eI d 193 (0, [(0, (1, 0)), (1, (0, x)), (2, (0, y)), (3, (0, u)), (4, (0, v))], [], w) (fun r w' => ∃ z : Int, r = [(0, z)] ∧ kRelF w' ∧ (((km3 w w' ∧ ¬ ((-8000 ≤ x ∧ x ≤ 8000) ∧ (-8000 ≤ y ∧ y ≤ 8000) ∧ (0 ≤ u ∧ u ≤ 4095) ∧ (0 ≤ v ∧ v ≤ 800) ∧ w 0 13 = 0 ∧ w 0 11 ≤ 3)) ∨ (((-8000 ≤ x ∧ x ≤ 8000) ∧ (-8000 ≤ y ∧ y ≤ 8000) ∧ (0 ≤ u ∧ u ≤ 4095) ∧ (0 ≤ v ∧ v ≤ 800) ∧ w 0 13 = 0 ∧ w 0 11 ≤ 3) ∧ w' 0 13 = w 0 13 ∧ w' 1 0 = w 1 0 ∧ w' 0 11 = w 0 11 + 1))) ∧ rks8 w w') :=
  (e_Ok.both (k_193 hd q hAl g_x g_y g_u g_v) (kq_193 hd q hAl g_x g_y g_u g_v)).imp (fun r w' h => by
    obtain ⟨⟨z, h1, hF, e⟩, f⟩ := h
    have hw0 := e_Has.get q.1 (c := 0) (k := 11) (lo := 0) (hi := 4) rfl (by decide)
    exact ⟨z, h1, hF, e, fun c k y => by
      rcases f with rfl | ⟨hn, f, -⟩
      · rfl
      · have hcd := q.hC (w 0 11) hw0.1 hn
        unfold isCd at hcd
        refine f c k (fun g => ?_)
        unfold rK8 at y
        unfold kAa kMk at g
        generalize w (17 * w 0 11 + 86) 7 = cd at hcd g
        rcases hcd with rfl | rfl | rfl | rfl | rfl <;> omega⟩)
theorem ks8_194 {d : Nat} (hd : 460 ≤ d) {w : eW} (q : kRel w) (hAl : kAl w) {a : Int} (g_a : (-2147483648 ≤ a ∧ a ≤ 2147483647)) {kd : Int} (g_kd : (-2147483648 ≤ kd ∧ kd ≤ 2147483647)) {lo : Int} (g_lo : (-2147483648 ≤ lo ∧ lo ≤ 2147483647)) {hi : Int} (g_hi : (-2147483648 ≤ hi ∧ hi ≤ 2147483647)) {ln : Int} (g_ln : (-2147483648 ≤ ln ∧ ln ≤ 2147483647)) : e_Ok 20 elay kcode eI d 194 (0, [(0, (1, 0)), (1, (0, a)), (2, (0, kd)), (3, (0, lo)), (4, (0, hi)), (5, (0, ln))], [], w) (fun r w' => ∃ z : Int, r = [(0, z)] ∧ kRelF w' ∧ (km3 w w') ∧ rks8 w w') :=
  (e_Ok.both (k_194 hd q hAl g_a g_kd g_lo g_hi g_ln) (kq_194 hd q hAl g_a g_kd g_lo g_hi g_ln)).imp (fun r w' h => by
    obtain ⟨⟨z, h1, hF, e⟩, f⟩ := h
    exact ⟨z, h1, hF, e, fun c k y => by
      rcases f with rfl | ⟨ga, f⟩
      · rfl
      · exact f c k (fun g => by unfold rK8 at y; unfold kAj at g; omega)⟩)
theorem ks8_195 {d : Nat} (hd : 460 ≤ d) {w : eW} (q : kRel w) (hAl : kAl w) {a : Int} (g_a : (-2147483648 ≤ a ∧ a ≤ 2147483647)) {b : Int} (g_b : (-2147483648 ≤ b ∧ b ≤ 2147483647)) {c : Int} (g_c : (-2147483648 ≤ c ∧ c ≤ 2147483647)) {e : Int} (g_e : (-2147483648 ≤ e ∧ e ≤ 2147483647)) : e_Ok 20 elay kcode eI d 195 (0, [(0, (1, 0)), (1, (0, a)), (2, (0, b)), (3, (0, c)), (4, (0, e))], [], w) (fun r w' => ∃ z : Int, r = [(0, z)] ∧ kRelF w' ∧ (km3 w w') ∧ rks8 w w') :=
  (e_Ok.both (k_195 hd q hAl g_a g_b g_c g_e) (kq_195 hd q hAl g_a g_b g_c g_e)).imp (fun r w' h => by
    obtain ⟨⟨z, h1, hF, e⟩, f⟩ := h
    exact ⟨z, h1, hF, e, fun c k y => by
      rcases f with rfl | ⟨ga, gb, f⟩
      · rfl
      · exact f c k (fun g => by unfold rK8 at y; unfold kBj at g; omega)⟩)
theorem ks8_196 {d : Nat} (hd : 460 ≤ d) {w : eW} (q : kRel w) (hAl : kAl w) {a : Int} (g_a : (-2147483648 ≤ a ∧ a ≤ 2147483647)) {b : Int} (g_b : (-2147483648 ≤ b ∧ b ≤ 2147483647)) {c : Int} (g_c : (-2147483648 ≤ c ∧ c ≤ 2147483647)) : e_Ok 20 elay kcode eI d 196 (0, [(0, (1, 0)), (1, (0, a)), (2, (0, b)), (3, (0, c))], [], w) (fun r w' => ∃ z : Int, r = [(0, z)] ∧ kRelF w' ∧ (km3 w w') ∧ rks8 w w') :=
  (e_Ok.both (k_196 hd q hAl g_a g_b g_c) (kq_196 hd q hAl g_a g_b g_c)).imp (fun r w' h => by
    obtain ⟨⟨z, h1, hF, e⟩, f⟩ := h
    exact ⟨z, h1, hF, e, fun c k y => by
      rcases f with rfl | ⟨ga, gb, f⟩
      · rfl
      · exact f c k (fun g => by unfold rK8 at y; unfold kBr at g; omega)⟩)
theorem ks8_197 {d : Nat} (hd : 460 ≤ d) {w : eW} (q : kRel w) (hAl : kAl w) {a : Int} (g_a : (-2147483648 ≤ a ∧ a ≤ 2147483647)) {b : Int} (g_b : (-2147483648 ≤ b ∧ b ≤ 2147483647)) {c : Int} (g_c : (-2147483648 ≤ c ∧ c ≤ 2147483647)) : e_Ok 20 elay kcode eI d 197 (0, [(0, (1, 0)), (1, (0, a)), (2, (0, b)), (3, (0, c))], [], w) (fun r w' => ∃ z : Int, r = [(0, z)] ∧ kRelF w' ∧ (km3 w w') ∧ rks8 w w') :=
  (e_Ok.both (k_197 hd q hAl g_a g_b g_c) (kq_197 hd q hAl g_a g_b g_c)).imp (fun r w' h => by
    obtain ⟨⟨z, h1, hF, e⟩, f⟩ := h
    exact ⟨z, h1, hF, e, fun c k y => f c k (fun g => by unfold rK8 at y; unfold kAs at g; omega)⟩)
theorem ks8_198 {d : Nat} (hd : 460 ≤ d) {w : eW} (q : kRel w) (hAl : kAl w) {a : Int} (g_a : (-2147483648 ≤ a ∧ a ≤ 2147483647)) {b : Int} (g_b : (-2147483648 ≤ b ∧ b ≤ 2147483647)) {c : Int} (g_c : (-2147483648 ≤ c ∧ c ≤ 2147483647)) {e : Int} (g_e : (-2147483648 ≤ e ∧ e ≤ 2147483647)) : e_Ok 20 elay kcode eI d 198 (0, [(0, (1, 0)), (1, (0, a)), (2, (0, b)), (3, (0, c)), (4, (0, e))], [], w) (fun r w' => ∃ z : Int, r = [(0, z)] ∧ kRelF w' ∧ (km3 w w') ∧ rks8 w w') :=
  (e_Ok.both (k_198 hd q hAl g_a g_b g_c g_e) (kq_198 hd q hAl g_a g_b g_c g_e)).imp (fun r w' h => by
    obtain ⟨⟨z, h1, hF, e⟩, f⟩ := h
    exact ⟨z, h1, hF, e, fun c k y => f c k (fun g => by unfold rK8 at y; unfold kAs at g; omega)⟩)
theorem ks8_199 {d : Nat} (hd : 460 ≤ d) {w : eW} (q : kRel w) (hAl : kAl w) {a : Int} (g_a : (-2147483648 ≤ a ∧ a ≤ 2147483647)) {b : Int} (g_b : (-2147483648 ≤ b ∧ b ≤ 2147483647)) {c : Int} (g_c : (-2147483648 ≤ c ∧ c ≤ 2147483647)) : e_Ok 20 elay kcode eI d 199 (0, [(0, (1, 0)), (1, (0, a)), (2, (0, b)), (3, (0, c))], [], w) (fun r w' => ∃ z : Int, r = [(0, z)] ∧ kRelF w' ∧ (km3 w w') ∧ rks8 w w') :=
  (e_Ok.both (k_199 hd q hAl g_a g_b g_c) (kq_199 hd q hAl g_a g_b g_c)).imp (fun r w' h => by
    obtain ⟨⟨z, h1, hF, e⟩, f⟩ := h
    exact ⟨z, h1, hF, e, fun c k y => by
      rcases f with rfl | ⟨ga, f⟩
      · rfl
      · exact f c k (fun g => by unfold rK8 at y; unfold kSd at g; omega)⟩)
theorem ks8_200 {d : Nat} (hd : 460 ≤ d) {w : eW} (q : kRel w) (hAl : kAl w) {a : Int} (g_a : (-2147483648 ≤ a ∧ a ≤ 2147483647)) {b : Int} (g_b : (-2147483648 ≤ b ∧ b ≤ 2147483647)) {c : Int} (g_c : (-2147483648 ≤ c ∧ c ≤ 2147483647)) {e : Int} (g_e : (-2147483648 ≤ e ∧ e ≤ 2147483647)) {g : Int} (g_g : (-2147483648 ≤ g ∧ g ≤ 2147483647)) : e_Ok 20 elay kcode eI d 200 (0, [(0, (1, 0)), (1, (0, a)), (2, (0, b)), (3, (0, c)), (4, (0, e)), (5, (0, g))], [], w) (fun r w' => ∃ z : Int, r = [(0, z)] ∧ kRelF w' ∧ (km3 w w') ∧ rks8 w w') :=
  (e_Ok.both (k_200 hd q hAl g_a g_b g_c g_e g_g) (kq_200 hd q hAl g_a g_b g_c g_e g_g)).imp (fun r w' h => by
    obtain ⟨⟨z, h1, hF, e⟩, f⟩ := h
    exact ⟨z, h1, hF, e, fun c k y => f c k (fun g => by unfold rK8 at y; unfold kAb at g; omega)⟩)
theorem ks8_201 {d : Nat} (hd : 460 ≤ d) {w : eW} (q : kRel w) (hAl : kAl w) {a : Int} (g_a : (-2147483648 ≤ a ∧ a ≤ 2147483647)) {b : Int} (g_b : (-2147483648 ≤ b ∧ b ≤ 2147483647)) : e_Ok 20 elay kcode eI d 201 (0, [(0, (1, 0)), (1, (0, a)), (2, (0, b))], [], w) (fun r w' => ∃ z : Int, r = [(0, z)] ∧ kRelF w' ∧ (km3 w w') ∧ rks8 w w') :=
  (e_Ok.both (k_201 hd q hAl g_a g_b) (kq_201 hd q hAl g_a g_b)).imp (fun r w' h => by
    obtain ⟨⟨z, h1, hF, e⟩, f⟩ := h
    exact ⟨z, h1, hF, e, fun c k y => f c k (fun g => by unfold rK8 at y; unfold kBd at g; omega)⟩)
theorem ks8_202 {d : Nat} (hd : 460 ≤ d) {w : eW} (q : kRel w) (hAl : kAl w) {a : Int} (g_a : (-2147483648 ≤ a ∧ a ≤ 2147483647)) {b : Int} (g_b : (-2147483648 ≤ b ∧ b ≤ 2147483647)) {c : Int} (g_c : (-2147483648 ≤ c ∧ c ≤ 2147483647)) {e : Int} (g_e : (-2147483648 ≤ e ∧ e ≤ 2147483647)) : e_Ok 20 elay kcode eI d 202 (0, [(0, (1, 0)), (1, (0, a)), (2, (0, b)), (3, (0, c)), (4, (0, e))], [], w) (fun r w' => ∃ z : Int, r = [(0, z)] ∧ kRelF w' ∧ (km3 w w') ∧ rks8 w w') :=
  (e_Ok.both (k_202 hd q hAl g_a g_b g_c g_e) (kq_202 hd q hAl g_a g_b g_c g_e)).imp (fun r w' h => by
    obtain ⟨⟨z, h1, hF, e⟩, f⟩ := h
    exact ⟨z, h1, hF, e, fun c k y => f c k (fun g => by unfold rK8 at y; unfold kBs at g; omega)⟩)
theorem ks8_203 {d : Nat} (hd : 460 ≤ d) {w : eW} (q : kRel w) (hAl : kAl w) {a : Int} (g_a : (-2147483648 ≤ a ∧ a ≤ 2147483647)) {b : Int} (g_b : (-2147483648 ≤ b ∧ b ≤ 2147483647)) {c : Int} (g_c : (-2147483648 ≤ c ∧ c ≤ 2147483647)) : e_Ok 20 elay kcode eI d 203 (0, [(0, (1, 0)), (1, (0, a)), (2, (0, b)), (3, (0, c))], [], w) (fun r w' => ∃ z : Int, r = [(0, z)] ∧ kRelF w' ∧ (km3 w w') ∧ rks8 w w') :=
  (e_Ok.both (k_203 hd q hAl g_a g_b g_c) (kq_203 hd q hAl g_a g_b g_c)).imp (fun r w' h => by
    obtain ⟨⟨z, h1, hF, e⟩, f⟩ := h
    exact ⟨z, h1, hF, e, fun c k y => f c k (fun g => by unfold rK8 at y; unfold kAp at g; omega)⟩)
theorem ks8_204 {d : Nat} (hd : 460 ≤ d) {w : eW} (q : kRel w) (hAl : kAl w) {a : Int} (g_a : (-2147483648 ≤ a ∧ a ≤ 2147483647)) {b : Int} (g_b : (-2147483648 ≤ b ∧ b ≤ 2147483647)) {c : Int} (g_c : (-2147483648 ≤ c ∧ c ≤ 2147483647)) : e_Ok 20 elay kcode eI d 204 (0, [(0, (1, 0)), (1, (0, a)), (2, (0, b)), (3, (0, c))], [], w) (fun r w' => ∃ z : Int, r = [(0, z)] ∧ kRelF w' ∧ (km3 w w') ∧ rks8 w w') :=
  (e_Ok.both (k_204 hd q hAl g_a g_b g_c) (kq_204 hd q hAl g_a g_b g_c)).imp (fun r w' h => by
    obtain ⟨⟨z, h1, hF, e⟩, f⟩ := h
    exact ⟨z, h1, hF, e, fun c k y => f c k (fun g => by unfold rK8 at y; unfold kAp at g; omega)⟩)
theorem ks8_205 {d : Nat} (hd : 460 ≤ d) {w : eW} (q : kRel w) (hAl : kAl w) {a : Int} (g_a : (-2147483648 ≤ a ∧ a ≤ 2147483647)) {b : Int} (g_b : (-2147483648 ≤ b ∧ b ≤ 2147483647)) {c : Int} (g_c : (-2147483648 ≤ c ∧ c ≤ 2147483647)) {e : Int} (g_e : (-2147483648 ≤ e ∧ e ≤ 2147483647)) {g : Int} (g_g : (-2147483648 ≤ g ∧ g ≤ 2147483647)) : e_Ok 20 elay kcode eI d 205 (0, [(0, (1, 0)), (1, (0, a)), (2, (0, b)), (3, (0, c)), (4, (0, e)), (5, (0, g))], [], w) (fun r w' => ∃ z : Int, r = [(0, z)] ∧ kRelF w' ∧ (km3 w w') ∧ rks8 w w') :=
  (e_Ok.both (k_205 hd q hAl g_a g_b g_c g_e g_g) (kq_205 hd q hAl g_a g_b g_c g_e g_g)).imp (fun r w' h => by
    obtain ⟨⟨z, h1, hF, e⟩, f⟩ := h
    exact ⟨z, h1, hF, e, fun c k y => f c k (fun g => by unfold rK8 at y; unfold kAs at g; omega)⟩)
theorem ks8_206 {d : Nat} (hd : 460 ≤ d) {w : eW} (q : kRel w) (hAl : kAl w) {a : Int} (g_a : (-2147483648 ≤ a ∧ a ≤ 2147483647)) {b : Int} (g_b : (-2147483648 ≤ b ∧ b ≤ 2147483647)) : e_Ok 20 elay kcode eI d 206 (0, [(0, (1, 0)), (1, (0, a)), (2, (0, b))], [], w) (fun r w' => ∃ z : Int, r = [(0, z)] ∧ kRelF w' ∧ (km3 w w') ∧ rks8 w w') :=
  (e_Ok.both (k_206 hd q hAl g_a g_b) (kq_206 hd q hAl g_a g_b)).imp (fun r w' h => by
    obtain ⟨⟨z, h1, hF, e⟩, f⟩ := h
    exact ⟨z, h1, hF, e, fun c k y => f c k (fun g => by unfold rK8 at y; unfold kBm0 at g; omega)⟩)
theorem ks8_207 {d : Nat} (hd : 460 ≤ d) {w : eW} (q : kRel w) (hAl : kAl w) {a : Int} (g_a : (-2147483648 ≤ a ∧ a ≤ 2147483647)) : e_Ok 20 elay kcode eI d 207 (0, [(0, (1, 0)), (1, (0, a))], [], w) (fun r w' => ∃ z : Int, r = [(0, z)] ∧ kRelF w' ∧ (km3 w w') ∧ rks8 w w') :=
  (e_Ok.both (k_207 hd q hAl g_a) (kq_207 hd q hAl g_a)).imp (fun r w' h => by
    obtain ⟨⟨z, h1, hF, e⟩, f⟩ := h
    exact ⟨z, h1, hF, e, fun c k y => f c k (fun g => by unfold rK8 at y; unfold kBi at g; omega)⟩)
theorem ks8_208 {d : Nat} (hd : 460 ≤ d) {w : eW} (q : kRel w) (hAl : kAl w) {a : Int} (g_a : (-2147483648 ≤ a ∧ a ≤ 2147483647)) {b : Int} (g_b : (0 ≤ b ∧ b ≤ 1)) : e_Ok 20 elay kcode eI d 208 (0, [(0, (1, 0)), (1, (0, a)), (2, (0, b))], [], w) (fun r w' => ∃ z : Int, r = [(0, z)] ∧ kRelF w' ∧ (km3 w w') ∧ rks8 w w') :=
  (e_Ok.both (k_208 hd q hAl g_a g_b) (kq_208 hd q hAl g_a g_b)).imp (fun r w' h => by
    obtain ⟨⟨z, h1, hF, e⟩, f⟩ := h
    exact ⟨z, h1, hF, e, fun c k y => f c k (fun g => by unfold rK8 at y; unfold kBp at g; omega)⟩)
theorem ks8_210 {d : Nat} (hd : 460 ≤ d) {w : eW} (q : kRel w) (hAl : kAl w) {a : Int} (g_a : (-2147483648 ≤ a ∧ a ≤ 2147483647)) : e_Ok 20 elay kcode eI d 210 (0, [(0, (1, 0)), (1, (0, a))], [], w) (fun r w' => ∃ z : Int, r = [(0, z)] ∧ kRelF w' ∧ (((km3 w w' ∧ (w 0 13 = 1 ∨ a < 0 ∨ w 0 11 ≤ a)) ∨ ((w 0 13 = 0 ∧ 0 ≤ a ∧ a < w 0 11) ∧ w' 0 13 = w 0 13 ∧ w' 1 0 = 0 ∧ w' 0 11 = w 0 11))) ∧ rks8 w w') :=
  (e_Ok.both (k_210 hd q hAl g_a) (kq_210 hd q hAl g_a)).imp (fun r w' h => by
    obtain ⟨⟨z, h1, hF, e⟩, f⟩ := h
    exact ⟨z, h1, hF, e, f.r8⟩)
theorem ks8_211 {d : Nat} (hd : 460 ≤ d) {w : eW} (q : kRel w) (hAl : kAl w) {a : Int} (g_a : (-2147483648 ≤ a ∧ a ≤ 2147483647)) : e_Ok 20 elay kcode eI d 211 (0, [(0, (1, 0)), (1, (0, a))], [], w) (fun r w' => ∃ z : Int, r = [(0, z)] ∧ kRelF w' ∧ (km3 w w') ∧ rks8 w w') :=
  (e_Ok.both (k_211 hd q hAl g_a) (kq_211 hd q hAl g_a)).imp (fun r w' h => by
    obtain ⟨⟨z, h1, hF, e⟩, f⟩ := h
    exact ⟨z, h1, hF, e, f.r8⟩)
theorem ks8_212 {d : Nat} (hd : 460 ≤ d) {w : eW} (q : kRel w) (hAl : kAl w) : e_Ok 20 elay kcode eI d 212 (0, [(0, (1, 0))], [], w) (fun r w' => ∃ z : Int, r = [(0, z)] ∧ kRelF w' ∧ (((w 0 13 = 1 ∧ km3 w w') ∨ (w 0 13 = 0 ∧ w' 0 13 = 1 ∧ w' 1 0 = w 1 0 ∧ w' 0 11 = w 0 11))) ∧ rks8 w w') :=
  (e_Ok.both (k_212 hd q hAl ) (kq_212 hd q hAl )).imp (fun r w' h => by
    obtain ⟨⟨z, h1, hF, e⟩, f⟩ := h
    exact ⟨z, h1, hF, e, f.r8⟩)
theorem ks8_213 {d : Nat} (hd : 460 ≤ d) {w : eW} (q : kRel w) (hAl : kAl w) {a : Int} (g_a : (-2147483648 ≤ a ∧ a ≤ 2147483647)) {b : Int} (g_b : (-2147483648 ≤ b ∧ b ≤ 2147483647)) : e_Ok 20 elay kcode eI d 213 (0, [(0, (1, 0)), (1, (0, a)), (2, (0, b))], [], w) (fun r w' => ∃ z : Int, r = [(0, z)] ∧ kRelF w' ∧ (km3 w w') ∧ rks8 w w') :=
  (e_Ok.both (k_213 hd q hAl g_a g_b) (kq_213 hd q hAl g_a g_b)).imp (fun r w' h => by
    obtain ⟨⟨z, h1, hF, e⟩, f⟩ := h
    exact ⟨z, h1, hF, e, f.r8⟩)
theorem ks8_214 {d : Nat} (hd : 460 ≤ d) {w : eW} (q : kRel w) (hAl : kAl w) {n : Int} (g_n : (-2147483648 ≤ n ∧ n ≤ 2147483647)) : e_Ok 20 elay kcode eI d 214 (0, [(0, (1, 0)), (1, (0, n))], [], w) (fun r w' => ∃ z : Int, r = [(0, z)] ∧ kRelF w' ∧ (km3 w w') ∧ rks8 w w') :=
  (e_Ok.both (k_214 hd q hAl g_n) (kq_214 hd q hAl g_n)).imp (fun r w' h => by
    obtain ⟨⟨z, h1, hF, e⟩, f⟩ := h
    exact ⟨z, h1, hF, e, f.r8⟩)
theorem ks8_215 {d : Nat} (hd : 460 ≤ d) {w : eW} (q : kRel w) (hAl : kAl w) {a : Int} (g_a : (-2147483648 ≤ a ∧ a ≤ 2147483647)) {b : Int} (g_b : (-2147483648 ≤ b ∧ b ≤ 2147483647)) : e_Ok 20 elay kcode eI d 215 (0, [(0, (1, 0)), (1, (0, a)), (2, (0, b))], [], w) (fun r w' => ∃ z : Int, r = [(0, z)] ∧ kRelF w' ∧ (km3 w w') ∧ rks8 w w') :=
  (e_Ok.both (k_215 hd q hAl g_a g_b) (kq_215 hd q hAl g_a g_b)).imp (fun r w' h => by
    obtain ⟨⟨z, h1, hF, e⟩, f⟩ := h
    exact ⟨z, h1, hF, e, f.r8⟩)
theorem ks8_216 {d : Nat} (hd : 460 ≤ d) {w : eW} (q : kRel w) (hAl : kAl w) {a : Int} (g_a : (-2147483648 ≤ a ∧ a ≤ 2147483647)) {b : Int} (g_b : (-2147483648 ≤ b ∧ b ≤ 2147483647)) {c : Int} (g_c : (0 ≤ c ∧ c ≤ 1)) : e_Ok 20 elay kcode eI d 216 (0, [(0, (1, 0)), (1, (0, a)), (2, (0, b)), (3, (0, c))], [], w) (fun r w' => ∃ z : Int, r = [(0, z)] ∧ kRelF w' ∧ (km3 w w') ∧ rks8 w w') :=
  (e_Ok.both (k_216 hd q hAl g_a g_b g_c) (kq_216 hd q hAl g_a g_b g_c)).imp (fun r w' h => by
    obtain ⟨⟨z, h1, hF, e⟩, f⟩ := h
    exact ⟨z, h1, hF, e, f.r8⟩)
theorem ks8_217 {d : Nat} (hd : 460 ≤ d) {w : eW} (q : kRel w) (hAl : kAl w) {a : Int} (g_a : (-2147483648 ≤ a ∧ a ≤ 2147483647)) {b : Int} (g_b : (0 ≤ b ∧ b ≤ 1)) {c : Int} (g_c : (0 ≤ c ∧ c ≤ 1)) : e_Ok 20 elay kcode eI d 217 (0, [(0, (1, 0)), (1, (0, a)), (2, (0, b)), (3, (0, c))], [], w) (fun r w' => ∃ z : Int, r = [(0, z)] ∧ kRelF w' ∧ (km3 w w') ∧ rks8 w w') :=
  (e_Ok.both (k_217 hd q hAl g_a g_b g_c) (kq_217 hd q hAl g_a g_b g_c)).imp (fun r w' h => by
    obtain ⟨⟨z, h1, hF, e⟩, f⟩ := h
    exact ⟨z, h1, hF, e, f.r8⟩)
theorem ks8_218 {d : Nat} (hd : 460 ≤ d) {w : eW} (q : kRel w) (hAl : kAl w) {a : Int} (g_a : (-2147483648 ≤ a ∧ a ≤ 2147483647)) : e_Ok 20 elay kcode eI d 218 (0, [(0, (1, 0)), (1, (0, a))], [], w) (fun r w' => ∃ z : Int, r = [(0, z)] ∧ kRelF w' ∧ (km3 w w') ∧ rks8 w w') :=
  (e_Ok.both (k_218 hd q hAl g_a) (kq_218 hd q hAl g_a)).imp (fun r w' h => by
    obtain ⟨⟨z, h1, hF, e⟩, f⟩ := h
    exact ⟨z, h1, hF, e, f.r8⟩)
theorem ks8_219 {d : Nat} (hd : 460 ≤ d) {w : eW} (q : kRel w) (hAl : kAl w) {a : Int} (g_a : (-2147483648 ≤ a ∧ a ≤ 2147483647)) : e_Ok 20 elay kcode eI d 219 (0, [(0, (1, 0)), (1, (0, a))], [], w) (fun r w' => ∃ z : Int, r = [(0, z)] ∧ kRelF w' ∧ (km3 w w') ∧ rks8 w w') :=
  (e_Ok.both (k_219 hd q hAl g_a) (kq_219 hd q hAl g_a)).imp (fun r w' h => by
    obtain ⟨⟨z, h1, hF, e⟩, f⟩ := h
    exact ⟨z, h1, hF, e, f.r8⟩)
theorem ks8_220 {d : Nat} (hd : 460 ≤ d) {w : eW} (q : kRel w) (hAl : kAl w) {a : Int} (g_a : (-2147483648 ≤ a ∧ a ≤ 2147483647)) : e_Ok 20 elay kcode eI d 220 (0, [(0, (1, 0)), (1, (0, a))], [], w) (fun r w' => ∃ z : Int, r = [(0, z)] ∧ kRelF w' ∧ (km3 w w') ∧ rks8 w w') :=
  (e_Ok.both (k_220 hd q hAl g_a) (kq_220 hd q hAl g_a)).imp (fun r w' h => by
    obtain ⟨⟨z, h1, hF, e⟩, f⟩ := h
    exact ⟨z, h1, hF, e, f.r8⟩)
theorem ks8_221 {d : Nat} (hd : 460 ≤ d) {w : eW} (q : kRel w) (hAl : kAl w) {a : Int} (g_a : (-2147483648 ≤ a ∧ a ≤ 2147483647)) {b : Int} (g_b : (-2147483648 ≤ b ∧ b ≤ 2147483647)) {c : Int} (g_c : (-2147483648 ≤ c ∧ c ≤ 2147483647)) : e_Ok 20 elay kcode eI d 221 (0, [(0, (1, 0)), (1, (0, a)), (2, (0, b)), (3, (0, c))], [], w) (fun r w' => ∃ z : Int, r = [(0, z)] ∧ kRelF w' ∧ (km3 w w') ∧ rks8 w w') :=
  (e_Ok.both (k_221 hd q hAl g_a g_b g_c) (kq_221 hd q hAl g_a g_b g_c)).imp (fun r w' h => by
    obtain ⟨⟨z, h1, hF, e⟩, f⟩ := h
    exact ⟨z, h1, hF, e, f.r8⟩)
theorem ks8_222 {d : Nat} (hd : 460 ≤ d) {w : eW} (q : kRel w) (hAl : kAl w) {a : Int} (g_a : (-2147483648 ≤ a ∧ a ≤ 2147483647)) {b : Int} (g_b : (-2147483648 ≤ b ∧ b ≤ 2147483647)) : e_Ok 20 elay kcode eI d 222 (0, [(0, (1, 0)), (1, (0, a)), (2, (0, b))], [], w) (fun r w' => ∃ z : Int, r = [(0, z)] ∧ kRelF w' ∧ (km3 w w') ∧ rks8 w w') :=
  (e_Ok.both (k_222 hd q hAl g_a g_b) (kq_222 hd q hAl g_a g_b)).imp (fun r w' h => by
    obtain ⟨⟨z, h1, hF, e⟩, f⟩ := h
    exact ⟨z, h1, hF, e, f.r8⟩)
theorem ks8_223 {d : Nat} (hd : 460 ≤ d) {w : eW} (q : kRel w) (hAl : kAl w) {a : Int} (g_a : (-2147483648 ≤ a ∧ a ≤ 2147483647)) {n : Int} (g_n : (-2147483648 ≤ n ∧ n ≤ 2147483647)) {e : Int} (g_e : (-2147483648 ≤ e ∧ e ≤ 2147483647)) : e_Ok 20 elay kcode eI d 223 (0, [(0, (1, 0)), (1, (0, a)), (2, (0, n)), (3, (0, e))], [], w) (fun r w' => ∃ z : Int, r = [(0, z)] ∧ kRelF w' ∧ (km3 w w') ∧ rks8 w w') :=
  (e_Ok.both (k_223 hd q hAl g_a g_n g_e) (kq_223 hd q hAl g_a g_n g_e)).imp (fun r w' h => by
    obtain ⟨⟨z, h1, hF, e⟩, f⟩ := h
    exact ⟨z, h1, hF, e, f.r8⟩)
theorem ks8_224 {d : Nat} (hd : 460 ≤ d) {w : eW} (q : kRel w) (hAl : kAl w) {a : Int} (g_a : (-2147483648 ≤ a ∧ a ≤ 2147483647)) : e_Ok 20 elay kcode eI d 224 (0, [(0, (1, 0)), (1, (0, a))], [], w) (fun r w' => ∃ z : Int, r = [(0, z)] ∧ kRelF w' ∧ (km3 w w') ∧ rks8 w w') :=
  (e_Ok.both (k_224 hd q hAl g_a) (kq_224 hd q hAl g_a)).imp (fun r w' h => by
    obtain ⟨⟨z, h1, hF, e⟩, f⟩ := h
    exact ⟨z, h1, hF, e, f.r8⟩)
theorem ks8_225 {d : Nat} (hd : 460 ≤ d) {w : eW} (q : kRel w) (hAl : kAl w) {n : Int} (g_n : (-2147483648 ≤ n ∧ n ≤ 2147483647)) : e_Ok 20 elay kcode eI d 225 (0, [(0, (1, 0)), (1, (0, n))], [], w) (fun r w' => ∃ z : Int, r = [(0, z)] ∧ kRelF w' ∧ (km3 w w') ∧ rks8 w w') :=
  (e_Ok.both (k_225 hd q hAl g_n) (kq_225 hd q hAl g_n)).imp (fun r w' h => by
    obtain ⟨⟨z, h1, hF, e⟩, f⟩ := h
    exact ⟨z, h1, hF, e, f.r8⟩)
theorem ks8_226 {d : Nat} (hd : 460 ≤ d) {w : eW} (q : kRel w) (hAl : kAl w) : e_Ok 20 elay kcode eI d 226 (0, [(0, (1, 0))], [], w) (fun r w' => ∃ z : Int, r = [(0, z)] ∧ kRelF w' ∧ (km3 w w') ∧ rks8 w w') :=
  (e_Ok.both (k_226 hd q hAl ) (kq_226 hd q hAl )).imp (fun r w' h => by
    obtain ⟨⟨z, h1, hF, e⟩, f⟩ := h
    exact ⟨z, h1, hF, e, f.r8⟩)
theorem ks8_227 {d : Nat} (hd : 460 ≤ d) {w : eW} (q : kRel w) (hAl : kAl w) {a : Int} (g_a : (-2147483648 ≤ a ∧ a ≤ 2147483647)) {b : Int} (g_b : (-2147483648 ≤ b ∧ b ≤ 2147483647)) : e_Ok 20 elay kcode eI d 227 (0, [(0, (1, 0)), (1, (0, a)), (2, (0, b))], [], w) (fun r w' => ∃ z : Int, r = [(0, z)] ∧ kRelF w' ∧ (km3 w w') ∧ rks8 w w') :=
  (e_Ok.both (k_227 hd q hAl g_a g_b) (kq_227 hd q hAl g_a g_b)).imp (fun r w' h => by
    obtain ⟨⟨z, h1, hF, e⟩, f⟩ := h
    exact ⟨z, h1, hF, e, f.r8⟩)
theorem ks8_228 {d : Nat} (hd : 460 ≤ d) {w : eW} (q : kRel w) (hAl : kAl w) {a : Int} (g_a : (-2147483648 ≤ a ∧ a ≤ 2147483647)) {b : Int} (g_b : (-2147483648 ≤ b ∧ b ≤ 2147483647)) : e_Ok 20 elay kcode eI d 228 (0, [(0, (1, 0)), (1, (0, a)), (2, (0, b))], [], w) (fun r w' => ∃ z : Int, r = [(0, z)] ∧ kRelF w' ∧ (km3 w w') ∧ rks8 w w') :=
  (e_Ok.both (k_228 hd q hAl g_a g_b) (kq_228 hd q hAl g_a g_b)).imp (fun r w' h => by
    obtain ⟨⟨z, h1, hF, e⟩, f⟩ := h
    exact ⟨z, h1, hF, e, f.r8⟩)
theorem ks8_229 {d : Nat} (hd : 460 ≤ d) {w : eW} (q : kRel w) (hAl : kAl w) {a : Int} (g_a : (-2147483648 ≤ a ∧ a ≤ 2147483647)) {b : Int} (g_b : (-2147483648 ≤ b ∧ b ≤ 2147483647)) {c : Int} (g_c : (-2147483648 ≤ c ∧ c ≤ 2147483647)) : e_Ok 20 elay kcode eI d 229 (0, [(0, (1, 0)), (1, (0, a)), (2, (0, b)), (3, (0, c))], [], w) (fun r w' => ∃ z : Int, r = [(0, z)] ∧ kRelF w' ∧ (km3 w w') ∧ rks8 w w') :=
  (e_Ok.both (k_229 hd q hAl g_a g_b g_c) (kq_229 hd q hAl g_a g_b g_c)).imp (fun r w' h => by
    obtain ⟨⟨z, h1, hF, e⟩, f⟩ := h
    exact ⟨z, h1, hF, e, f.r8⟩)
theorem ks8_230 {d : Nat} (hd : 460 ≤ d) {w : eW} (q : kRel w) (hAl : kAl w) {a : Int} (g_a : (-2147483648 ≤ a ∧ a ≤ 2147483647)) {b : Int} (g_b : (-2147483648 ≤ b ∧ b ≤ 2147483647)) : e_Ok 20 elay kcode eI d 230 (0, [(0, (1, 0)), (1, (0, a)), (2, (0, b))], [], w) (fun r w' => ∃ z : Int, r = [(0, z)] ∧ kRelF w' ∧ (km3 w w') ∧ rks8 w w') :=
  (e_Ok.both (k_230 hd q hAl g_a g_b) (kq_230 hd q hAl g_a g_b)).imp (fun r w' h => by
    obtain ⟨⟨z, h1, hF, e⟩, f⟩ := h
    exact ⟨z, h1, hF, e, f.r8⟩)
theorem ks8_231 {d : Nat} (hd : 460 ≤ d) {w : eW} (q : kRel w) (hAl : kAl w) {a : Int} (g_a : (-2147483648 ≤ a ∧ a ≤ 2147483647)) {b : Int} (g_b : (-2147483648 ≤ b ∧ b ≤ 2147483647)) : e_Ok 20 elay kcode eI d 231 (0, [(0, (1, 0)), (1, (0, a)), (2, (0, b))], [], w) (fun r w' => ∃ z : Int, r = [(0, z)] ∧ kRelF w' ∧ (km3 w w') ∧ rks8 w w') :=
  (e_Ok.both (k_231 hd q hAl g_a g_b) (kq_231 hd q hAl g_a g_b)).imp (fun r w' h => by
    obtain ⟨⟨z, h1, hF, e⟩, f⟩ := h
    exact ⟨z, h1, hF, e, f.r8⟩)
theorem ks8_232 {d : Nat} (hd : 460 ≤ d) {w : eW} (q : kRel w) (hAl : kAl w) {a : Int} (g_a : (-2147483648 ≤ a ∧ a ≤ 2147483647)) {b : Int} (g_b : (-2147483648 ≤ b ∧ b ≤ 2147483647)) : e_Ok 20 elay kcode eI d 232 (0, [(0, (1, 0)), (1, (0, a)), (2, (0, b))], [], w) (fun r w' => ∃ z : Int, r = [(0, z)] ∧ kRelF w' ∧ (km3 w w') ∧ rks8 w w') :=
  (e_Ok.both (k_232 hd q hAl g_a g_b) (kq_232 hd q hAl g_a g_b)).imp (fun r w' h => by
    obtain ⟨⟨z, h1, hF, e⟩, f⟩ := h
    exact ⟨z, h1, hF, e, f.r8⟩)
theorem ks8_233 {d : Nat} (hd : 460 ≤ d) {w : eW} (q : kRel w) (hAl : kAl w) {a : Int} (g_a : (-2147483648 ≤ a ∧ a ≤ 2147483647)) {b : Int} (g_b : (-2147483648 ≤ b ∧ b ≤ 2147483647)) : e_Ok 20 elay kcode eI d 233 (0, [(0, (1, 0)), (1, (0, a)), (2, (0, b))], [], w) (fun r w' => ∃ z : Int, r = [(0, z)] ∧ kRelF w' ∧ (km3 w w') ∧ rks8 w w') :=
  (e_Ok.both (k_233 hd q hAl g_a g_b) (kq_233 hd q hAl g_a g_b)).imp (fun r w' h => by
    obtain ⟨⟨z, h1, hF, e⟩, f⟩ := h
    exact ⟨z, h1, hF, e, f.r8⟩)
theorem ks8_234 {d : Nat} (hd : 460 ≤ d) {w : eW} (q : kRel w) (hAl : kAl w) {a : Int} (g_a : (-2147483648 ≤ a ∧ a ≤ 2147483647)) : e_Ok 20 elay kcode eI d 234 (0, [(0, (1, 0)), (1, (0, a))], [], w) (fun r w' => ∃ z : Int, r = [(0, z)] ∧ kRelF w' ∧ (km3 w w') ∧ rks8 w w') :=
  (e_Ok.both (k_234 hd q hAl g_a) (kq_234 hd q hAl g_a)).imp (fun r w' h => by
    obtain ⟨⟨z, h1, hF, e⟩, f⟩ := h
    exact ⟨z, h1, hF, e, f.r8⟩)
theorem ks8_235 {d : Nat} (hd : 460 ≤ d) {w : eW} (q : kRel w) (hAl : kAl w) {a : Int} (g_a : (-2147483648 ≤ a ∧ a ≤ 2147483647)) {b : Int} (g_b : (-2147483648 ≤ b ∧ b ≤ 2147483647)) : e_Ok 20 elay kcode eI d 235 (0, [(0, (1, 0)), (1, (0, a)), (2, (0, b))], [], w) (fun r w' => ∃ z : Int, r = [(0, z)] ∧ kRelF w' ∧ (km3 w w') ∧ rks8 w w') :=
  (e_Ok.both (k_235 hd q hAl g_a g_b) (kq_235 hd q hAl g_a g_b)).imp (fun r w' h => by
    obtain ⟨⟨z, h1, hF, e⟩, f⟩ := h
    exact ⟨z, h1, hF, e, f.r8⟩)
theorem ks8_236 {d : Nat} (hd : 460 ≤ d) {w : eW} (q : kRel w) (hAl : kAl w) {a : Int} (g_a : (-2147483648 ≤ a ∧ a ≤ 2147483647)) : e_Ok 20 elay kcode eI d 236 (0, [(0, (1, 0)), (1, (0, a))], [], w) (fun r w' => ∃ z : Int, r = [(0, z)] ∧ kRelF w' ∧ (km3 w w') ∧ rks8 w w') :=
  (e_Ok.both (k_236 hd q hAl g_a) (kq_236 hd q hAl g_a)).imp (fun r w' h => by
    obtain ⟨⟨z, h1, hF, e⟩, f⟩ := h
    exact ⟨z, h1, hF, e, f.r8⟩)
theorem ks8_237 {d : Nat} (hd : 460 ≤ d) {w : eW} (q : kRel w) (hAl : kAl w) : e_Ok 20 elay kcode eI d 237 (0, [(0, (1, 0))], [], w) (fun r w' => ∃ z : Int, r = [(0, z)] ∧ kRelF w' ∧ (km3 w w') ∧ rks8 w w') :=
  (e_Ok.both (k_237 hd q hAl ) (kq_237 hd q hAl )).imp (fun r w' h => by
    obtain ⟨⟨z, h1, hF, e⟩, f⟩ := h
    exact ⟨z, h1, hF, e, f.r8⟩)
theorem ks8_238 {d : Nat} (hd : 460 ≤ d) {w : eW} (q : kRel w) (hAl : kAl w) {a : Int} (g_a : (-2147483648 ≤ a ∧ a ≤ 2147483647)) {b : Int} (g_b : (-2147483648 ≤ b ∧ b ≤ 2147483647)) : e_Ok 20 elay kcode eI d 238 (0, [(0, (1, 0)), (1, (0, a)), (2, (0, b))], [], w) (fun r w' => ∃ z : Int, r = [(0, z)] ∧ kRelF w' ∧ (km3 w w') ∧ rks8 w w') :=
  (e_Ok.both (k_238 hd q hAl g_a g_b) (kq_238 hd q hAl g_a g_b)).imp (fun r w' h => by
    obtain ⟨⟨z, h1, hF, e⟩, f⟩ := h
    exact ⟨z, h1, hF, e, f.r8⟩)
theorem ks8_239 {d : Nat} (hd : 460 ≤ d) {w : eW} (q : kRel w) (hAl : kAl w) {a : Int} (g_a : (-2147483648 ≤ a ∧ a ≤ 2147483647)) {b : Int} (g_b : (-2147483648 ≤ b ∧ b ≤ 2147483647)) : e_Ok 20 elay kcode eI d 239 (0, [(0, (1, 0)), (1, (0, a)), (2, (0, b))], [], w) (fun r w' => ∃ z : Int, r = [(0, z)] ∧ kRelF w' ∧ (km3 w w') ∧ rks8 w w') :=
  (e_Ok.both (k_239 hd q hAl g_a g_b) (kq_239 hd q hAl g_a g_b)).imp (fun r w' h => by
    obtain ⟨⟨z, h1, hF, e⟩, f⟩ := h
    exact ⟨z, h1, hF, e, f.r8⟩)
theorem ks8_240 {d : Nat} (hd : 460 ≤ d) {w : eW} (q : kRel w) (hAl : kAl w) {a : Int} (g_a : (-2147483648 ≤ a ∧ a ≤ 2147483647)) : e_Ok 20 elay kcode eI d 240 (0, [(0, (1, 0)), (1, (0, a))], [], w) (fun r w' => ∃ z : Int, r = [(0, z)] ∧ kRelF w' ∧ (km3 w w') ∧ rks8 w w') :=
  (e_Ok.both (k_240 hd q hAl g_a) (kq_240 hd q hAl g_a)).imp (fun r w' h => by
    obtain ⟨⟨z, h1, hF, e⟩, f⟩ := h
    exact ⟨z, h1, hF, e, f.r8⟩)
theorem ks8_241 {d : Nat} (hd : 460 ≤ d) {w : eW} (q : kRel w) (hAl : kAl w) {a : Int} (g_a : (-2147483648 ≤ a ∧ a ≤ 2147483647)) : e_Ok 20 elay kcode eI d 241 (0, [(0, (1, 0)), (1, (0, a))], [], w) (fun r w' => ∃ z : Int, r = [(0, z)] ∧ kRelF w' ∧ (km3 w w') ∧ rks8 w w') :=
  (e_Ok.both (k_241 hd q hAl g_a) (kq_241 hd q hAl g_a)).imp (fun r w' h => by
    obtain ⟨⟨z, h1, hF, e⟩, f⟩ := h
    exact ⟨z, h1, hF, e, f.r8⟩)
theorem ms8_274 {d : Nat} (hd : 21 ≤ d) {w : eW} (h : mRel w) {a b c e f : Int} : e_Ok 20 elay ecode eI d 274 (0, [(0, (1, 275)), (1, (0, a)), (2, (0, b)), (3, (0, c)), (4, (0, e)), (5, (0, f))], [], w) (fun r w' => ∃ z : Int, r = [(0, z)] ∧ mRel w' ∧ (w' 275 3 = w 275 3 ∧ w' 275 10 = w 275 10 ∧ ((w 275 9 ≤ 3980 ∧ z = w 275 9 + 20 ∧ w' 275 9 = w 275 9 + 20) ∨ (3980 < w 275 9 ∧ z = -3 ∧ w' 275 9 = w 275 9))) ∧ rms8 w w') :=
  (e_Ok.both (m_274 hd h ) (mz_274 hd h )).imp (fun r w' q => by
    obtain ⟨⟨z, h1, hF, e⟩, f⟩ := q
    exact ⟨z, h1, hF, e, f.r8⟩)
theorem ms8_276 {d : Nat} (hd : 21 ≤ d) {w : eW} (h : mRel w) {a : Int} : e_Ok 20 elay ecode eI d 276 (0, [(0, (1, 275)), (1, (0, a))], [], w) (fun r w' => ∃ z : Int, r = [(0, z)] ∧ mRel w' ∧ (w' 275 3 = w 275 3 ∧ w' 275 10 = w 275 10 ∧ ((0 ≤ a ∧ a ≤ w 275 9 ∧ z = w 275 9 - a ∧ w' 275 9 = w 275 9 - a) ∨ ((a < 0 ∨ w 275 9 < a) ∧ z = -1 ∧ w' 275 9 = w 275 9))) ∧ rms8 w w') :=
  (e_Ok.both (m_276 hd h ) (mz_276 hd h )).imp (fun r w' q => by
    obtain ⟨⟨z, h1, hF, e⟩, f⟩ := q
    exact ⟨z, h1, hF, e, f.r8⟩)
theorem ms8_278 {d : Nat} (hd : 24 ≤ d) {w : eW} (h : mRel w) {p1 p2 p3 p4 : Int} (g1 : -2147483648 ≤ p1 ∧ p1 ≤ 2147483647) (g2 : -2147483648 ≤ p2 ∧ p2 ≤ 2147483647) (g3 : -2147483648 ≤ p3 ∧ p3 ≤ 2147483647) (g4 : -2147483648 ≤ p4 ∧ p4 ≤ 2147483647) : e_Ok 20 elay ecode eI d 278 (0, [(0, (1, 275)), (1, (0, p1)), (2, (0, p2)), (3, (0, p3)), (4, (0, p4))], [], w) (fun r w' => ∃ z : Int, r = [(0, z)] ∧ mRel w' ∧ (w' 275 3 = w 275 3 ∧ w' 275 9 = w 275 9 ∧ ((¬ ((-8000 ≤ p1 ∧ p1 ≤ 8000) ∧ (-8000 ≤ p2 ∧ p2 ≤ 8000) ∧ (0 ≤ p3 ∧ p3 ≤ 4095) ∧ (0 ≤ p4 ∧ p4 ≤ 800) ∧ w 275 3 = 0 ∧ w 275 10 ≤ 3) ∧ w' 275 10 = w 275 10) ∨ (((-8000 ≤ p1 ∧ p1 ≤ 8000) ∧ (-8000 ≤ p2 ∧ p2 ≤ 8000) ∧ (0 ≤ p3 ∧ p3 ≤ 4095) ∧ (0 ≤ p4 ∧ p4 ≤ 800) ∧ w 275 3 = 0 ∧ w 275 10 ≤ 3) ∧ w' 275 10 = w 275 10 + 1))) ∧ rms8 w w') :=
  (e_Ok.both (m_278x hd h g1 g2 g3 g4) (mz_278 hd h g1 g2 g3 g4)).imp (fun r w' q => by
    obtain ⟨⟨z, h1, hF, e⟩, f⟩ := q
    exact ⟨z, h1, hF, e, fun c k y => f c k (fun g => by unfold rM8 at y; unfold mF at g; omega)⟩)
theorem ms8_279 {d : Nat} (hd : 23 ≤ d) {w : eW} (h : mRel w) {p1 p2 p3 p4 p5 : Int} (g1 : -2147483648 ≤ p1 ∧ p1 ≤ 2147483647) (g2 : -2147483648 ≤ p2 ∧ p2 ≤ 2147483647) (g3 : -2147483648 ≤ p3 ∧ p3 ≤ 2147483647) (g4 : -2147483648 ≤ p4 ∧ p4 ≤ 2147483647) (g5 : -2147483648 ≤ p5 ∧ p5 ≤ 2147483647) : e_Ok 20 elay ecode eI d 279 (0, [(0, (1, 275)), (1, (0, p1)), (2, (0, p2)), (3, (0, p3)), (4, (0, p4)), (5, (0, p5))], [], w) (fun r w' => ∃ z : Int, r = [(0, z)] ∧ mRel w' ∧ (sm3 w w') ∧ rms8 w w') :=
  (e_Ok.both (m_279 hd h g1 g2 g3 g4 g5) (mz_279 hd h g1 g2 g3 g4 g5)).imp (fun r w' q => by
    obtain ⟨⟨z, h1, hF, e⟩, f⟩ := q
    exact ⟨z, h1, hF, e, fun c k y => f c k (fun g => by unfold rM8 at y; unfold mJo at g; omega)⟩)
theorem ms8_280 {d : Nat} (hd : 24 ≤ d) {w : eW} (h : mRel w) {p1 p2 p3 : Int} (g1 : -2147483648 ≤ p1 ∧ p1 ≤ 2147483647) (g2 : -2147483648 ≤ p2 ∧ p2 ≤ 2147483647) (g3 : -2147483648 ≤ p3 ∧ p3 ≤ 2147483647) : e_Ok 20 elay ecode eI d 280 (0, [(0, (1, 275)), (1, (0, p1)), (2, (0, p2)), (3, (0, p3))], [], w) (fun r w' => ∃ z : Int, r = [(0, z)] ∧ mRel w' ∧ (sm3 w w') ∧ rms8 w w') :=
  (e_Ok.both (m_280 hd h g1 g2 g3) (mz_280 hd h g1 g2 g3)).imp (fun r w' q => by
    obtain ⟨⟨z, h1, hF, e⟩, f⟩ := q
    exact ⟨z, h1, hF, e, fun c k y => f c k (fun g => by unfold rM8 at y; unfold mF at g; omega)⟩)
theorem ms8_281 {d : Nat} (hd : 24 ≤ d) {w : eW} (h : mRel w) {p1 p2 p3 p4 : Int} (g1 : -2147483648 ≤ p1 ∧ p1 ≤ 2147483647) (g2 : -2147483648 ≤ p2 ∧ p2 ≤ 2147483647) (g3 : -2147483648 ≤ p3 ∧ p3 ≤ 2147483647) (g4 : -2147483648 ≤ p4 ∧ p4 ≤ 2147483647) : e_Ok 20 elay ecode eI d 281 (0, [(0, (1, 275)), (1, (0, p1)), (2, (0, p2)), (3, (0, p3)), (4, (0, p4))], [], w) (fun r w' => ∃ z : Int, r = [(0, z)] ∧ mRel w' ∧ (sm3 w w') ∧ rms8 w w') :=
  (e_Ok.both (m_281 hd h g1 g2 g3 g4) (mz_281 hd h g1 g2 g3 g4)).imp (fun r w' q => by
    obtain ⟨⟨z, h1, hF, e⟩, f⟩ := q
    exact ⟨z, h1, hF, e, fun c k y => f c k (fun g => by unfold rM8 at y; unfold mF at g; omega)⟩)
theorem ms8_283 {d : Nat} (hd : 26 ≤ d) {w : eW} (h : mRel w) {p1 p2 p3 : Int} (g1 : -2147483648 ≤ p1 ∧ p1 ≤ 2147483647) (g2 : -2147483648 ≤ p2 ∧ p2 ≤ 2147483647) (g3 : -2147483648 ≤ p3 ∧ p3 ≤ 2147483647) : e_Ok 20 elay ecode eI d 283 (0, [(0, (1, 275)), (1, (0, p1)), (2, (0, p2)), (3, (0, p3))], [], w) (fun r w' => ∃ z : Int, r = [(0, z)] ∧ mRel w' ∧ (sm3 w w') ∧ rms8 w w') :=
  (e_Ok.both (m_283 hd h g1 g2 g3) (mz_283 hd h g1 g2 g3)).imp (fun r w' q => by
    obtain ⟨⟨z, h1, hF, e⟩, f⟩ := q
    exact ⟨z, h1, hF, e, fun c k y => f c k (fun g => by unfold rM8 at y; unfold mF at g; omega)⟩)
theorem ms8_284 {d : Nat} (hd : 26 ≤ d) {w : eW} (h : mRel w) {p1 p2 p3 p4 : Int} (g1 : -2147483648 ≤ p1 ∧ p1 ≤ 2147483647) (g2 : -2147483648 ≤ p2 ∧ p2 ≤ 2147483647) (g3 : -2147483648 ≤ p3 ∧ p3 ≤ 2147483647) (g4 : -2147483648 ≤ p4 ∧ p4 ≤ 2147483647) : e_Ok 20 elay ecode eI d 284 (0, [(0, (1, 275)), (1, (0, p1)), (2, (0, p2)), (3, (0, p3)), (4, (0, p4))], [], w) (fun r w' => ∃ z : Int, r = [(0, z)] ∧ mRel w' ∧ (sm3 w w') ∧ rms8 w w') :=
  (e_Ok.both (m_284 hd h g1 g2 g3 g4) (mz_284 hd h g1 g2 g3 g4)).imp (fun r w' q => by
    obtain ⟨⟨z, h1, hF, e⟩, f⟩ := q
    exact ⟨z, h1, hF, e, fun c k y => f c k (fun g => by unfold rM8 at y; unfold mF at g; omega)⟩)
theorem ms8_285 {d : Nat} (hd : 24 ≤ d) {w : eW} (h : mRel w) {p1 p2 p3 : Int} (g1 : -2147483648 ≤ p1 ∧ p1 ≤ 2147483647) (g2 : -2147483648 ≤ p2 ∧ p2 ≤ 2147483647) (g3 : -2147483648 ≤ p3 ∧ p3 ≤ 2147483647) : e_Ok 20 elay ecode eI d 285 (0, [(0, (1, 275)), (1, (0, p1)), (2, (0, p2)), (3, (0, p3))], [], w) (fun r w' => ∃ z : Int, r = [(0, z)] ∧ mRel w' ∧ (sm3 w w') ∧ rms8 w w') :=
  (e_Ok.both (m_285 hd h g1 g2 g3) (mz_285 hd h g1 g2 g3)).imp (fun r w' q => by
    obtain ⟨⟨z, h1, hF, e⟩, f⟩ := q
    exact ⟨z, h1, hF, e, fun c k y => f c k (fun g => by unfold rM8 at y; unfold mF at g; omega)⟩)
theorem ms8_286 {d : Nat} (hd : 24 ≤ d) {w : eW} (h : mRel w) {p1 p2 p3 p4 p5 : Int} (g1 : -2147483648 ≤ p1 ∧ p1 ≤ 2147483647) (g2 : -2147483648 ≤ p2 ∧ p2 ≤ 2147483647) (g3 : -2147483648 ≤ p3 ∧ p3 ≤ 2147483647) (g4 : -2147483648 ≤ p4 ∧ p4 ≤ 2147483647) (g5 : -2147483648 ≤ p5 ∧ p5 ≤ 2147483647) : e_Ok 20 elay ecode eI d 286 (0, [(0, (1, 275)), (1, (0, p1)), (2, (0, p2)), (3, (0, p3)), (4, (0, p4)), (5, (0, p5))], [], w) (fun r w' => ∃ z : Int, r = [(0, z)] ∧ mRel w' ∧ (sm3 w w') ∧ rms8 w w') :=
  (e_Ok.both (m_286 hd h g1 g2 g3 g4 g5) (mz_286 hd h g1 g2 g3 g4 g5)).imp (fun r w' q => by
    obtain ⟨⟨z, h1, hF, e⟩, f⟩ := q
    exact ⟨z, h1, hF, e, fun c k y => f c k (fun g => by unfold rM8 at y; unfold mF at g; omega)⟩)
theorem ms8_287 {d : Nat} (hd : 24 ≤ d) {w : eW} (h : mRel w) {p1 p2 : Int} (g1 : -2147483648 ≤ p1 ∧ p1 ≤ 2147483647) (g2 : -2147483648 ≤ p2 ∧ p2 ≤ 2147483647) : e_Ok 20 elay ecode eI d 287 (0, [(0, (1, 275)), (1, (0, p1)), (2, (0, p2))], [], w) (fun r w' => ∃ z : Int, r = [(0, z)] ∧ mRel w' ∧ (sm3 w w') ∧ rms8 w w') :=
  (e_Ok.both (m_287 hd h g1 g2) (mz_287 hd h g1 g2)).imp (fun r w' q => by
    obtain ⟨⟨z, h1, hF, e⟩, f⟩ := q
    exact ⟨z, h1, hF, e, fun c k y => f c k (fun g => by unfold rM8 at y; unfold mF at g; omega)⟩)
theorem ms8_288 {d : Nat} (hd : 24 ≤ d) {w : eW} (h : mRel w) {p1 p2 p3 p4 : Int} (g1 : -2147483648 ≤ p1 ∧ p1 ≤ 2147483647) (g2 : -2147483648 ≤ p2 ∧ p2 ≤ 2147483647) (g3 : -2147483648 ≤ p3 ∧ p3 ≤ 2147483647) (g4 : -2147483648 ≤ p4 ∧ p4 ≤ 2147483647) : e_Ok 20 elay ecode eI d 288 (0, [(0, (1, 275)), (1, (0, p1)), (2, (0, p2)), (3, (0, p3)), (4, (0, p4))], [], w) (fun r w' => ∃ z : Int, r = [(0, z)] ∧ mRel w' ∧ (sm3 w w') ∧ rms8 w w') :=
  (e_Ok.both (m_288 hd h g1 g2 g3 g4) (mz_288 hd h g1 g2 g3 g4)).imp (fun r w' q => by
    obtain ⟨⟨z, h1, hF, e⟩, f⟩ := q
    exact ⟨z, h1, hF, e, fun c k y => f c k (fun g => by unfold rM8 at y; unfold mF at g; omega)⟩)
theorem ms8_289 {d : Nat} (hd : 24 ≤ d) {w : eW} (h : mRel w) {p1 p2 p3 : Int} (g1 : -2147483648 ≤ p1 ∧ p1 ≤ 2147483647) (g2 : -2147483648 ≤ p2 ∧ p2 ≤ 2147483647) (g3 : -2147483648 ≤ p3 ∧ p3 ≤ 2147483647) : e_Ok 20 elay ecode eI d 289 (0, [(0, (1, 275)), (1, (0, p1)), (2, (0, p2)), (3, (0, p3))], [], w) (fun r w' => ∃ z : Int, r = [(0, z)] ∧ mRel w' ∧ (sm3 w w') ∧ rms8 w w') :=
  (e_Ok.both (m_289 hd h g1 g2 g3) (mz_289 hd h g1 g2 g3)).imp (fun r w' q => by
    obtain ⟨⟨z, h1, hF, e⟩, f⟩ := q
    exact ⟨z, h1, hF, e, fun c k y => f c k (fun g => by unfold rM8 at y; unfold mPr at g; omega)⟩)
theorem ms8_290 {d : Nat} (hd : 24 ≤ d) {w : eW} (h : mRel w) {p1 p2 p3 : Int} (g1 : -2147483648 ≤ p1 ∧ p1 ≤ 2147483647) (g2 : -2147483648 ≤ p2 ∧ p2 ≤ 2147483647) (g3 : -2147483648 ≤ p3 ∧ p3 ≤ 2147483647) : e_Ok 20 elay ecode eI d 290 (0, [(0, (1, 275)), (1, (0, p1)), (2, (0, p2)), (3, (0, p3))], [], w) (fun r w' => ∃ z : Int, r = [(0, z)] ∧ mRel w' ∧ (sm3 w w') ∧ rms8 w w') :=
  (e_Ok.both (m_290 hd h g1 g2 g3) (mz_290 hd h g1 g2 g3)).imp (fun r w' q => by
    obtain ⟨⟨z, h1, hF, e⟩, f⟩ := q
    exact ⟨z, h1, hF, e, fun c k y => f c k (fun g => by unfold rM8 at y; unfold mPr at g; omega)⟩)
theorem ms8_291 {d : Nat} (hd : 24 ≤ d) {w : eW} (h : mRel w) {p1 p2 p3 p4 p5 : Int} (g1 : -2147483648 ≤ p1 ∧ p1 ≤ 2147483647) (g2 : -2147483648 ≤ p2 ∧ p2 ≤ 2147483647) (g3 : -2147483648 ≤ p3 ∧ p3 ≤ 2147483647) (g4 : -2147483648 ≤ p4 ∧ p4 ≤ 2147483647) (g5 : -2147483648 ≤ p5 ∧ p5 ≤ 2147483647) : e_Ok 20 elay ecode eI d 291 (0, [(0, (1, 275)), (1, (0, p1)), (2, (0, p2)), (3, (0, p3)), (4, (0, p4)), (5, (0, p5))], [], w) (fun r w' => ∃ z : Int, r = [(0, z)] ∧ mRel w' ∧ (sm3 w w') ∧ rms8 w w') :=
  (e_Ok.both (m_291 hd h g1 g2 g3 g4 g5) (mz_291 hd h g1 g2 g3 g4 g5)).imp (fun r w' q => by
    obtain ⟨⟨z, h1, hF, e⟩, f⟩ := q
    exact ⟨z, h1, hF, e, fun c k y => f c k (fun g => by unfold rM8 at y; unfold mF at g; omega)⟩)
theorem ms8_292 {d : Nat} (hd : 24 ≤ d) {w : eW} (h : mRel w) {p1 p2 : Int} (g1 : -2147483648 ≤ p1 ∧ p1 ≤ 2147483647) (g2 : -2147483648 ≤ p2 ∧ p2 ≤ 2147483647) : e_Ok 20 elay ecode eI d 292 (0, [(0, (1, 275)), (1, (0, p1)), (2, (0, p2))], [], w) (fun r w' => ∃ z : Int, r = [(0, z)] ∧ mRel w' ∧ (sm3 w w') ∧ rms8 w w') :=
  (e_Ok.both (m_292 hd h g1 g2) (mz_292 hd h g1 g2)).imp (fun r w' q => by
    obtain ⟨⟨z, h1, hF, e⟩, f⟩ := q
    exact ⟨z, h1, hF, e, fun c k y => f c k (fun g => by unfold rM8 at y; unfold mF at g; omega)⟩)
theorem ms8_293 {d : Nat} (hd : 24 ≤ d) {w : eW} (h : mRel w) {p1 : Int} (g1 : -2147483648 ≤ p1 ∧ p1 ≤ 2147483647) : e_Ok 20 elay ecode eI d 293 (0, [(0, (1, 275)), (1, (0, p1))], [], w) (fun r w' => ∃ z : Int, r = [(0, z)] ∧ mRel w' ∧ (sm3 w w') ∧ rms8 w w') :=
  (e_Ok.both (m_293 hd h g1) (mz_293 hd h g1)).imp (fun r w' q => by
    obtain ⟨⟨z, h1, hF, e⟩, f⟩ := q
    exact ⟨z, h1, hF, e, fun c k y => f c k (fun g => by unfold rM8 at y; unfold mF at g; omega)⟩)
theorem ms8_294 {d : Nat} (hd : 24 ≤ d) {w : eW} (h : mRel w) {p1 p2 : Int} (g1 : -2147483648 ≤ p1 ∧ p1 ≤ 2147483647) (g2 : 0 ≤ p2 ∧ p2 ≤ 1) : e_Ok 20 elay ecode eI d 294 (0, [(0, (1, 275)), (1, (0, p1)), (2, (0, p2))], [], w) (fun r w' => ∃ z : Int, r = [(0, z)] ∧ mRel w' ∧ (sm3 w w') ∧ rms8 w w') :=
  (e_Ok.both (m_294 hd h g1 g2) (mz_294 hd h g1 g2)).imp (fun r w' q => by
    obtain ⟨⟨z, h1, hF, e⟩, f⟩ := q
    exact ⟨z, h1, hF, e, fun c k y => f c k (fun g => by unfold rM8 at y; unfold mF at g; omega)⟩)
theorem ms8_296 {d : Nat} (hd : 25 ≤ d) {w : eW} (h : mRel w) : e_Ok 20 elay ecode eI d 296 (0, [(0, (1, 275))], [], w) (fun r w' => ∃ z : Int, r = [(0, z)] ∧ mRel w' ∧ (w' 275 3 = 1 ∧ w' 275 9 = w 275 9 ∧ w' 275 10 = w 275 10) ∧ rms8 w w') :=
  (e_Ok.both (m_296 hd h ) (mz_296 hd h )).imp (fun r w' q => by
    obtain ⟨⟨z, h1, hF, e⟩, f⟩ := q
    exact ⟨z, h1, hF, e, f.r8⟩)
theorem ms8_318 {d : Nat} (hd : 27 ≤ d) {w : eW} (h : mRel w) {p1 p2 : Int} (g1 : -2147483648 ≤ p1 ∧ p1 ≤ 2147483647) (g2 : -2147483648 ≤ p2 ∧ p2 ≤ 2147483647) : e_Ok 20 elay ecode eI d 318 (0, [(0, (1, 275)), (1, (0, p1)), (2, (0, p2))], [], w) (fun r w' => ∃ z : Int, r = [(0, z)] ∧ mRel w' ∧ (sm3 w w') ∧ rms8 w w') :=
  (e_Ok.both (m_318 hd h g1 g2) (mz_318 hd h g1 g2)).imp (fun r w' q => by
    obtain ⟨⟨z, h1, hF, e⟩, f⟩ := q
    exact ⟨z, h1, hF, e, f.r8⟩)
theorem ms8_357 {d : Nat} (hd : 424 ≤ d) {w : eW} (h : mRel w) {p1 : Int} (g1 : -2147483648 ≤ p1 ∧ p1 ≤ 2147483647) : e_Ok 20 elay ecode eI d 357 (0, [(0, (1, 275)), (1, (0, p1))], [], w) (fun r w' => ∃ z : Int, r = [(0, z)] ∧ mRel w' ∧ (w' 275 3 = w 275 3 ∧ w' 275 10 = w 275 10 ∧ ((w = w' ∧ ¬ (w 275 3 = 0 ∧ 0 ≤ p1 ∧ p1 < w 275 10)) ∨ (w 275 3 = 0 ∧ (0 ≤ p1 ∧ p1 < w 275 10) ∧ w' 275 9 = 0))) ∧ rms8 w w') :=
  (e_Ok.both (m_357 hd h g1) (mz_357 hd h g1)).imp (fun r w' q => by
    obtain ⟨⟨z, h1, hF, e⟩, f⟩ := q
    exact ⟨z, h1, hF, e, f.r8⟩)
theorem ms8_358 {d : Nat} (hd : 23 ≤ d) {w : eW} (h : mRel w) {p1 : Int} (g1 : -2147483648 ≤ p1 ∧ p1 ≤ 2147483647) : e_Ok 20 elay ecode eI d 358 (0, [(0, (1, 275)), (1, (0, p1))], [], w) (fun r w' => ∃ z : Int, r = [(0, z)] ∧ mRel w' ∧ (sm3 w w') ∧ rms8 w w') :=
  (e_Ok.both (m_358 hd h g1) (mz_358 hd h g1)).imp (fun r w' q => by
    obtain ⟨⟨z, h1, hF, e⟩, f⟩ := q
    exact ⟨z, h1, hF, e, f.r8⟩)
theorem ms8_418 {d : Nat} (hd : 33 ≤ d) {w : eW} (h : mRel w) {p1 p2 p3 : Int} (g1 : -2147483648 ≤ p1 ∧ p1 ≤ 2147483647) (g2 : -2147483648 ≤ p2 ∧ p2 ≤ 2147483647) (g3 : -2147483648 ≤ p3 ∧ p3 ≤ 2147483647) : e_Ok 20 elay ecode eI d 418 (0, [(0, (1, 275)), (1, (0, p1)), (2, (0, p2)), (3, (0, p3))], [], w) (fun r w' => ∃ z : Int, r = [(0, z)] ∧ mRelF w' ∧ (sm3 w w') ∧ rms8 w w') :=
  (e_Ok.both (m_418 hd h g1 g2 g3) (mz_418 hd h g1 g2 g3)).imp (fun r w' q => by
    obtain ⟨⟨z, h1, hF, e⟩, f⟩ := q
    exact ⟨z, h1, hF, e, f.r8⟩)
theorem ms8_419 {d : Nat} (hd : 27 ≤ d) {w : eW} (h : mRel w) {p1 : Int} (g1 : -2147483648 ≤ p1 ∧ p1 ≤ 2147483647) : e_Ok 20 elay ecode eI d 419 (0, [(0, (1, 275)), (1, (0, p1))], [], w) (fun r w' => ∃ z : Int, r = [(0, z)] ∧ mRelF w' ∧ (sm3 w w') ∧ rms8 w w') :=
  (e_Ok.both (m_419 hd h g1) (mz_419 hd h g1)).imp (fun r w' q => by
    obtain ⟨⟨z, h1, hF, e⟩, f⟩ := q
    exact ⟨z, h1, hF, e, f.r8⟩)
theorem ms8_425 {d : Nat} (hd : 27 ≤ d) {w : eW} (h : mRel w) {p1 p2 : Int} (g1 : -2147483648 ≤ p1 ∧ p1 ≤ 2147483647) (g2 : -2147483648 ≤ p2 ∧ p2 ≤ 2147483647) : e_Ok 20 elay ecode eI d 425 (0, [(0, (1, 275)), (1, (0, p1)), (2, (0, p2))], [], w) (fun r w' => ∃ z : Int, r = [(0, z)] ∧ mRelF w' ∧ (sm3 w w') ∧ rms8 w w') :=
  (e_Ok.both (m_425 hd h g1 g2) (mz_425 hd h g1 g2)).imp (fun r w' q => by
    obtain ⟨⟨z, h1, hF, e⟩, f⟩ := q
    exact ⟨z, h1, hF, e, f.r8⟩)
theorem ms8_426 {d : Nat} (hd : 45 ≤ d) {w : eW} (h : mRel w) {p1 : Int} (g1 : -2147483648 ≤ p1 ∧ p1 ≤ 2147483647) : e_Ok 20 elay ecode eI d 426 (0, [(0, (1, 275)), (1, (0, p1))], [], w) (fun r w' => ∃ z : Int, r = [(0, z)] ∧ mRelF w' ∧ (sm3 w w') ∧ rms8 w w') :=
  (e_Ok.both (m_426 hd h g1) (mz_426 hd h g1)).imp (fun r w' q => by
    obtain ⟨⟨z, h1, hF, e⟩, f⟩ := q
    exact ⟨z, h1, hF, e, f.r8⟩)
theorem ms8_427 {d : Nat} (hd : 25 ≤ d) {w : eW} (h : mRel w) {p1 p2 : Int} (g1 : -2147483648 ≤ p1 ∧ p1 ≤ 2147483647) (g2 : -2147483648 ≤ p2 ∧ p2 ≤ 2147483647) : e_Ok 20 elay ecode eI d 427 (0, [(0, (1, 275)), (1, (0, p1)), (2, (0, p2))], [], w) (fun r w' => ∃ z : Int, r = [(0, z)] ∧ mRelF w' ∧ (sm3 w w') ∧ rms8 w w') :=
  (e_Ok.both (m_427 hd h g1 g2) (mz_427 hd h g1 g2)).imp (fun r w' q => by
    obtain ⟨⟨z, h1, hF, e⟩, f⟩ := q
    exact ⟨z, h1, hF, e, f.r8⟩)
theorem ms8_428 {d : Nat} (hd : 27 ≤ d) {w : eW} (h : mRel w) {p1 p2 p3 : Int} (g1 : -2147483648 ≤ p1 ∧ p1 ≤ 2147483647) (g2 : -2147483648 ≤ p2 ∧ p2 ≤ 2147483647) (g3 : -2147483648 ≤ p3 ∧ p3 ≤ 2147483647) (hz3 : 0 ≤ p3 ∧ p3 ≤ 1) : e_Ok 20 elay ecode eI d 428 (0, [(0, (1, 275)), (1, (0, p1)), (2, (0, p2)), (3, (0, p3))], [], w) (fun r w' => ∃ z : Int, r = [(0, z)] ∧ mRelF w' ∧ (sm3 w w') ∧ rms8 w w') :=
  (e_Ok.both (m_428 hd h g1 g2 g3 hz3) (mz_428 hd h g1 g2 g3 hz3)).imp (fun r w' q => by
    obtain ⟨⟨z, h1, hF, e⟩, f⟩ := q
    exact ⟨z, h1, hF, e, f.r8⟩)
theorem ms8_429 {d : Nat} (hd : 25 ≤ d) {w : eW} (h : mRel w) {p1 p2 p3 : Int} (g1 : -2147483648 ≤ p1 ∧ p1 ≤ 2147483647) (g2 : -2147483648 ≤ p2 ∧ p2 ≤ 2147483647) (g3 : -2147483648 ≤ p3 ∧ p3 ≤ 2147483647) (hz2 : 0 ≤ p2 ∧ p2 ≤ 1) (hz3 : 0 ≤ p3 ∧ p3 ≤ 1) : e_Ok 20 elay ecode eI d 429 (0, [(0, (1, 275)), (1, (0, p1)), (2, (0, p2)), (3, (0, p3))], [], w) (fun r w' => ∃ z : Int, r = [(0, z)] ∧ mRelF w' ∧ (sm3 w w') ∧ rms8 w w') :=
  (e_Ok.both (m_429 hd h g1 g2 g3 hz2 hz3) (mz_429 hd h g1 g2 g3 hz2 hz3)).imp (fun r w' q => by
    obtain ⟨⟨z, h1, hF, e⟩, f⟩ := q
    exact ⟨z, h1, hF, e, f.r8⟩)
theorem ms8_430 {d : Nat} (hd : 27 ≤ d) {w : eW} (h : mRel w) {p1 : Int} (g1 : -2147483648 ≤ p1 ∧ p1 ≤ 2147483647) : e_Ok 20 elay ecode eI d 430 (0, [(0, (1, 275)), (1, (0, p1))], [], w) (fun r w' => ∃ z : Int, r = [(0, z)] ∧ mRelF w' ∧ (sm3 w w') ∧ rms8 w w') :=
  (e_Ok.both (m_430 hd h g1) (mz_430 hd h g1)).imp (fun r w' q => by
    obtain ⟨⟨z, h1, hF, e⟩, f⟩ := q
    exact ⟨z, h1, hF, e, f.r8⟩)
theorem ms8_431 {d : Nat} (hd : 27 ≤ d) {w : eW} (h : mRel w) {p1 : Int} (g1 : -2147483648 ≤ p1 ∧ p1 ≤ 2147483647) : e_Ok 20 elay ecode eI d 431 (0, [(0, (1, 275)), (1, (0, p1))], [], w) (fun r w' => ∃ z : Int, r = [(0, z)] ∧ mRelF w' ∧ (sm3 w w') ∧ rms8 w w') :=
  (e_Ok.both (m_431 hd h g1) (mz_431 hd h g1)).imp (fun r w' q => by
    obtain ⟨⟨z, h1, hF, e⟩, f⟩ := q
    exact ⟨z, h1, hF, e, f.r8⟩)
theorem ms8_432 {d : Nat} (hd : 25 ≤ d) {w : eW} (h : mRel w) {p1 : Int} (g1 : -2147483648 ≤ p1 ∧ p1 ≤ 2147483647) : e_Ok 20 elay ecode eI d 432 (0, [(0, (1, 275)), (1, (0, p1))], [], w) (fun r w' => ∃ z : Int, r = [(0, z)] ∧ mRelF w' ∧ (sm3 w w') ∧ rms8 w w') :=
  (e_Ok.both (m_432 hd h g1) (mz_432 hd h g1)).imp (fun r w' q => by
    obtain ⟨⟨z, h1, hF, e⟩, f⟩ := q
    exact ⟨z, h1, hF, e, f.r8⟩)
theorem ms8_433 {d : Nat} (hd : 27 ≤ d) {w : eW} (h : mRel w) {p1 p2 p3 : Int} (g1 : -2147483648 ≤ p1 ∧ p1 ≤ 2147483647) (g2 : -2147483648 ≤ p2 ∧ p2 ≤ 2147483647) (g3 : -2147483648 ≤ p3 ∧ p3 ≤ 2147483647) : e_Ok 20 elay ecode eI d 433 (0, [(0, (1, 275)), (1, (0, p1)), (2, (0, p2)), (3, (0, p3))], [], w) (fun r w' => ∃ z : Int, r = [(0, z)] ∧ mRelF w' ∧ (sm3 w w') ∧ rms8 w w') :=
  (e_Ok.both (m_433 hd h g1 g2 g3) (mz_433 hd h g1 g2 g3)).imp (fun r w' q => by
    obtain ⟨⟨z, h1, hF, e⟩, f⟩ := q
    exact ⟨z, h1, hF, e, f.r8⟩)
theorem ms8_434 {d : Nat} (hd : 25 ≤ d) {w : eW} (h : mRel w) {p1 p2 : Int} (g1 : -2147483648 ≤ p1 ∧ p1 ≤ 2147483647) (g2 : -2147483648 ≤ p2 ∧ p2 ≤ 2147483647) : e_Ok 20 elay ecode eI d 434 (0, [(0, (1, 275)), (1, (0, p1)), (2, (0, p2))], [], w) (fun r w' => ∃ z : Int, r = [(0, z)] ∧ mRelF w' ∧ (sm3 w w') ∧ rms8 w w') :=
  (e_Ok.both (m_434 hd h g1 g2) (mz_434 hd h g1 g2)).imp (fun r w' q => by
    obtain ⟨⟨z, h1, hF, e⟩, f⟩ := q
    exact ⟨z, h1, hF, e, f.r8⟩)
theorem ms8_436 {d : Nat} (hd : 49 ≤ d) {w : eW} (h : mRel w) {p1 : Int} (g1 : -2147483648 ≤ p1 ∧ p1 ≤ 2147483647) : e_Ok 20 elay ecode eI d 436 (0, [(0, (1, 275)), (1, (0, p1))], [], w) (fun r w' => ∃ z : Int, r = [(0, z)] ∧ mRelF w' ∧ (sm3 w w') ∧ rms8 w w') :=
  (e_Ok.both (m_436 hd h g1) (mz_436 hd h g1)).imp (fun r w' q => by
    obtain ⟨⟨z, h1, hF, e⟩, f⟩ := q
    exact ⟨z, h1, hF, e, f.r8⟩)
theorem ms8_437 {d : Nat} (hd : 23 ≤ d) {w : eW} (h : mRel w) : e_Ok 20 elay ecode eI d 437 (0, [(0, (1, 275))], [], w) (fun r w' => ∃ z : Int, r = [(0, z)] ∧ mRel w' ∧ (sm3 w w') ∧ rms8 w w') :=
  (e_Ok.both (m_437 hd h ) (mz_437 hd h )).imp (fun r w' q => by
    obtain ⟨⟨z, h1, hF, e⟩, f⟩ := q
    exact ⟨z, h1, hF, e, f.r8⟩)
theorem ms8_438 {d : Nat} (hd : 23 ≤ d) {w : eW} (h : mRel w) {p1 p2 : Int} (g1 : -2147483648 ≤ p1 ∧ p1 ≤ 2147483647) (g2 : -2147483648 ≤ p2 ∧ p2 ≤ 2147483647) : e_Ok 20 elay ecode eI d 438 (0, [(0, (1, 275)), (1, (0, p1)), (2, (0, p2))], [], w) (fun r w' => ∃ z : Int, r = [(0, z)] ∧ mRel w' ∧ (sm3 w w') ∧ rms8 w w') :=
  (e_Ok.both (m_438 hd h g1 g2) (mz_438 hd h g1 g2)).imp (fun r w' q => by
    obtain ⟨⟨z, h1, hF, e⟩, f⟩ := q
    exact ⟨z, h1, hF, e, f.r8⟩)
theorem ms8_439 {d : Nat} (hd : 23 ≤ d) {w : eW} (h : mRel w) {p1 p2 : Int} (g1 : -2147483648 ≤ p1 ∧ p1 ≤ 2147483647) (g2 : -2147483648 ≤ p2 ∧ p2 ≤ 2147483647) : e_Ok 20 elay ecode eI d 439 (0, [(0, (1, 275)), (1, (0, p1)), (2, (0, p2))], [], w) (fun r w' => ∃ z : Int, r = [(0, z)] ∧ mRel w' ∧ (sm3 w w') ∧ rms8 w w') :=
  (e_Ok.both (m_439 hd h g1 g2) (mz_439 hd h g1 g2)).imp (fun r w' q => by
    obtain ⟨⟨z, h1, hF, e⟩, f⟩ := q
    exact ⟨z, h1, hF, e, f.r8⟩)
theorem ms8_440 {d : Nat} (hd : 24 ≤ d) {w : eW} (h : mRel w) {p1 p2 p3 : Int} (g1 : -2147483648 ≤ p1 ∧ p1 ≤ 2147483647) (g2 : -2147483648 ≤ p2 ∧ p2 ≤ 2147483647) (g3 : -2147483648 ≤ p3 ∧ p3 ≤ 2147483647) : e_Ok 20 elay ecode eI d 440 (0, [(0, (1, 275)), (1, (0, p1)), (2, (0, p2)), (3, (0, p3))], [], w) (fun r w' => ∃ z : Int, r = [(0, z)] ∧ mRel w' ∧ (sm3 w w') ∧ rms8 w w') :=
  (e_Ok.both (m_440 hd h g1 g2 g3) (mz_440 hd h g1 g2 g3)).imp (fun r w' q => by
    obtain ⟨⟨z, h1, hF, e⟩, f⟩ := q
    exact ⟨z, h1, hF, e, f.r8⟩)
theorem ms8_441 {d : Nat} (hd : 23 ≤ d) {w : eW} (h : mRel w) {p1 p2 : Int} (g1 : -2147483648 ≤ p1 ∧ p1 ≤ 2147483647) (g2 : -2147483648 ≤ p2 ∧ p2 ≤ 2147483647) : e_Ok 20 elay ecode eI d 441 (0, [(0, (1, 275)), (1, (0, p1)), (2, (0, p2))], [], w) (fun r w' => ∃ z : Int, r = [(0, z)] ∧ mRel w' ∧ (sm3 w w') ∧ rms8 w w') :=
  (e_Ok.both (m_441 hd h g1 g2) (mz_441 hd h g1 g2)).imp (fun r w' q => by
    obtain ⟨⟨z, h1, hF, e⟩, f⟩ := q
    exact ⟨z, h1, hF, e, f.r8⟩)
theorem ms8_442 {d : Nat} (hd : 23 ≤ d) {w : eW} (h : mRel w) {p1 p2 : Int} (g1 : -2147483648 ≤ p1 ∧ p1 ≤ 2147483647) (g2 : -2147483648 ≤ p2 ∧ p2 ≤ 2147483647) : e_Ok 20 elay ecode eI d 442 (0, [(0, (1, 275)), (1, (0, p1)), (2, (0, p2))], [], w) (fun r w' => ∃ z : Int, r = [(0, z)] ∧ mRel w' ∧ (sm3 w w') ∧ rms8 w w') :=
  (e_Ok.both (m_442 hd h g1 g2) (mz_442 hd h g1 g2)).imp (fun r w' q => by
    obtain ⟨⟨z, h1, hF, e⟩, f⟩ := q
    exact ⟨z, h1, hF, e, f.r8⟩)
theorem ms8_443 {d : Nat} (hd : 23 ≤ d) {w : eW} (h : mRel w) {p1 p2 : Int} (g1 : -2147483648 ≤ p1 ∧ p1 ≤ 2147483647) (g2 : -2147483648 ≤ p2 ∧ p2 ≤ 2147483647) : e_Ok 20 elay ecode eI d 443 (0, [(0, (1, 275)), (1, (0, p1)), (2, (0, p2))], [], w) (fun r w' => ∃ z : Int, r = [(0, z)] ∧ mRel w' ∧ (sm3 w w') ∧ rms8 w w') :=
  (e_Ok.both (m_443 hd h g1 g2) (mz_443 hd h g1 g2)).imp (fun r w' q => by
    obtain ⟨⟨z, h1, hF, e⟩, f⟩ := q
    exact ⟨z, h1, hF, e, f.r8⟩)
theorem ms8_444 {d : Nat} (hd : 23 ≤ d) {w : eW} (h : mRel w) {p1 p2 : Int} (g1 : -2147483648 ≤ p1 ∧ p1 ≤ 2147483647) (g2 : -2147483648 ≤ p2 ∧ p2 ≤ 2147483647) : e_Ok 20 elay ecode eI d 444 (0, [(0, (1, 275)), (1, (0, p1)), (2, (0, p2))], [], w) (fun r w' => ∃ z : Int, r = [(0, z)] ∧ mRel w' ∧ (sm3 w w') ∧ rms8 w w') :=
  (e_Ok.both (m_444 hd h g1 g2) (mz_444 hd h g1 g2)).imp (fun r w' q => by
    obtain ⟨⟨z, h1, hF, e⟩, f⟩ := q
    exact ⟨z, h1, hF, e, f.r8⟩)
theorem ms8_445 {d : Nat} (hd : 23 ≤ d) {w : eW} (h : mRel w) {p1 : Int} (g1 : -2147483648 ≤ p1 ∧ p1 ≤ 2147483647) : e_Ok 20 elay ecode eI d 445 (0, [(0, (1, 275)), (1, (0, p1))], [], w) (fun r w' => ∃ z : Int, r = [(0, z)] ∧ mRel w' ∧ (sm3 w w') ∧ rms8 w w') :=
  (e_Ok.both (m_445 hd h g1) (mz_445 hd h g1)).imp (fun r w' q => by
    obtain ⟨⟨z, h1, hF, e⟩, f⟩ := q
    exact ⟨z, h1, hF, e, f.r8⟩)
theorem ms8_446 {d : Nat} (hd : 27 ≤ d) {w : eW} (h : mRel w) {p1 p2 : Int} (g1 : -2147483648 ≤ p1 ∧ p1 ≤ 2147483647) (g2 : -2147483648 ≤ p2 ∧ p2 ≤ 2147483647) : e_Ok 20 elay ecode eI d 446 (0, [(0, (1, 275)), (1, (0, p1)), (2, (0, p2))], [], w) (fun r w' => ∃ z : Int, r = [(0, z)] ∧ mRel w' ∧ (sm3 w w') ∧ rms8 w w') :=
  (e_Ok.both (m_446 hd h g1 g2) (mz_446 hd h g1 g2)).imp (fun r w' q => by
    obtain ⟨⟨z, h1, hF, e⟩, f⟩ := q
    exact ⟨z, h1, hF, e, f.r8⟩)
theorem ms8_447 {d : Nat} (hd : 23 ≤ d) {w : eW} (h : mRel w) {p1 : Int} (g1 : -2147483648 ≤ p1 ∧ p1 ≤ 2147483647) : e_Ok 20 elay ecode eI d 447 (0, [(0, (1, 275)), (1, (0, p1))], [], w) (fun r w' => ∃ z : Int, r = [(0, z)] ∧ mRel w' ∧ (sm3 w w') ∧ rms8 w w') :=
  (e_Ok.both (m_447 hd h g1) (mz_447 hd h g1)).imp (fun r w' q => by
    obtain ⟨⟨z, h1, hF, e⟩, f⟩ := q
    exact ⟨z, h1, hF, e, f.r8⟩)
theorem ms8_448 {d : Nat} (hd : 23 ≤ d) {w : eW} (h : mRel w) : e_Ok 20 elay ecode eI d 448 (0, [(0, (1, 275))], [], w) (fun r w' => ∃ z : Int, r = [(0, z)] ∧ mRel w' ∧ (sm3 w w') ∧ rms8 w w') :=
  (e_Ok.both (m_448 hd h ) (mz_448 hd h )).imp (fun r w' q => by
    obtain ⟨⟨z, h1, hF, e⟩, f⟩ := q
    exact ⟨z, h1, hF, e, f.r8⟩)
theorem ms8_449 {d : Nat} (hd : 23 ≤ d) {w : eW} (h : mRel w) {p1 p2 : Int} (g1 : -2147483648 ≤ p1 ∧ p1 ≤ 2147483647) (g2 : -2147483648 ≤ p2 ∧ p2 ≤ 2147483647) : e_Ok 20 elay ecode eI d 449 (0, [(0, (1, 275)), (1, (0, p1)), (2, (0, p2))], [], w) (fun r w' => ∃ z : Int, r = [(0, z)] ∧ mRel w' ∧ (sm3 w w') ∧ rms8 w w') :=
  (e_Ok.both (m_449 hd h g1 g2) (mz_449 hd h g1 g2)).imp (fun r w' q => by
    obtain ⟨⟨z, h1, hF, e⟩, f⟩ := q
    exact ⟨z, h1, hF, e, f.r8⟩)
theorem ms8_450 {d : Nat} (hd : 23 ≤ d) {w : eW} (h : mRel w) {p1 : Int} (g1 : -2147483648 ≤ p1 ∧ p1 ≤ 2147483647) : e_Ok 20 elay ecode eI d 450 (0, [(0, (1, 275)), (1, (0, p1))], [], w) (fun r w' => ∃ z : Int, r = [(0, z)] ∧ mRel w' ∧ (sm3 w w') ∧ rms8 w w') :=
  (e_Ok.both (m_450 hd h g1) (mz_450 hd h g1)).imp (fun r w' q => by
    obtain ⟨⟨z, h1, hF, e⟩, f⟩ := q
    exact ⟨z, h1, hF, e, f.r8⟩)
theorem ms8_451 {d : Nat} (hd : 23 ≤ d) {w : eW} (h : mRel w) {p1 : Int} (g1 : -2147483648 ≤ p1 ∧ p1 ≤ 2147483647) : e_Ok 20 elay ecode eI d 451 (0, [(0, (1, 275)), (1, (0, p1))], [], w) (fun r w' => ∃ z : Int, r = [(0, z)] ∧ mRel w' ∧ (sm3 w w') ∧ rms8 w w') :=
  (e_Ok.both (m_451 hd h g1) (mz_451 hd h g1)).imp (fun r w' q => by
    obtain ⟨⟨z, h1, hF, e⟩, f⟩ := q
    exact ⟨z, h1, hF, e, f.r8⟩)
end
