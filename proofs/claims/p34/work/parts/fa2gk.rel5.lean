noncomputable section
/-! counts of what was told: the same on both sides -/
def rK (c k : Int) : Prop := (c = 250 ∧ (k = 0 ∨ k = 1)) ∨ (c = 19 ∧ (k = 0 ∨ k = 1)) ∨ (c = 74 ∧ k = 2) ∨ c = 20 ∨ c = 21 ∨ c = 257
def rM (c k : Int) : Prop := (c = 275 ∧ (k = 23 ∨ k = 30 ∨ k = 40 ∨ k = 42 ∨ k = 49)) ∨ c = 303 ∨ c = 304 ∨ c = 315
def rks (w w' : eW) : Prop := ∀ c k, rK c k → w' c k = w c k
def rms (w w' : eW) : Prop := ∀ c k, rM c k → w' c k = w c k
theorem rK_cf {c k : Int} (h : rK c k) : kCf c k := by
  unfold rK at h
  unfold kCf
  omega
theorem rM_cf {c k : Int} (h : rM c k) : mCfg c k := by
  unfold rM at h
  unfold mCfg
  omega
theorem kcs.r {w w' : eW} (h : kcs w w') : rks w w' := fun c k y => h c k (rK_cf y)
theorem mcs.r {w w' : eW} (h : mcs w w') : rms w w' := fun c k y => h c k (rM_cf y)
def lw5 (u : eW) : Prop := (u 275 23 = u 250 0 ∧ u 275 30 = u 19 0 ∧ u 275 40 = u 19 1 ∧ u 275 42 = u 250 1 ∧ u 275 49 = u 74 2) ∧ (∀ b, 0 ≤ b → b < u 19 0 → u 303 b = u 20 b ∧ u 304 b = u 21 b) ∧ ∀ z, 0 ≤ z → z < u 250 1 → u 315 z = u 257 z
theorem lw5.keep {u v : eW} (h : lw5 u) (hK : rks u v) (hM : rms u v) : lw5 v := by
  obtain ⟨⟨a1, a2, a3, a4, a5⟩, h2, h3⟩ := h
  have k1 := hK 250 0 (by unfold rK; omega)
  have k2 := hK 250 1 (by unfold rK; omega)
  have k3 := hK 19 0 (by unfold rK; omega)
  have k4 := hK 19 1 (by unfold rK; omega)
  have k5 := hK 74 2 (by unfold rK; omega)
  have m1 := hM 275 23 (by unfold rM; omega)
  have m2 := hM 275 30 (by unfold rM; omega)
  have m3 := hM 275 40 (by unfold rM; omega)
  have m4 := hM 275 42 (by unfold rM; omega)
  have m5 := hM 275 49 (by unfold rM; omega)
  refine ⟨⟨by omega, by omega, by omega, by omega, by omega⟩, fun b b0 b1 => ?_, fun z z0 z1 => ?_⟩
  · rw [hM 303 b (by unfold rM; omega), hM 304 b (by unfold rM; omega), hK 20 b (by unfold rK; omega), hK 21 b (by unfold rK; omega)]
    exact h2 b b0 (by omega)
  · rw [hM 315 z (by unfold rM; omega), hK 257 z (by unfold rK; omega)]
    exact h3 z z0 (by omega)
/-- what a call leaves is left on the machine -/
theorem L_st {B : Int → Prop} {u w1 v : eW} (ha : e_all u) (hf : e_Lf B u w1 v) {c k : Int} (hc : B c) (e : w1 c k = e_PB B u c k) : v c k = u c k := by
  rw [e_PB_in hc] at e
  exact (hf.val hc (by rw [e]; exact ha c k)).trans e
theorem L_vl {B : Int → Prop} {u w1 v : eW} (hf : e_Lf B u w1 v) {c k x : Int} (hc : B c) (hx : kn1 x) (e : w1 c k = x) : v c k = x := (hf.val hc (by rw [e]; exact hx)).trans e
theorem rK_B {c k : Int} (h : rK c k) : Bk c ∧ ¬ Bm c := by
  unfold rK at h
  unfold Bk Bm
  omega
theorem rM_B {c k : Int} (h : rM c k) : Bm c ∧ ¬ Bk c := by
  unfold rM at h
  unfold Bk Bm
  omega
theorem lw5_same {u w1 v w2 v2 : eW} (h0 : lw0 u) (h5 : lw5 u) (hf1 : e_Lf Bk u w1 v) (e1 : rks (e_PB Bk u) w1) (hf2 : e_Lf Bm v w2 v2) (e2 : rms (e_PB Bm v) w2) : lw5 v2 :=
  h5.keep (fun c k y => (hf2.2.2.1 c k (rK_B y).2).trans (L_st h0.1 hf1 (rK_B y).1 (e1 c k y))) (fun c k y => (L_st hf1.2.2.2.2.1 hf2 (rM_B y).1 (e2 c k y)).trans (hf1.2.2.1 c k (rM_B y).2))

theorem ks_190 {d : Nat} (hd : 460 ≤ d) {w : eW} (q : kRel w) (hAl : kAl w) {a : Int} (g_a : (-2147483648 ≤ a ∧ a ≤ 2147483647)) {b : Int} (g_b : (-2147483648 ≤ b ∧ b ≤ 2147483647)) {c : Int} (g_c : (-2147483648 ≤ c ∧ c ≤ 2147483647)) {e : Int} (g_e : (-2147483648 ≤ e ∧ e ≤ 2147483647)) {g : Int} (g_g : (-2147483648 ≤ g ∧ g ≤ 2147483647)) : e_Ok 20 elay kcode eI d 190 (0, [(0, (1, 0)), (1, (0, a)), (2, (0, b)), (3, (0, c)), (4, (0, e)), (5, (0, g))], [], w) (fun r w' => ∃ z : Int, r = [(0, z)] ∧ kRelF w' ∧ (((3980 < w 1 0 ∧ z = -3 ∧ km3 w w') ∨ (w 1 0 ≤ 3980 ∧ z = w 1 0 + 20 ∧ w' 0 13 = w 0 13 ∧ w' 1 0 = w 1 0 + 20 ∧ w' 0 11 = w 0 11))) ∧ rks w w') :=
  (e_Ok.both (k_190 hd q hAl g_a g_b g_c g_e g_g) (kq_190 hd q hAl g_a g_b g_c g_e g_g)).imp (fun r w' h => by
    obtain ⟨⟨z, h1, hF, e⟩, f⟩ := h
    exact ⟨z, h1, hF, e, f.r⟩)
theorem ks_191 {d : Nat} (hd : 460 ≤ d) {w : eW} (q : kRel w) (hAl : kAl w) {a : Int} (g_a : (-2147483648 ≤ a ∧ a ≤ 2147483647)) : e_Ok 20 elay kcode eI d 191 (0, [(0, (1, 0)), (1, (0, a))], [], w) (fun r w' => ∃ z : Int, r = [(0, z)] ∧ kRelF w' ∧ ((((a < 0 ∨ w 1 0 < a) ∧ z = -1 ∧ km3 w w') ∨ ((0 ≤ a ∧ a ≤ w 1 0) ∧ z = w 1 0 - a ∧ w' 0 13 = w 0 13 ∧ w' 1 0 = w 1 0 - a ∧ w' 0 11 = w 0 11))) ∧ rks w w') :=
  (e_Ok.both (k_191 hd q hAl g_a) (kq_191 hd q hAl g_a)).imp (fun r w' h => by
    obtain ⟨⟨z, h1, hF, e⟩, f⟩ := h
    exact ⟨z, h1, hF, e, f.r⟩)
theorem ks_193 {d : Nat} (hd : 460 ≤ d) {w : eW} (q : kRel w) (hAl : kAl w) {x : Int} (g_x : (-2147483648 ≤ x ∧ x ≤ 2147483647)) {y : Int} (g_y : (-2147483648 ≤ y ∧ y ≤ 2147483647)) {u : Int} (g_u : (-2147483648 ≤ u ∧ u ≤ 2147483647)) {v : Int} (g_v : (-2147483648 ≤ v ∧ v ≤ 2147483647)) : e_Ok 20 elay kcode eI d 193 (0, [(0, (1, 0)), (1, (0, x)), (2, (0, y)), (3, (0, u)), (4, (0, v))], [], w) (fun r w' => ∃ z : Int, r = [(0, z)] ∧ kRelF w' ∧ (((km3 w w' ∧ ¬ ((-8000 ≤ x ∧ x ≤ 8000) ∧ (-8000 ≤ y ∧ y ≤ 8000) ∧ (0 ≤ u ∧ u ≤ 4095) ∧ (0 ≤ v ∧ v ≤ 800) ∧ w 0 13 = 0 ∧ w 0 11 ≤ 3)) ∨ (((-8000 ≤ x ∧ x ≤ 8000) ∧ (-8000 ≤ y ∧ y ≤ 8000) ∧ (0 ≤ u ∧ u ≤ 4095) ∧ (0 ≤ v ∧ v ≤ 800) ∧ w 0 13 = 0 ∧ w 0 11 ≤ 3) ∧ w' 0 13 = w 0 13 ∧ w' 1 0 = w 1 0 ∧ w' 0 11 = w 0 11 + 1))) ∧ rks w w') :=
  (e_Ok.both (k_193 hd q hAl g_x g_y g_u g_v) (kq_193 hd q hAl g_x g_y g_u g_v)).imp (fun r w' h => by
    obtain ⟨⟨z, h1, hF, e⟩, f⟩ := h
    have hw0 := e_Has.get q.1 (c := 0) (k := 11) (lo := 0) (hi := 4) rfl (by decide)
    exact ⟨z, h1, hF, e, fun c k y => by
        rcases f with rfl | ⟨hn, f, -⟩
        · rfl
        · have hcd := q.hC (w 0 11) hw0.1 hn
          unfold isCd at hcd
          refine f c k (fun g => ?_)
          unfold rK at y
          unfold kAa kMk at g
          generalize w (17 * w 0 11 + 86) 7 = cd at hcd g
          rcases hcd with rfl | rfl | rfl | rfl | rfl <;> omega⟩)
theorem ks_194 {d : Nat} (hd : 460 ≤ d) {w : eW} (q : kRel w) (hAl : kAl w) {a : Int} (g_a : (-2147483648 ≤ a ∧ a ≤ 2147483647)) {kd : Int} (g_kd : (-2147483648 ≤ kd ∧ kd ≤ 2147483647)) {lo : Int} (g_lo : (-2147483648 ≤ lo ∧ lo ≤ 2147483647)) {hi : Int} (g_hi : (-2147483648 ≤ hi ∧ hi ≤ 2147483647)) {ln : Int} (g_ln : (-2147483648 ≤ ln ∧ ln ≤ 2147483647)) : e_Ok 20 elay kcode eI d 194 (0, [(0, (1, 0)), (1, (0, a)), (2, (0, kd)), (3, (0, lo)), (4, (0, hi)), (5, (0, ln))], [], w) (fun r w' => ∃ z : Int, r = [(0, z)] ∧ kRelF w' ∧ (km3 w w') ∧ rks w w') :=
  (e_Ok.both (k_194 hd q hAl g_a g_kd g_lo g_hi g_ln) (kq_194 hd q hAl g_a g_kd g_lo g_hi g_ln)).imp (fun r w' h => by
    obtain ⟨⟨z, h1, hF, e⟩, f⟩ := h
    exact ⟨z, h1, hF, e, fun c k y => by
      rcases f with rfl | ⟨ga, f⟩
      · rfl
      · exact f c k (fun g => by unfold rK at y; unfold kAj at g; omega)⟩)
theorem ks_195 {d : Nat} (hd : 460 ≤ d) {w : eW} (q : kRel w) (hAl : kAl w) {a : Int} (g_a : (-2147483648 ≤ a ∧ a ≤ 2147483647)) {b : Int} (g_b : (-2147483648 ≤ b ∧ b ≤ 2147483647)) {c : Int} (g_c : (-2147483648 ≤ c ∧ c ≤ 2147483647)) {e : Int} (g_e : (-2147483648 ≤ e ∧ e ≤ 2147483647)) : e_Ok 20 elay kcode eI d 195 (0, [(0, (1, 0)), (1, (0, a)), (2, (0, b)), (3, (0, c)), (4, (0, e))], [], w) (fun r w' => ∃ z : Int, r = [(0, z)] ∧ kRelF w' ∧ (km3 w w') ∧ rks w w') :=
  (e_Ok.both (k_195 hd q hAl g_a g_b g_c g_e) (kq_195 hd q hAl g_a g_b g_c g_e)).imp (fun r w' h => by
    obtain ⟨⟨z, h1, hF, e⟩, f⟩ := h
    exact ⟨z, h1, hF, e, fun c k y => by
      rcases f with rfl | ⟨ga, gb, f⟩
      · rfl
      · exact f c k (fun g => by unfold rK at y; unfold kBj at g; omega)⟩)
theorem ks_196 {d : Nat} (hd : 460 ≤ d) {w : eW} (q : kRel w) (hAl : kAl w) {a : Int} (g_a : (-2147483648 ≤ a ∧ a ≤ 2147483647)) {b : Int} (g_b : (-2147483648 ≤ b ∧ b ≤ 2147483647)) {c : Int} (g_c : (-2147483648 ≤ c ∧ c ≤ 2147483647)) : e_Ok 20 elay kcode eI d 196 (0, [(0, (1, 0)), (1, (0, a)), (2, (0, b)), (3, (0, c))], [], w) (fun r w' => ∃ z : Int, r = [(0, z)] ∧ kRelF w' ∧ (km3 w w') ∧ rks w w') :=
  (e_Ok.both (k_196 hd q hAl g_a g_b g_c) (kq_196 hd q hAl g_a g_b g_c)).imp (fun r w' h => by
    obtain ⟨⟨z, h1, hF, e⟩, f⟩ := h
    exact ⟨z, h1, hF, e, fun c k y => by
      rcases f with rfl | ⟨ga, gb, f⟩
      · rfl
      · exact f c k (fun g => by unfold rK at y; unfold kBr at g; omega)⟩)
theorem ks_199 {d : Nat} (hd : 460 ≤ d) {w : eW} (q : kRel w) (hAl : kAl w) {a : Int} (g_a : (-2147483648 ≤ a ∧ a ≤ 2147483647)) {b : Int} (g_b : (-2147483648 ≤ b ∧ b ≤ 2147483647)) {c : Int} (g_c : (-2147483648 ≤ c ∧ c ≤ 2147483647)) : e_Ok 20 elay kcode eI d 199 (0, [(0, (1, 0)), (1, (0, a)), (2, (0, b)), (3, (0, c))], [], w) (fun r w' => ∃ z : Int, r = [(0, z)] ∧ kRelF w' ∧ (km3 w w') ∧ rks w w') :=
  (e_Ok.both (k_199 hd q hAl g_a g_b g_c) (kq_199 hd q hAl g_a g_b g_c)).imp (fun r w' h => by
    obtain ⟨⟨z, h1, hF, e⟩, f⟩ := h
    exact ⟨z, h1, hF, e, fun c k y => by
      rcases f with rfl | ⟨ga, f⟩
      · rfl
      · exact f c k (fun g => by unfold rK at y; unfold kSd at g; omega)⟩)
theorem ks_202 {d : Nat} (hd : 460 ≤ d) {w : eW} (q : kRel w) (hAl : kAl w) {a : Int} (g_a : (-2147483648 ≤ a ∧ a ≤ 2147483647)) {b : Int} (g_b : (-2147483648 ≤ b ∧ b ≤ 2147483647)) {c : Int} (g_c : (-2147483648 ≤ c ∧ c ≤ 2147483647)) {e : Int} (g_e : (-2147483648 ≤ e ∧ e ≤ 2147483647)) : e_Ok 20 elay kcode eI d 202 (0, [(0, (1, 0)), (1, (0, a)), (2, (0, b)), (3, (0, c)), (4, (0, e))], [], w) (fun r w' => ∃ z : Int, r = [(0, z)] ∧ kRelF w' ∧ (km3 w w') ∧ rks w w') :=
  (e_Ok.both (k_202 hd q hAl g_a g_b g_c g_e) (kq_202 hd q hAl g_a g_b g_c g_e)).imp (fun r w' h => by
    obtain ⟨⟨z, h1, hF, e⟩, f⟩ := h
    exact ⟨z, h1, hF, e, fun c k y => f c k (fun g => by unfold rK at y; unfold kBs at g; omega)⟩)
theorem ks_208 {d : Nat} (hd : 460 ≤ d) {w : eW} (q : kRel w) (hAl : kAl w) {a : Int} (g_a : (-2147483648 ≤ a ∧ a ≤ 2147483647)) {b : Int} (g_b : (0 ≤ b ∧ b ≤ 1)) : e_Ok 20 elay kcode eI d 208 (0, [(0, (1, 0)), (1, (0, a)), (2, (0, b))], [], w) (fun r w' => ∃ z : Int, r = [(0, z)] ∧ kRelF w' ∧ (km3 w w') ∧ rks w w') :=
  (e_Ok.both (k_208 hd q hAl g_a g_b) (kq_208 hd q hAl g_a g_b)).imp (fun r w' h => by
    obtain ⟨⟨z, h1, hF, e⟩, f⟩ := h
    exact ⟨z, h1, hF, e, fun c k y => f c k (fun g => by unfold rK at y; unfold kBp at g; omega)⟩)
theorem ks_209 {d : Nat} (hd : 460 ≤ d) {w : eW} (q : kRel w) (hAl : kAl w) {a : Int} (g_a : (-2147483648 ≤ a ∧ a ≤ 2147483647)) {b : Int} (g_b : (-2147483648 ≤ b ∧ b ≤ 2147483647)) {c : Int} (g_c : (0 ≤ c ∧ c ≤ 1)) : e_Ok 20 elay kcode eI d 209 (0, [(0, (1, 0)), (1, (0, a)), (2, (0, b)), (3, (0, c))], [], w) (fun r w' => ∃ z : Int, r = [(0, z)] ∧ kRelF w' ∧ (km3 w w') ∧ rks w w') :=
  (e_Ok.both (k_209 hd q hAl g_a g_b g_c) (kq_209 hd q hAl g_a g_b g_c)).imp (fun r w' h => by
    obtain ⟨⟨z, h1, hF, e⟩, f⟩ := h
    exact ⟨z, h1, hF, e, fun c k y => f c k (fun g => by unfold rK at y; unfold kCn at g; omega)⟩)
theorem ks_210 {d : Nat} (hd : 460 ≤ d) {w : eW} (q : kRel w) (hAl : kAl w) {a : Int} (g_a : (-2147483648 ≤ a ∧ a ≤ 2147483647)) : e_Ok 20 elay kcode eI d 210 (0, [(0, (1, 0)), (1, (0, a))], [], w) (fun r w' => ∃ z : Int, r = [(0, z)] ∧ kRelF w' ∧ (((km3 w w' ∧ (w 0 13 = 1 ∨ a < 0 ∨ w 0 11 ≤ a)) ∨ ((w 0 13 = 0 ∧ 0 ≤ a ∧ a < w 0 11) ∧ w' 0 13 = w 0 13 ∧ w' 1 0 = 0 ∧ w' 0 11 = w 0 11))) ∧ rks w w') :=
  (e_Ok.both (k_210 hd q hAl g_a) (kq_210 hd q hAl g_a)).imp (fun r w' h => by
    obtain ⟨⟨z, h1, hF, e⟩, f⟩ := h
    exact ⟨z, h1, hF, e, f.r⟩)
theorem ks_211 {d : Nat} (hd : 460 ≤ d) {w : eW} (q : kRel w) (hAl : kAl w) {a : Int} (g_a : (-2147483648 ≤ a ∧ a ≤ 2147483647)) : e_Ok 20 elay kcode eI d 211 (0, [(0, (1, 0)), (1, (0, a))], [], w) (fun r w' => ∃ z : Int, r = [(0, z)] ∧ kRelF w' ∧ (km3 w w') ∧ rks w w') :=
  (e_Ok.both (k_211 hd q hAl g_a) (kq_211 hd q hAl g_a)).imp (fun r w' h => by
    obtain ⟨⟨z, h1, hF, e⟩, f⟩ := h
    exact ⟨z, h1, hF, e, f.r⟩)
theorem ks_212 {d : Nat} (hd : 460 ≤ d) {w : eW} (q : kRel w) (hAl : kAl w) : e_Ok 20 elay kcode eI d 212 (0, [(0, (1, 0))], [], w) (fun r w' => ∃ z : Int, r = [(0, z)] ∧ kRelF w' ∧ (((w 0 13 = 1 ∧ km3 w w') ∨ (w 0 13 = 0 ∧ w' 0 13 = 1 ∧ w' 1 0 = w 1 0 ∧ w' 0 11 = w 0 11))) ∧ rks w w') :=
  (e_Ok.both (k_212 hd q hAl ) (kq_212 hd q hAl )).imp (fun r w' h => by
    obtain ⟨⟨z, h1, hF, e⟩, f⟩ := h
    exact ⟨z, h1, hF, e, f.r⟩)
theorem ks_213 {d : Nat} (hd : 460 ≤ d) {w : eW} (q : kRel w) (hAl : kAl w) {a : Int} (g_a : (-2147483648 ≤ a ∧ a ≤ 2147483647)) {b : Int} (g_b : (-2147483648 ≤ b ∧ b ≤ 2147483647)) : e_Ok 20 elay kcode eI d 213 (0, [(0, (1, 0)), (1, (0, a)), (2, (0, b))], [], w) (fun r w' => ∃ z : Int, r = [(0, z)] ∧ kRelF w' ∧ (km3 w w') ∧ rks w w') :=
  (e_Ok.both (k_213 hd q hAl g_a g_b) (kq_213 hd q hAl g_a g_b)).imp (fun r w' h => by
    obtain ⟨⟨z, h1, hF, e⟩, f⟩ := h
    exact ⟨z, h1, hF, e, f.r⟩)
theorem ks_214 {d : Nat} (hd : 460 ≤ d) {w : eW} (q : kRel w) (hAl : kAl w) {n : Int} (g_n : (-2147483648 ≤ n ∧ n ≤ 2147483647)) : e_Ok 20 elay kcode eI d 214 (0, [(0, (1, 0)), (1, (0, n))], [], w) (fun r w' => ∃ z : Int, r = [(0, z)] ∧ kRelF w' ∧ (km3 w w') ∧ rks w w') :=
  (e_Ok.both (k_214 hd q hAl g_n) (kq_214 hd q hAl g_n)).imp (fun r w' h => by
    obtain ⟨⟨z, h1, hF, e⟩, f⟩ := h
    exact ⟨z, h1, hF, e, f.r⟩)
theorem ks_215 {d : Nat} (hd : 460 ≤ d) {w : eW} (q : kRel w) (hAl : kAl w) {a : Int} (g_a : (-2147483648 ≤ a ∧ a ≤ 2147483647)) {b : Int} (g_b : (-2147483648 ≤ b ∧ b ≤ 2147483647)) : e_Ok 20 elay kcode eI d 215 (0, [(0, (1, 0)), (1, (0, a)), (2, (0, b))], [], w) (fun r w' => ∃ z : Int, r = [(0, z)] ∧ kRelF w' ∧ (km3 w w') ∧ rks w w') :=
  (e_Ok.both (k_215 hd q hAl g_a g_b) (kq_215 hd q hAl g_a g_b)).imp (fun r w' h => by
    obtain ⟨⟨z, h1, hF, e⟩, f⟩ := h
    exact ⟨z, h1, hF, e, f.r⟩)
theorem ks_216 {d : Nat} (hd : 460 ≤ d) {w : eW} (q : kRel w) (hAl : kAl w) {a : Int} (g_a : (-2147483648 ≤ a ∧ a ≤ 2147483647)) {b : Int} (g_b : (-2147483648 ≤ b ∧ b ≤ 2147483647)) {c : Int} (g_c : (0 ≤ c ∧ c ≤ 1)) : e_Ok 20 elay kcode eI d 216 (0, [(0, (1, 0)), (1, (0, a)), (2, (0, b)), (3, (0, c))], [], w) (fun r w' => ∃ z : Int, r = [(0, z)] ∧ kRelF w' ∧ (km3 w w') ∧ rks w w') :=
  (e_Ok.both (k_216 hd q hAl g_a g_b g_c) (kq_216 hd q hAl g_a g_b g_c)).imp (fun r w' h => by
    obtain ⟨⟨z, h1, hF, e⟩, f⟩ := h
    exact ⟨z, h1, hF, e, f.r⟩)
theorem ks_217 {d : Nat} (hd : 460 ≤ d) {w : eW} (q : kRel w) (hAl : kAl w) {a : Int} (g_a : (-2147483648 ≤ a ∧ a ≤ 2147483647)) {b : Int} (g_b : (0 ≤ b ∧ b ≤ 1)) {c : Int} (g_c : (0 ≤ c ∧ c ≤ 1)) : e_Ok 20 elay kcode eI d 217 (0, [(0, (1, 0)), (1, (0, a)), (2, (0, b)), (3, (0, c))], [], w) (fun r w' => ∃ z : Int, r = [(0, z)] ∧ kRelF w' ∧ (km3 w w') ∧ rks w w') :=
  (e_Ok.both (k_217 hd q hAl g_a g_b g_c) (kq_217 hd q hAl g_a g_b g_c)).imp (fun r w' h => by
    obtain ⟨⟨z, h1, hF, e⟩, f⟩ := h
    exact ⟨z, h1, hF, e, f.r⟩)
theorem ks_218 {d : Nat} (hd : 460 ≤ d) {w : eW} (q : kRel w) (hAl : kAl w) {a : Int} (g_a : (-2147483648 ≤ a ∧ a ≤ 2147483647)) : e_Ok 20 elay kcode eI d 218 (0, [(0, (1, 0)), (1, (0, a))], [], w) (fun r w' => ∃ z : Int, r = [(0, z)] ∧ kRelF w' ∧ (km3 w w') ∧ rks w w') :=
  (e_Ok.both (k_218 hd q hAl g_a) (kq_218 hd q hAl g_a)).imp (fun r w' h => by
    obtain ⟨⟨z, h1, hF, e⟩, f⟩ := h
    exact ⟨z, h1, hF, e, f.r⟩)
theorem ks_219 {d : Nat} (hd : 460 ≤ d) {w : eW} (q : kRel w) (hAl : kAl w) {a : Int} (g_a : (-2147483648 ≤ a ∧ a ≤ 2147483647)) : e_Ok 20 elay kcode eI d 219 (0, [(0, (1, 0)), (1, (0, a))], [], w) (fun r w' => ∃ z : Int, r = [(0, z)] ∧ kRelF w' ∧ (km3 w w') ∧ rks w w') :=
  (e_Ok.both (k_219 hd q hAl g_a) (kq_219 hd q hAl g_a)).imp (fun r w' h => by
    obtain ⟨⟨z, h1, hF, e⟩, f⟩ := h
    exact ⟨z, h1, hF, e, f.r⟩)
theorem ks_220 {d : Nat} (hd : 460 ≤ d) {w : eW} (q : kRel w) (hAl : kAl w) {a : Int} (g_a : (-2147483648 ≤ a ∧ a ≤ 2147483647)) : e_Ok 20 elay kcode eI d 220 (0, [(0, (1, 0)), (1, (0, a))], [], w) (fun r w' => ∃ z : Int, r = [(0, z)] ∧ kRelF w' ∧ (km3 w w') ∧ rks w w') :=
  (e_Ok.both (k_220 hd q hAl g_a) (kq_220 hd q hAl g_a)).imp (fun r w' h => by
    obtain ⟨⟨z, h1, hF, e⟩, f⟩ := h
    exact ⟨z, h1, hF, e, f.r⟩)
theorem ks_221 {d : Nat} (hd : 460 ≤ d) {w : eW} (q : kRel w) (hAl : kAl w) {a : Int} (g_a : (-2147483648 ≤ a ∧ a ≤ 2147483647)) {b : Int} (g_b : (-2147483648 ≤ b ∧ b ≤ 2147483647)) {c : Int} (g_c : (-2147483648 ≤ c ∧ c ≤ 2147483647)) : e_Ok 20 elay kcode eI d 221 (0, [(0, (1, 0)), (1, (0, a)), (2, (0, b)), (3, (0, c))], [], w) (fun r w' => ∃ z : Int, r = [(0, z)] ∧ kRelF w' ∧ (km3 w w') ∧ rks w w') :=
  (e_Ok.both (k_221 hd q hAl g_a g_b g_c) (kq_221 hd q hAl g_a g_b g_c)).imp (fun r w' h => by
    obtain ⟨⟨z, h1, hF, e⟩, f⟩ := h
    exact ⟨z, h1, hF, e, f.r⟩)
theorem ks_222 {d : Nat} (hd : 460 ≤ d) {w : eW} (q : kRel w) (hAl : kAl w) {a : Int} (g_a : (-2147483648 ≤ a ∧ a ≤ 2147483647)) {b : Int} (g_b : (-2147483648 ≤ b ∧ b ≤ 2147483647)) : e_Ok 20 elay kcode eI d 222 (0, [(0, (1, 0)), (1, (0, a)), (2, (0, b))], [], w) (fun r w' => ∃ z : Int, r = [(0, z)] ∧ kRelF w' ∧ (km3 w w') ∧ rks w w') :=
  (e_Ok.both (k_222 hd q hAl g_a g_b) (kq_222 hd q hAl g_a g_b)).imp (fun r w' h => by
    obtain ⟨⟨z, h1, hF, e⟩, f⟩ := h
    exact ⟨z, h1, hF, e, f.r⟩)
theorem ks_223 {d : Nat} (hd : 460 ≤ d) {w : eW} (q : kRel w) (hAl : kAl w) {a : Int} (g_a : (-2147483648 ≤ a ∧ a ≤ 2147483647)) {n : Int} (g_n : (-2147483648 ≤ n ∧ n ≤ 2147483647)) {e : Int} (g_e : (-2147483648 ≤ e ∧ e ≤ 2147483647)) : e_Ok 20 elay kcode eI d 223 (0, [(0, (1, 0)), (1, (0, a)), (2, (0, n)), (3, (0, e))], [], w) (fun r w' => ∃ z : Int, r = [(0, z)] ∧ kRelF w' ∧ (km3 w w') ∧ rks w w') :=
  (e_Ok.both (k_223 hd q hAl g_a g_n g_e) (kq_223 hd q hAl g_a g_n g_e)).imp (fun r w' h => by
    obtain ⟨⟨z, h1, hF, e⟩, f⟩ := h
    exact ⟨z, h1, hF, e, f.r⟩)
theorem ks_224 {d : Nat} (hd : 460 ≤ d) {w : eW} (q : kRel w) (hAl : kAl w) {a : Int} (g_a : (-2147483648 ≤ a ∧ a ≤ 2147483647)) : e_Ok 20 elay kcode eI d 224 (0, [(0, (1, 0)), (1, (0, a))], [], w) (fun r w' => ∃ z : Int, r = [(0, z)] ∧ kRelF w' ∧ (km3 w w') ∧ rks w w') :=
  (e_Ok.both (k_224 hd q hAl g_a) (kq_224 hd q hAl g_a)).imp (fun r w' h => by
    obtain ⟨⟨z, h1, hF, e⟩, f⟩ := h
    exact ⟨z, h1, hF, e, f.r⟩)
theorem ks_225 {d : Nat} (hd : 460 ≤ d) {w : eW} (q : kRel w) (hAl : kAl w) {n : Int} (g_n : (-2147483648 ≤ n ∧ n ≤ 2147483647)) : e_Ok 20 elay kcode eI d 225 (0, [(0, (1, 0)), (1, (0, n))], [], w) (fun r w' => ∃ z : Int, r = [(0, z)] ∧ kRelF w' ∧ (km3 w w') ∧ rks w w') :=
  (e_Ok.both (k_225 hd q hAl g_n) (kq_225 hd q hAl g_n)).imp (fun r w' h => by
    obtain ⟨⟨z, h1, hF, e⟩, f⟩ := h
    exact ⟨z, h1, hF, e, f.r⟩)
theorem ks_226 {d : Nat} (hd : 460 ≤ d) {w : eW} (q : kRel w) (hAl : kAl w) : e_Ok 20 elay kcode eI d 226 (0, [(0, (1, 0))], [], w) (fun r w' => ∃ z : Int, r = [(0, z)] ∧ kRelF w' ∧ (km3 w w') ∧ rks w w') :=
  (e_Ok.both (k_226 hd q hAl ) (kq_226 hd q hAl )).imp (fun r w' h => by
    obtain ⟨⟨z, h1, hF, e⟩, f⟩ := h
    exact ⟨z, h1, hF, e, f.r⟩)
theorem ks_227 {d : Nat} (hd : 460 ≤ d) {w : eW} (q : kRel w) (hAl : kAl w) {a : Int} (g_a : (-2147483648 ≤ a ∧ a ≤ 2147483647)) {b : Int} (g_b : (-2147483648 ≤ b ∧ b ≤ 2147483647)) : e_Ok 20 elay kcode eI d 227 (0, [(0, (1, 0)), (1, (0, a)), (2, (0, b))], [], w) (fun r w' => ∃ z : Int, r = [(0, z)] ∧ kRelF w' ∧ (km3 w w') ∧ rks w w') :=
  (e_Ok.both (k_227 hd q hAl g_a g_b) (kq_227 hd q hAl g_a g_b)).imp (fun r w' h => by
    obtain ⟨⟨z, h1, hF, e⟩, f⟩ := h
    exact ⟨z, h1, hF, e, f.r⟩)
theorem ks_228 {d : Nat} (hd : 460 ≤ d) {w : eW} (q : kRel w) (hAl : kAl w) {a : Int} (g_a : (-2147483648 ≤ a ∧ a ≤ 2147483647)) {b : Int} (g_b : (-2147483648 ≤ b ∧ b ≤ 2147483647)) : e_Ok 20 elay kcode eI d 228 (0, [(0, (1, 0)), (1, (0, a)), (2, (0, b))], [], w) (fun r w' => ∃ z : Int, r = [(0, z)] ∧ kRelF w' ∧ (km3 w w') ∧ rks w w') :=
  (e_Ok.both (k_228 hd q hAl g_a g_b) (kq_228 hd q hAl g_a g_b)).imp (fun r w' h => by
    obtain ⟨⟨z, h1, hF, e⟩, f⟩ := h
    exact ⟨z, h1, hF, e, f.r⟩)
theorem ks_229 {d : Nat} (hd : 460 ≤ d) {w : eW} (q : kRel w) (hAl : kAl w) {a : Int} (g_a : (-2147483648 ≤ a ∧ a ≤ 2147483647)) {b : Int} (g_b : (-2147483648 ≤ b ∧ b ≤ 2147483647)) {c : Int} (g_c : (-2147483648 ≤ c ∧ c ≤ 2147483647)) : e_Ok 20 elay kcode eI d 229 (0, [(0, (1, 0)), (1, (0, a)), (2, (0, b)), (3, (0, c))], [], w) (fun r w' => ∃ z : Int, r = [(0, z)] ∧ kRelF w' ∧ (km3 w w') ∧ rks w w') :=
  (e_Ok.both (k_229 hd q hAl g_a g_b g_c) (kq_229 hd q hAl g_a g_b g_c)).imp (fun r w' h => by
    obtain ⟨⟨z, h1, hF, e⟩, f⟩ := h
    exact ⟨z, h1, hF, e, f.r⟩)
theorem ks_230 {d : Nat} (hd : 460 ≤ d) {w : eW} (q : kRel w) (hAl : kAl w) {a : Int} (g_a : (-2147483648 ≤ a ∧ a ≤ 2147483647)) {b : Int} (g_b : (-2147483648 ≤ b ∧ b ≤ 2147483647)) : e_Ok 20 elay kcode eI d 230 (0, [(0, (1, 0)), (1, (0, a)), (2, (0, b))], [], w) (fun r w' => ∃ z : Int, r = [(0, z)] ∧ kRelF w' ∧ (km3 w w') ∧ rks w w') :=
  (e_Ok.both (k_230 hd q hAl g_a g_b) (kq_230 hd q hAl g_a g_b)).imp (fun r w' h => by
    obtain ⟨⟨z, h1, hF, e⟩, f⟩ := h
    exact ⟨z, h1, hF, e, f.r⟩)
theorem ks_231 {d : Nat} (hd : 460 ≤ d) {w : eW} (q : kRel w) (hAl : kAl w) {a : Int} (g_a : (-2147483648 ≤ a ∧ a ≤ 2147483647)) {b : Int} (g_b : (-2147483648 ≤ b ∧ b ≤ 2147483647)) : e_Ok 20 elay kcode eI d 231 (0, [(0, (1, 0)), (1, (0, a)), (2, (0, b))], [], w) (fun r w' => ∃ z : Int, r = [(0, z)] ∧ kRelF w' ∧ (km3 w w') ∧ rks w w') :=
  (e_Ok.both (k_231 hd q hAl g_a g_b) (kq_231 hd q hAl g_a g_b)).imp (fun r w' h => by
    obtain ⟨⟨z, h1, hF, e⟩, f⟩ := h
    exact ⟨z, h1, hF, e, f.r⟩)
theorem ks_232 {d : Nat} (hd : 460 ≤ d) {w : eW} (q : kRel w) (hAl : kAl w) {a : Int} (g_a : (-2147483648 ≤ a ∧ a ≤ 2147483647)) {b : Int} (g_b : (-2147483648 ≤ b ∧ b ≤ 2147483647)) : e_Ok 20 elay kcode eI d 232 (0, [(0, (1, 0)), (1, (0, a)), (2, (0, b))], [], w) (fun r w' => ∃ z : Int, r = [(0, z)] ∧ kRelF w' ∧ (km3 w w') ∧ rks w w') :=
  (e_Ok.both (k_232 hd q hAl g_a g_b) (kq_232 hd q hAl g_a g_b)).imp (fun r w' h => by
    obtain ⟨⟨z, h1, hF, e⟩, f⟩ := h
    exact ⟨z, h1, hF, e, f.r⟩)
theorem ks_233 {d : Nat} (hd : 460 ≤ d) {w : eW} (q : kRel w) (hAl : kAl w) {a : Int} (g_a : (-2147483648 ≤ a ∧ a ≤ 2147483647)) {b : Int} (g_b : (-2147483648 ≤ b ∧ b ≤ 2147483647)) : e_Ok 20 elay kcode eI d 233 (0, [(0, (1, 0)), (1, (0, a)), (2, (0, b))], [], w) (fun r w' => ∃ z : Int, r = [(0, z)] ∧ kRelF w' ∧ (km3 w w') ∧ rks w w') :=
  (e_Ok.both (k_233 hd q hAl g_a g_b) (kq_233 hd q hAl g_a g_b)).imp (fun r w' h => by
    obtain ⟨⟨z, h1, hF, e⟩, f⟩ := h
    exact ⟨z, h1, hF, e, f.r⟩)
theorem ks_234 {d : Nat} (hd : 460 ≤ d) {w : eW} (q : kRel w) (hAl : kAl w) {a : Int} (g_a : (-2147483648 ≤ a ∧ a ≤ 2147483647)) : e_Ok 20 elay kcode eI d 234 (0, [(0, (1, 0)), (1, (0, a))], [], w) (fun r w' => ∃ z : Int, r = [(0, z)] ∧ kRelF w' ∧ (km3 w w') ∧ rks w w') :=
  (e_Ok.both (k_234 hd q hAl g_a) (kq_234 hd q hAl g_a)).imp (fun r w' h => by
    obtain ⟨⟨z, h1, hF, e⟩, f⟩ := h
    exact ⟨z, h1, hF, e, f.r⟩)
theorem ks_235 {d : Nat} (hd : 460 ≤ d) {w : eW} (q : kRel w) (hAl : kAl w) {a : Int} (g_a : (-2147483648 ≤ a ∧ a ≤ 2147483647)) {b : Int} (g_b : (-2147483648 ≤ b ∧ b ≤ 2147483647)) : e_Ok 20 elay kcode eI d 235 (0, [(0, (1, 0)), (1, (0, a)), (2, (0, b))], [], w) (fun r w' => ∃ z : Int, r = [(0, z)] ∧ kRelF w' ∧ (km3 w w') ∧ rks w w') :=
  (e_Ok.both (k_235 hd q hAl g_a g_b) (kq_235 hd q hAl g_a g_b)).imp (fun r w' h => by
    obtain ⟨⟨z, h1, hF, e⟩, f⟩ := h
    exact ⟨z, h1, hF, e, f.r⟩)
theorem ks_236 {d : Nat} (hd : 460 ≤ d) {w : eW} (q : kRel w) (hAl : kAl w) {a : Int} (g_a : (-2147483648 ≤ a ∧ a ≤ 2147483647)) : e_Ok 20 elay kcode eI d 236 (0, [(0, (1, 0)), (1, (0, a))], [], w) (fun r w' => ∃ z : Int, r = [(0, z)] ∧ kRelF w' ∧ (km3 w w') ∧ rks w w') :=
  (e_Ok.both (k_236 hd q hAl g_a) (kq_236 hd q hAl g_a)).imp (fun r w' h => by
    obtain ⟨⟨z, h1, hF, e⟩, f⟩ := h
    exact ⟨z, h1, hF, e, f.r⟩)
theorem ks_237 {d : Nat} (hd : 460 ≤ d) {w : eW} (q : kRel w) (hAl : kAl w) : e_Ok 20 elay kcode eI d 237 (0, [(0, (1, 0))], [], w) (fun r w' => ∃ z : Int, r = [(0, z)] ∧ kRelF w' ∧ (km3 w w') ∧ rks w w') :=
  (e_Ok.both (k_237 hd q hAl ) (kq_237 hd q hAl )).imp (fun r w' h => by
    obtain ⟨⟨z, h1, hF, e⟩, f⟩ := h
    exact ⟨z, h1, hF, e, f.r⟩)
theorem ks_238 {d : Nat} (hd : 460 ≤ d) {w : eW} (q : kRel w) (hAl : kAl w) {a : Int} (g_a : (-2147483648 ≤ a ∧ a ≤ 2147483647)) {b : Int} (g_b : (-2147483648 ≤ b ∧ b ≤ 2147483647)) : e_Ok 20 elay kcode eI d 238 (0, [(0, (1, 0)), (1, (0, a)), (2, (0, b))], [], w) (fun r w' => ∃ z : Int, r = [(0, z)] ∧ kRelF w' ∧ (km3 w w') ∧ rks w w') :=
  (e_Ok.both (k_238 hd q hAl g_a g_b) (kq_238 hd q hAl g_a g_b)).imp (fun r w' h => by
    obtain ⟨⟨z, h1, hF, e⟩, f⟩ := h
    exact ⟨z, h1, hF, e, f.r⟩)
theorem ks_239 {d : Nat} (hd : 460 ≤ d) {w : eW} (q : kRel w) (hAl : kAl w) {a : Int} (g_a : (-2147483648 ≤ a ∧ a ≤ 2147483647)) {b : Int} (g_b : (-2147483648 ≤ b ∧ b ≤ 2147483647)) : e_Ok 20 elay kcode eI d 239 (0, [(0, (1, 0)), (1, (0, a)), (2, (0, b))], [], w) (fun r w' => ∃ z : Int, r = [(0, z)] ∧ kRelF w' ∧ (km3 w w') ∧ rks w w') :=
  (e_Ok.both (k_239 hd q hAl g_a g_b) (kq_239 hd q hAl g_a g_b)).imp (fun r w' h => by
    obtain ⟨⟨z, h1, hF, e⟩, f⟩ := h
    exact ⟨z, h1, hF, e, f.r⟩)
theorem ks_240 {d : Nat} (hd : 460 ≤ d) {w : eW} (q : kRel w) (hAl : kAl w) {a : Int} (g_a : (-2147483648 ≤ a ∧ a ≤ 2147483647)) : e_Ok 20 elay kcode eI d 240 (0, [(0, (1, 0)), (1, (0, a))], [], w) (fun r w' => ∃ z : Int, r = [(0, z)] ∧ kRelF w' ∧ (km3 w w') ∧ rks w w') :=
  (e_Ok.both (k_240 hd q hAl g_a) (kq_240 hd q hAl g_a)).imp (fun r w' h => by
    obtain ⟨⟨z, h1, hF, e⟩, f⟩ := h
    exact ⟨z, h1, hF, e, f.r⟩)
theorem ks_241 {d : Nat} (hd : 460 ≤ d) {w : eW} (q : kRel w) (hAl : kAl w) {a : Int} (g_a : (-2147483648 ≤ a ∧ a ≤ 2147483647)) : e_Ok 20 elay kcode eI d 241 (0, [(0, (1, 0)), (1, (0, a))], [], w) (fun r w' => ∃ z : Int, r = [(0, z)] ∧ kRelF w' ∧ (km3 w w') ∧ rks w w') :=
  (e_Ok.both (k_241 hd q hAl g_a) (kq_241 hd q hAl g_a)).imp (fun r w' h => by
    obtain ⟨⟨z, h1, hF, e⟩, f⟩ := h
    exact ⟨z, h1, hF, e, f.r⟩)
theorem ms_274 {d : Nat} (hd : 21 ≤ d) {w : eW} (h : mRel w) {a b c e f : Int} : e_Ok 20 elay ecode eI d 274 (0, [(0, (1, 275)), (1, (0, a)), (2, (0, b)), (3, (0, c)), (4, (0, e)), (5, (0, f))], [], w) (fun r w' => ∃ z : Int, r = [(0, z)] ∧ mRel w' ∧ (w' 275 3 = w 275 3 ∧ w' 275 10 = w 275 10 ∧ ((w 275 9 ≤ 3980 ∧ z = w 275 9 + 20 ∧ w' 275 9 = w 275 9 + 20) ∨ (3980 < w 275 9 ∧ z = -3 ∧ w' 275 9 = w 275 9))) ∧ rms w w') :=
  (e_Ok.both (m_274 hd h ) (mz_274 hd h )).imp (fun r w' q => by
    obtain ⟨⟨z, h1, hF, e⟩, f⟩ := q
    exact ⟨z, h1, hF, e, f.r⟩)
theorem ms_276 {d : Nat} (hd : 21 ≤ d) {w : eW} (h : mRel w) {a : Int} : e_Ok 20 elay ecode eI d 276 (0, [(0, (1, 275)), (1, (0, a))], [], w) (fun r w' => ∃ z : Int, r = [(0, z)] ∧ mRel w' ∧ (w' 275 3 = w 275 3 ∧ w' 275 10 = w 275 10 ∧ ((0 ≤ a ∧ a ≤ w 275 9 ∧ z = w 275 9 - a ∧ w' 275 9 = w 275 9 - a) ∨ ((a < 0 ∨ w 275 9 < a) ∧ z = -1 ∧ w' 275 9 = w 275 9))) ∧ rms w w') :=
  (e_Ok.both (m_276 hd h ) (mz_276 hd h )).imp (fun r w' q => by
    obtain ⟨⟨z, h1, hF, e⟩, f⟩ := q
    exact ⟨z, h1, hF, e, f.r⟩)
theorem ms_278 {d : Nat} (hd : 24 ≤ d) {w : eW} (h : mRel w) {p1 p2 p3 p4 : Int} (g1 : -2147483648 ≤ p1 ∧ p1 ≤ 2147483647) (g2 : -2147483648 ≤ p2 ∧ p2 ≤ 2147483647) (g3 : -2147483648 ≤ p3 ∧ p3 ≤ 2147483647) (g4 : -2147483648 ≤ p4 ∧ p4 ≤ 2147483647) : e_Ok 20 elay ecode eI d 278 (0, [(0, (1, 275)), (1, (0, p1)), (2, (0, p2)), (3, (0, p3)), (4, (0, p4))], [], w) (fun r w' => ∃ z : Int, r = [(0, z)] ∧ mRel w' ∧ (w' 275 3 = w 275 3 ∧ w' 275 9 = w 275 9 ∧ ((¬ ((-8000 ≤ p1 ∧ p1 ≤ 8000) ∧ (-8000 ≤ p2 ∧ p2 ≤ 8000) ∧ (0 ≤ p3 ∧ p3 ≤ 4095) ∧ (0 ≤ p4 ∧ p4 ≤ 800) ∧ w 275 3 = 0 ∧ w 275 10 ≤ 3) ∧ w' 275 10 = w 275 10) ∨ (((-8000 ≤ p1 ∧ p1 ≤ 8000) ∧ (-8000 ≤ p2 ∧ p2 ≤ 8000) ∧ (0 ≤ p3 ∧ p3 ≤ 4095) ∧ (0 ≤ p4 ∧ p4 ≤ 800) ∧ w 275 3 = 0 ∧ w 275 10 ≤ 3) ∧ w' 275 10 = w 275 10 + 1))) ∧ rms w w') :=
  (e_Ok.both (m_278x hd h g1 g2 g3 g4) (mz_278 hd h g1 g2 g3 g4)).imp (fun r w' q => by
    obtain ⟨⟨z, h1, hF, e⟩, f⟩ := q
    exact ⟨z, h1, hF, e, fun c k y => f c k (fun g => by unfold rM at y; unfold mF at g; omega)⟩)
theorem ms_279 {d : Nat} (hd : 23 ≤ d) {w : eW} (h : mRel w) {p1 p2 p3 p4 p5 : Int} (g1 : -2147483648 ≤ p1 ∧ p1 ≤ 2147483647) (g2 : -2147483648 ≤ p2 ∧ p2 ≤ 2147483647) (g3 : -2147483648 ≤ p3 ∧ p3 ≤ 2147483647) (g4 : -2147483648 ≤ p4 ∧ p4 ≤ 2147483647) (g5 : -2147483648 ≤ p5 ∧ p5 ≤ 2147483647) : e_Ok 20 elay ecode eI d 279 (0, [(0, (1, 275)), (1, (0, p1)), (2, (0, p2)), (3, (0, p3)), (4, (0, p4)), (5, (0, p5))], [], w) (fun r w' => ∃ z : Int, r = [(0, z)] ∧ mRel w' ∧ (sm3 w w') ∧ rms w w') :=
  (e_Ok.both (m_279 hd h g1 g2 g3 g4 g5) (mz_279 hd h g1 g2 g3 g4 g5)).imp (fun r w' q => by
    obtain ⟨⟨z, h1, hF, e⟩, f⟩ := q
    exact ⟨z, h1, hF, e, fun c k y => f c k (fun g => by unfold rM at y; unfold mJo at g; omega)⟩)
theorem ms_280 {d : Nat} (hd : 24 ≤ d) {w : eW} (h : mRel w) {p1 p2 p3 : Int} (g1 : -2147483648 ≤ p1 ∧ p1 ≤ 2147483647) (g2 : -2147483648 ≤ p2 ∧ p2 ≤ 2147483647) (g3 : -2147483648 ≤ p3 ∧ p3 ≤ 2147483647) : e_Ok 20 elay ecode eI d 280 (0, [(0, (1, 275)), (1, (0, p1)), (2, (0, p2)), (3, (0, p3))], [], w) (fun r w' => ∃ z : Int, r = [(0, z)] ∧ mRel w' ∧ (sm3 w w') ∧ rms w w') :=
  (e_Ok.both (m_280 hd h g1 g2 g3) (mz_280 hd h g1 g2 g3)).imp (fun r w' q => by
    obtain ⟨⟨z, h1, hF, e⟩, f⟩ := q
    exact ⟨z, h1, hF, e, fun c k y => f c k (fun g => by unfold rM at y; unfold mF at g; omega)⟩)
theorem ms_281 {d : Nat} (hd : 24 ≤ d) {w : eW} (h : mRel w) {p1 p2 p3 p4 : Int} (g1 : -2147483648 ≤ p1 ∧ p1 ≤ 2147483647) (g2 : -2147483648 ≤ p2 ∧ p2 ≤ 2147483647) (g3 : -2147483648 ≤ p3 ∧ p3 ≤ 2147483647) (g4 : -2147483648 ≤ p4 ∧ p4 ≤ 2147483647) : e_Ok 20 elay ecode eI d 281 (0, [(0, (1, 275)), (1, (0, p1)), (2, (0, p2)), (3, (0, p3)), (4, (0, p4))], [], w) (fun r w' => ∃ z : Int, r = [(0, z)] ∧ mRel w' ∧ (sm3 w w') ∧ rms w w') :=
  (e_Ok.both (m_281 hd h g1 g2 g3 g4) (mz_281 hd h g1 g2 g3 g4)).imp (fun r w' q => by
    obtain ⟨⟨z, h1, hF, e⟩, f⟩ := q
    exact ⟨z, h1, hF, e, fun c k y => f c k (fun g => by unfold rM at y; unfold mF at g; omega)⟩)
theorem ms_285 {d : Nat} (hd : 24 ≤ d) {w : eW} (h : mRel w) {p1 p2 p3 : Int} (g1 : -2147483648 ≤ p1 ∧ p1 ≤ 2147483647) (g2 : -2147483648 ≤ p2 ∧ p2 ≤ 2147483647) (g3 : -2147483648 ≤ p3 ∧ p3 ≤ 2147483647) : e_Ok 20 elay ecode eI d 285 (0, [(0, (1, 275)), (1, (0, p1)), (2, (0, p2)), (3, (0, p3))], [], w) (fun r w' => ∃ z : Int, r = [(0, z)] ∧ mRel w' ∧ (sm3 w w') ∧ rms w w') :=
  (e_Ok.both (m_285 hd h g1 g2 g3) (mz_285 hd h g1 g2 g3)).imp (fun r w' q => by
    obtain ⟨⟨z, h1, hF, e⟩, f⟩ := q
    exact ⟨z, h1, hF, e, fun c k y => f c k (fun g => by unfold rM at y; unfold mF at g; omega)⟩)
theorem ms_288 {d : Nat} (hd : 24 ≤ d) {w : eW} (h : mRel w) {p1 p2 p3 p4 : Int} (g1 : -2147483648 ≤ p1 ∧ p1 ≤ 2147483647) (g2 : -2147483648 ≤ p2 ∧ p2 ≤ 2147483647) (g3 : -2147483648 ≤ p3 ∧ p3 ≤ 2147483647) (g4 : -2147483648 ≤ p4 ∧ p4 ≤ 2147483647) : e_Ok 20 elay ecode eI d 288 (0, [(0, (1, 275)), (1, (0, p1)), (2, (0, p2)), (3, (0, p3)), (4, (0, p4))], [], w) (fun r w' => ∃ z : Int, r = [(0, z)] ∧ mRel w' ∧ (sm3 w w') ∧ rms w w') :=
  (e_Ok.both (m_288 hd h g1 g2 g3 g4) (mz_288 hd h g1 g2 g3 g4)).imp (fun r w' q => by
    obtain ⟨⟨z, h1, hF, e⟩, f⟩ := q
    exact ⟨z, h1, hF, e, fun c k y => f c k (fun g => by unfold rM at y; unfold mF at g; omega)⟩)
theorem ms_294 {d : Nat} (hd : 24 ≤ d) {w : eW} (h : mRel w) {p1 p2 : Int} (g1 : -2147483648 ≤ p1 ∧ p1 ≤ 2147483647) (g2 : 0 ≤ p2 ∧ p2 ≤ 1) : e_Ok 20 elay ecode eI d 294 (0, [(0, (1, 275)), (1, (0, p1)), (2, (0, p2))], [], w) (fun r w' => ∃ z : Int, r = [(0, z)] ∧ mRel w' ∧ (sm3 w w') ∧ rms w w') :=
  (e_Ok.both (m_294 hd h g1 g2) (mz_294 hd h g1 g2)).imp (fun r w' q => by
    obtain ⟨⟨z, h1, hF, e⟩, f⟩ := q
    exact ⟨z, h1, hF, e, fun c k y => f c k (fun g => by unfold rM at y; unfold mF at g; omega)⟩)
theorem ms_295 {d : Nat} (hd : 22 ≤ d) {w : eW} (h : mRel w) {p1 p2 p3 : Int} (g1 : -2147483648 ≤ p1 ∧ p1 ≤ 2147483647) (g2 : -2147483648 ≤ p2 ∧ p2 ≤ 2147483647) (g3 : 0 ≤ p3 ∧ p3 ≤ 1) : e_Ok 20 elay ecode eI d 295 (0, [(0, (1, 275)), (1, (0, p1)), (2, (0, p2)), (3, (0, p3))], [], w) (fun r w' => ∃ z : Int, r = [(0, z)] ∧ mRel w' ∧ (sm3 w w') ∧ rms w w') :=
  (e_Ok.both (m_295 hd h g1 g2 g3) (mz_295 hd h g1 g2 g3)).imp (fun r w' q => by
    obtain ⟨⟨z, h1, hF, e⟩, f⟩ := q
    exact ⟨z, h1, hF, e, fun c k y => f c k (fun g => by unfold rM at y; unfold mF at g; omega)⟩)
theorem ms_296 {d : Nat} (hd : 25 ≤ d) {w : eW} (h : mRel w) : e_Ok 20 elay ecode eI d 296 (0, [(0, (1, 275))], [], w) (fun r w' => ∃ z : Int, r = [(0, z)] ∧ mRel w' ∧ (w' 275 3 = 1 ∧ w' 275 9 = w 275 9 ∧ w' 275 10 = w 275 10) ∧ rms w w') :=
  (e_Ok.both (m_296 hd h ) (mz_296 hd h )).imp (fun r w' q => by
    obtain ⟨⟨z, h1, hF, e⟩, f⟩ := q
    exact ⟨z, h1, hF, e, f.r⟩)
theorem ms_318 {d : Nat} (hd : 27 ≤ d) {w : eW} (h : mRel w) {p1 p2 : Int} (g1 : -2147483648 ≤ p1 ∧ p1 ≤ 2147483647) (g2 : -2147483648 ≤ p2 ∧ p2 ≤ 2147483647) : e_Ok 20 elay ecode eI d 318 (0, [(0, (1, 275)), (1, (0, p1)), (2, (0, p2))], [], w) (fun r w' => ∃ z : Int, r = [(0, z)] ∧ mRel w' ∧ (sm3 w w') ∧ rms w w') :=
  (e_Ok.both (m_318 hd h g1 g2) (mz_318 hd h g1 g2)).imp (fun r w' q => by
    obtain ⟨⟨z, h1, hF, e⟩, f⟩ := q
    exact ⟨z, h1, hF, e, f.r⟩)
theorem ms_357 {d : Nat} (hd : 424 ≤ d) {w : eW} (h : mRel w) {p1 : Int} (g1 : -2147483648 ≤ p1 ∧ p1 ≤ 2147483647) : e_Ok 20 elay ecode eI d 357 (0, [(0, (1, 275)), (1, (0, p1))], [], w) (fun r w' => ∃ z : Int, r = [(0, z)] ∧ mRel w' ∧ (w' 275 3 = w 275 3 ∧ w' 275 10 = w 275 10 ∧ ((w = w' ∧ ¬ (w 275 3 = 0 ∧ 0 ≤ p1 ∧ p1 < w 275 10)) ∨ (w 275 3 = 0 ∧ (0 ≤ p1 ∧ p1 < w 275 10) ∧ w' 275 9 = 0))) ∧ rms w w') :=
  (e_Ok.both (m_357 hd h g1) (mz_357 hd h g1)).imp (fun r w' q => by
    obtain ⟨⟨z, h1, hF, e⟩, f⟩ := q
    exact ⟨z, h1, hF, e, f.r⟩)
theorem ms_358 {d : Nat} (hd : 23 ≤ d) {w : eW} (h : mRel w) {p1 : Int} (g1 : -2147483648 ≤ p1 ∧ p1 ≤ 2147483647) : e_Ok 20 elay ecode eI d 358 (0, [(0, (1, 275)), (1, (0, p1))], [], w) (fun r w' => ∃ z : Int, r = [(0, z)] ∧ mRel w' ∧ (sm3 w w') ∧ rms w w') :=
  (e_Ok.both (m_358 hd h g1) (mz_358 hd h g1)).imp (fun r w' q => by
    obtain ⟨⟨z, h1, hF, e⟩, f⟩ := q
    exact ⟨z, h1, hF, e, f.r⟩)
theorem ms_418 {d : Nat} (hd : 33 ≤ d) {w : eW} (h : mRel w) {p1 p2 p3 : Int} (g1 : -2147483648 ≤ p1 ∧ p1 ≤ 2147483647) (g2 : -2147483648 ≤ p2 ∧ p2 ≤ 2147483647) (g3 : -2147483648 ≤ p3 ∧ p3 ≤ 2147483647) : e_Ok 20 elay ecode eI d 418 (0, [(0, (1, 275)), (1, (0, p1)), (2, (0, p2)), (3, (0, p3))], [], w) (fun r w' => ∃ z : Int, r = [(0, z)] ∧ mRelF w' ∧ (sm3 w w') ∧ rms w w') :=
  (e_Ok.both (m_418 hd h g1 g2 g3) (mz_418 hd h g1 g2 g3)).imp (fun r w' q => by
    obtain ⟨⟨z, h1, hF, e⟩, f⟩ := q
    exact ⟨z, h1, hF, e, f.r⟩)
theorem ms_419 {d : Nat} (hd : 27 ≤ d) {w : eW} (h : mRel w) {p1 : Int} (g1 : -2147483648 ≤ p1 ∧ p1 ≤ 2147483647) : e_Ok 20 elay ecode eI d 419 (0, [(0, (1, 275)), (1, (0, p1))], [], w) (fun r w' => ∃ z : Int, r = [(0, z)] ∧ mRelF w' ∧ (sm3 w w') ∧ rms w w') :=
  (e_Ok.both (m_419 hd h g1) (mz_419 hd h g1)).imp (fun r w' q => by
    obtain ⟨⟨z, h1, hF, e⟩, f⟩ := q
    exact ⟨z, h1, hF, e, f.r⟩)
theorem ms_425 {d : Nat} (hd : 27 ≤ d) {w : eW} (h : mRel w) {p1 p2 : Int} (g1 : -2147483648 ≤ p1 ∧ p1 ≤ 2147483647) (g2 : -2147483648 ≤ p2 ∧ p2 ≤ 2147483647) : e_Ok 20 elay ecode eI d 425 (0, [(0, (1, 275)), (1, (0, p1)), (2, (0, p2))], [], w) (fun r w' => ∃ z : Int, r = [(0, z)] ∧ mRelF w' ∧ (sm3 w w') ∧ rms w w') :=
  (e_Ok.both (m_425 hd h g1 g2) (mz_425 hd h g1 g2)).imp (fun r w' q => by
    obtain ⟨⟨z, h1, hF, e⟩, f⟩ := q
    exact ⟨z, h1, hF, e, f.r⟩)
theorem ms_426 {d : Nat} (hd : 45 ≤ d) {w : eW} (h : mRel w) {p1 : Int} (g1 : -2147483648 ≤ p1 ∧ p1 ≤ 2147483647) : e_Ok 20 elay ecode eI d 426 (0, [(0, (1, 275)), (1, (0, p1))], [], w) (fun r w' => ∃ z : Int, r = [(0, z)] ∧ mRelF w' ∧ (sm3 w w') ∧ rms w w') :=
  (e_Ok.both (m_426 hd h g1) (mz_426 hd h g1)).imp (fun r w' q => by
    obtain ⟨⟨z, h1, hF, e⟩, f⟩ := q
    exact ⟨z, h1, hF, e, f.r⟩)
theorem ms_427 {d : Nat} (hd : 25 ≤ d) {w : eW} (h : mRel w) {p1 p2 : Int} (g1 : -2147483648 ≤ p1 ∧ p1 ≤ 2147483647) (g2 : -2147483648 ≤ p2 ∧ p2 ≤ 2147483647) : e_Ok 20 elay ecode eI d 427 (0, [(0, (1, 275)), (1, (0, p1)), (2, (0, p2))], [], w) (fun r w' => ∃ z : Int, r = [(0, z)] ∧ mRelF w' ∧ (sm3 w w') ∧ rms w w') :=
  (e_Ok.both (m_427 hd h g1 g2) (mz_427 hd h g1 g2)).imp (fun r w' q => by
    obtain ⟨⟨z, h1, hF, e⟩, f⟩ := q
    exact ⟨z, h1, hF, e, f.r⟩)
theorem ms_428 {d : Nat} (hd : 27 ≤ d) {w : eW} (h : mRel w) {p1 p2 p3 : Int} (g1 : -2147483648 ≤ p1 ∧ p1 ≤ 2147483647) (g2 : -2147483648 ≤ p2 ∧ p2 ≤ 2147483647) (g3 : -2147483648 ≤ p3 ∧ p3 ≤ 2147483647) (hz3 : 0 ≤ p3 ∧ p3 ≤ 1) : e_Ok 20 elay ecode eI d 428 (0, [(0, (1, 275)), (1, (0, p1)), (2, (0, p2)), (3, (0, p3))], [], w) (fun r w' => ∃ z : Int, r = [(0, z)] ∧ mRelF w' ∧ (sm3 w w') ∧ rms w w') :=
  (e_Ok.both (m_428 hd h g1 g2 g3 hz3) (mz_428 hd h g1 g2 g3 hz3)).imp (fun r w' q => by
    obtain ⟨⟨z, h1, hF, e⟩, f⟩ := q
    exact ⟨z, h1, hF, e, f.r⟩)
theorem ms_429 {d : Nat} (hd : 25 ≤ d) {w : eW} (h : mRel w) {p1 p2 p3 : Int} (g1 : -2147483648 ≤ p1 ∧ p1 ≤ 2147483647) (g2 : -2147483648 ≤ p2 ∧ p2 ≤ 2147483647) (g3 : -2147483648 ≤ p3 ∧ p3 ≤ 2147483647) (hz2 : 0 ≤ p2 ∧ p2 ≤ 1) (hz3 : 0 ≤ p3 ∧ p3 ≤ 1) : e_Ok 20 elay ecode eI d 429 (0, [(0, (1, 275)), (1, (0, p1)), (2, (0, p2)), (3, (0, p3))], [], w) (fun r w' => ∃ z : Int, r = [(0, z)] ∧ mRelF w' ∧ (sm3 w w') ∧ rms w w') :=
  (e_Ok.both (m_429 hd h g1 g2 g3 hz2 hz3) (mz_429 hd h g1 g2 g3 hz2 hz3)).imp (fun r w' q => by
    obtain ⟨⟨z, h1, hF, e⟩, f⟩ := q
    exact ⟨z, h1, hF, e, f.r⟩)
theorem ms_430 {d : Nat} (hd : 27 ≤ d) {w : eW} (h : mRel w) {p1 : Int} (g1 : -2147483648 ≤ p1 ∧ p1 ≤ 2147483647) : e_Ok 20 elay ecode eI d 430 (0, [(0, (1, 275)), (1, (0, p1))], [], w) (fun r w' => ∃ z : Int, r = [(0, z)] ∧ mRelF w' ∧ (sm3 w w') ∧ rms w w') :=
  (e_Ok.both (m_430 hd h g1) (mz_430 hd h g1)).imp (fun r w' q => by
    obtain ⟨⟨z, h1, hF, e⟩, f⟩ := q
    exact ⟨z, h1, hF, e, f.r⟩)
theorem ms_431 {d : Nat} (hd : 27 ≤ d) {w : eW} (h : mRel w) {p1 : Int} (g1 : -2147483648 ≤ p1 ∧ p1 ≤ 2147483647) : e_Ok 20 elay ecode eI d 431 (0, [(0, (1, 275)), (1, (0, p1))], [], w) (fun r w' => ∃ z : Int, r = [(0, z)] ∧ mRelF w' ∧ (sm3 w w') ∧ rms w w') :=
  (e_Ok.both (m_431 hd h g1) (mz_431 hd h g1)).imp (fun r w' q => by
    obtain ⟨⟨z, h1, hF, e⟩, f⟩ := q
    exact ⟨z, h1, hF, e, f.r⟩)
theorem ms_432 {d : Nat} (hd : 25 ≤ d) {w : eW} (h : mRel w) {p1 : Int} (g1 : -2147483648 ≤ p1 ∧ p1 ≤ 2147483647) : e_Ok 20 elay ecode eI d 432 (0, [(0, (1, 275)), (1, (0, p1))], [], w) (fun r w' => ∃ z : Int, r = [(0, z)] ∧ mRelF w' ∧ (sm3 w w') ∧ rms w w') :=
  (e_Ok.both (m_432 hd h g1) (mz_432 hd h g1)).imp (fun r w' q => by
    obtain ⟨⟨z, h1, hF, e⟩, f⟩ := q
    exact ⟨z, h1, hF, e, f.r⟩)
theorem ms_433 {d : Nat} (hd : 27 ≤ d) {w : eW} (h : mRel w) {p1 p2 p3 : Int} (g1 : -2147483648 ≤ p1 ∧ p1 ≤ 2147483647) (g2 : -2147483648 ≤ p2 ∧ p2 ≤ 2147483647) (g3 : -2147483648 ≤ p3 ∧ p3 ≤ 2147483647) : e_Ok 20 elay ecode eI d 433 (0, [(0, (1, 275)), (1, (0, p1)), (2, (0, p2)), (3, (0, p3))], [], w) (fun r w' => ∃ z : Int, r = [(0, z)] ∧ mRelF w' ∧ (sm3 w w') ∧ rms w w') :=
  (e_Ok.both (m_433 hd h g1 g2 g3) (mz_433 hd h g1 g2 g3)).imp (fun r w' q => by
    obtain ⟨⟨z, h1, hF, e⟩, f⟩ := q
    exact ⟨z, h1, hF, e, f.r⟩)
theorem ms_434 {d : Nat} (hd : 25 ≤ d) {w : eW} (h : mRel w) {p1 p2 : Int} (g1 : -2147483648 ≤ p1 ∧ p1 ≤ 2147483647) (g2 : -2147483648 ≤ p2 ∧ p2 ≤ 2147483647) : e_Ok 20 elay ecode eI d 434 (0, [(0, (1, 275)), (1, (0, p1)), (2, (0, p2))], [], w) (fun r w' => ∃ z : Int, r = [(0, z)] ∧ mRelF w' ∧ (sm3 w w') ∧ rms w w') :=
  (e_Ok.both (m_434 hd h g1 g2) (mz_434 hd h g1 g2)).imp (fun r w' q => by
    obtain ⟨⟨z, h1, hF, e⟩, f⟩ := q
    exact ⟨z, h1, hF, e, f.r⟩)
theorem ms_436 {d : Nat} (hd : 49 ≤ d) {w : eW} (h : mRel w) {p1 : Int} (g1 : -2147483648 ≤ p1 ∧ p1 ≤ 2147483647) : e_Ok 20 elay ecode eI d 436 (0, [(0, (1, 275)), (1, (0, p1))], [], w) (fun r w' => ∃ z : Int, r = [(0, z)] ∧ mRelF w' ∧ (sm3 w w') ∧ rms w w') :=
  (e_Ok.both (m_436 hd h g1) (mz_436 hd h g1)).imp (fun r w' q => by
    obtain ⟨⟨z, h1, hF, e⟩, f⟩ := q
    exact ⟨z, h1, hF, e, f.r⟩)
theorem ms_437 {d : Nat} (hd : 23 ≤ d) {w : eW} (h : mRel w) : e_Ok 20 elay ecode eI d 437 (0, [(0, (1, 275))], [], w) (fun r w' => ∃ z : Int, r = [(0, z)] ∧ mRel w' ∧ (sm3 w w') ∧ rms w w') :=
  (e_Ok.both (m_437 hd h ) (mz_437 hd h )).imp (fun r w' q => by
    obtain ⟨⟨z, h1, hF, e⟩, f⟩ := q
    exact ⟨z, h1, hF, e, f.r⟩)
theorem ms_438 {d : Nat} (hd : 23 ≤ d) {w : eW} (h : mRel w) {p1 p2 : Int} (g1 : -2147483648 ≤ p1 ∧ p1 ≤ 2147483647) (g2 : -2147483648 ≤ p2 ∧ p2 ≤ 2147483647) : e_Ok 20 elay ecode eI d 438 (0, [(0, (1, 275)), (1, (0, p1)), (2, (0, p2))], [], w) (fun r w' => ∃ z : Int, r = [(0, z)] ∧ mRel w' ∧ (sm3 w w') ∧ rms w w') :=
  (e_Ok.both (m_438 hd h g1 g2) (mz_438 hd h g1 g2)).imp (fun r w' q => by
    obtain ⟨⟨z, h1, hF, e⟩, f⟩ := q
    exact ⟨z, h1, hF, e, f.r⟩)
theorem ms_439 {d : Nat} (hd : 23 ≤ d) {w : eW} (h : mRel w) {p1 p2 : Int} (g1 : -2147483648 ≤ p1 ∧ p1 ≤ 2147483647) (g2 : -2147483648 ≤ p2 ∧ p2 ≤ 2147483647) : e_Ok 20 elay ecode eI d 439 (0, [(0, (1, 275)), (1, (0, p1)), (2, (0, p2))], [], w) (fun r w' => ∃ z : Int, r = [(0, z)] ∧ mRel w' ∧ (sm3 w w') ∧ rms w w') :=
  (e_Ok.both (m_439 hd h g1 g2) (mz_439 hd h g1 g2)).imp (fun r w' q => by
    obtain ⟨⟨z, h1, hF, e⟩, f⟩ := q
    exact ⟨z, h1, hF, e, f.r⟩)
theorem ms_440 {d : Nat} (hd : 24 ≤ d) {w : eW} (h : mRel w) {p1 p2 p3 : Int} (g1 : -2147483648 ≤ p1 ∧ p1 ≤ 2147483647) (g2 : -2147483648 ≤ p2 ∧ p2 ≤ 2147483647) (g3 : -2147483648 ≤ p3 ∧ p3 ≤ 2147483647) : e_Ok 20 elay ecode eI d 440 (0, [(0, (1, 275)), (1, (0, p1)), (2, (0, p2)), (3, (0, p3))], [], w) (fun r w' => ∃ z : Int, r = [(0, z)] ∧ mRel w' ∧ (sm3 w w') ∧ rms w w') :=
  (e_Ok.both (m_440 hd h g1 g2 g3) (mz_440 hd h g1 g2 g3)).imp (fun r w' q => by
    obtain ⟨⟨z, h1, hF, e⟩, f⟩ := q
    exact ⟨z, h1, hF, e, f.r⟩)
theorem ms_441 {d : Nat} (hd : 23 ≤ d) {w : eW} (h : mRel w) {p1 p2 : Int} (g1 : -2147483648 ≤ p1 ∧ p1 ≤ 2147483647) (g2 : -2147483648 ≤ p2 ∧ p2 ≤ 2147483647) : e_Ok 20 elay ecode eI d 441 (0, [(0, (1, 275)), (1, (0, p1)), (2, (0, p2))], [], w) (fun r w' => ∃ z : Int, r = [(0, z)] ∧ mRel w' ∧ (sm3 w w') ∧ rms w w') :=
  (e_Ok.both (m_441 hd h g1 g2) (mz_441 hd h g1 g2)).imp (fun r w' q => by
    obtain ⟨⟨z, h1, hF, e⟩, f⟩ := q
    exact ⟨z, h1, hF, e, f.r⟩)
theorem ms_442 {d : Nat} (hd : 23 ≤ d) {w : eW} (h : mRel w) {p1 p2 : Int} (g1 : -2147483648 ≤ p1 ∧ p1 ≤ 2147483647) (g2 : -2147483648 ≤ p2 ∧ p2 ≤ 2147483647) : e_Ok 20 elay ecode eI d 442 (0, [(0, (1, 275)), (1, (0, p1)), (2, (0, p2))], [], w) (fun r w' => ∃ z : Int, r = [(0, z)] ∧ mRel w' ∧ (sm3 w w') ∧ rms w w') :=
  (e_Ok.both (m_442 hd h g1 g2) (mz_442 hd h g1 g2)).imp (fun r w' q => by
    obtain ⟨⟨z, h1, hF, e⟩, f⟩ := q
    exact ⟨z, h1, hF, e, f.r⟩)
theorem ms_443 {d : Nat} (hd : 23 ≤ d) {w : eW} (h : mRel w) {p1 p2 : Int} (g1 : -2147483648 ≤ p1 ∧ p1 ≤ 2147483647) (g2 : -2147483648 ≤ p2 ∧ p2 ≤ 2147483647) : e_Ok 20 elay ecode eI d 443 (0, [(0, (1, 275)), (1, (0, p1)), (2, (0, p2))], [], w) (fun r w' => ∃ z : Int, r = [(0, z)] ∧ mRel w' ∧ (sm3 w w') ∧ rms w w') :=
  (e_Ok.both (m_443 hd h g1 g2) (mz_443 hd h g1 g2)).imp (fun r w' q => by
    obtain ⟨⟨z, h1, hF, e⟩, f⟩ := q
    exact ⟨z, h1, hF, e, f.r⟩)
theorem ms_444 {d : Nat} (hd : 23 ≤ d) {w : eW} (h : mRel w) {p1 p2 : Int} (g1 : -2147483648 ≤ p1 ∧ p1 ≤ 2147483647) (g2 : -2147483648 ≤ p2 ∧ p2 ≤ 2147483647) : e_Ok 20 elay ecode eI d 444 (0, [(0, (1, 275)), (1, (0, p1)), (2, (0, p2))], [], w) (fun r w' => ∃ z : Int, r = [(0, z)] ∧ mRel w' ∧ (sm3 w w') ∧ rms w w') :=
  (e_Ok.both (m_444 hd h g1 g2) (mz_444 hd h g1 g2)).imp (fun r w' q => by
    obtain ⟨⟨z, h1, hF, e⟩, f⟩ := q
    exact ⟨z, h1, hF, e, f.r⟩)
theorem ms_445 {d : Nat} (hd : 23 ≤ d) {w : eW} (h : mRel w) {p1 : Int} (g1 : -2147483648 ≤ p1 ∧ p1 ≤ 2147483647) : e_Ok 20 elay ecode eI d 445 (0, [(0, (1, 275)), (1, (0, p1))], [], w) (fun r w' => ∃ z : Int, r = [(0, z)] ∧ mRel w' ∧ (sm3 w w') ∧ rms w w') :=
  (e_Ok.both (m_445 hd h g1) (mz_445 hd h g1)).imp (fun r w' q => by
    obtain ⟨⟨z, h1, hF, e⟩, f⟩ := q
    exact ⟨z, h1, hF, e, f.r⟩)
theorem ms_446 {d : Nat} (hd : 27 ≤ d) {w : eW} (h : mRel w) {p1 p2 : Int} (g1 : -2147483648 ≤ p1 ∧ p1 ≤ 2147483647) (g2 : -2147483648 ≤ p2 ∧ p2 ≤ 2147483647) : e_Ok 20 elay ecode eI d 446 (0, [(0, (1, 275)), (1, (0, p1)), (2, (0, p2))], [], w) (fun r w' => ∃ z : Int, r = [(0, z)] ∧ mRel w' ∧ (sm3 w w') ∧ rms w w') :=
  (e_Ok.both (m_446 hd h g1 g2) (mz_446 hd h g1 g2)).imp (fun r w' q => by
    obtain ⟨⟨z, h1, hF, e⟩, f⟩ := q
    exact ⟨z, h1, hF, e, f.r⟩)
theorem ms_447 {d : Nat} (hd : 23 ≤ d) {w : eW} (h : mRel w) {p1 : Int} (g1 : -2147483648 ≤ p1 ∧ p1 ≤ 2147483647) : e_Ok 20 elay ecode eI d 447 (0, [(0, (1, 275)), (1, (0, p1))], [], w) (fun r w' => ∃ z : Int, r = [(0, z)] ∧ mRel w' ∧ (sm3 w w') ∧ rms w w') :=
  (e_Ok.both (m_447 hd h g1) (mz_447 hd h g1)).imp (fun r w' q => by
    obtain ⟨⟨z, h1, hF, e⟩, f⟩ := q
    exact ⟨z, h1, hF, e, f.r⟩)
theorem ms_448 {d : Nat} (hd : 23 ≤ d) {w : eW} (h : mRel w) : e_Ok 20 elay ecode eI d 448 (0, [(0, (1, 275))], [], w) (fun r w' => ∃ z : Int, r = [(0, z)] ∧ mRel w' ∧ (sm3 w w') ∧ rms w w') :=
  (e_Ok.both (m_448 hd h ) (mz_448 hd h )).imp (fun r w' q => by
    obtain ⟨⟨z, h1, hF, e⟩, f⟩ := q
    exact ⟨z, h1, hF, e, f.r⟩)
theorem ms_449 {d : Nat} (hd : 23 ≤ d) {w : eW} (h : mRel w) {p1 p2 : Int} (g1 : -2147483648 ≤ p1 ∧ p1 ≤ 2147483647) (g2 : -2147483648 ≤ p2 ∧ p2 ≤ 2147483647) : e_Ok 20 elay ecode eI d 449 (0, [(0, (1, 275)), (1, (0, p1)), (2, (0, p2))], [], w) (fun r w' => ∃ z : Int, r = [(0, z)] ∧ mRel w' ∧ (sm3 w w') ∧ rms w w') :=
  (e_Ok.both (m_449 hd h g1 g2) (mz_449 hd h g1 g2)).imp (fun r w' q => by
    obtain ⟨⟨z, h1, hF, e⟩, f⟩ := q
    exact ⟨z, h1, hF, e, f.r⟩)
theorem ms_450 {d : Nat} (hd : 23 ≤ d) {w : eW} (h : mRel w) {p1 : Int} (g1 : -2147483648 ≤ p1 ∧ p1 ≤ 2147483647) : e_Ok 20 elay ecode eI d 450 (0, [(0, (1, 275)), (1, (0, p1))], [], w) (fun r w' => ∃ z : Int, r = [(0, z)] ∧ mRel w' ∧ (sm3 w w') ∧ rms w w') :=
  (e_Ok.both (m_450 hd h g1) (mz_450 hd h g1)).imp (fun r w' q => by
    obtain ⟨⟨z, h1, hF, e⟩, f⟩ := q
    exact ⟨z, h1, hF, e, f.r⟩)
theorem ms_451 {d : Nat} (hd : 23 ≤ d) {w : eW} (h : mRel w) {p1 : Int} (g1 : -2147483648 ≤ p1 ∧ p1 ≤ 2147483647) : e_Ok 20 elay ecode eI d 451 (0, [(0, (1, 275)), (1, (0, p1))], [], w) (fun r w' => ∃ z : Int, r = [(0, z)] ∧ mRel w' ∧ (sm3 w w') ∧ rms w w') :=
  (e_Ok.both (m_451 hd h g1) (mz_451 hd h g1)).imp (fun r w' q => by
    obtain ⟨⟨z, h1, hF, e⟩, f⟩ := q
    exact ⟨z, h1, hF, e, f.r⟩)
end
