noncomputable section
/-! tokens, as both readers find them -/
section SCL
variable {T : Int → Int} {N i c v : Int}
def skp (T : Int → Int) (N : Int) : Nat → Int → Int → Int
  | 0, i, _ => i
  | n + 1, i, c => if N ≤ i then i else if T i % 256 = 35 then skp T N n (i + 1) 1 else if T i % 256 = 10 then skp T N n (i + 1) 0 else if 32 < T i % 256 ∧ c = 0 then i else skp T N n (i + 1) c
def skF (T : Int → Int) (N i c : Int) : Int := skp T N (N - i).toNat i c
theorem skF_end (h : N ≤ i) : skF T N i c = i := by
  unfold skF
  rw [show (N - i).toNat = 0 by omega]
  rfl
theorem skF_cons (h : i < N) : skF T N i c = if T i % 256 = 35 then skF T N (i + 1) 1 else if T i % 256 = 10 then skF T N (i + 1) 0 else if 32 < T i % 256 ∧ c = 0 then i else skF T N (i + 1) c := by
  obtain ⟨m, hm⟩ : ∃ m : Nat, (N - i).toNat = m + 1 := ⟨(N - i).toNat - 1, by omega⟩
  have hm2 : (N - (i + 1)).toNat = m := by omega
  have e : skF T N i c = skp T N (m + 1) i c := by unfold skF; rw [hm]
  have e2 : ∀ j, skF T N (i + 1) j = skp T N m (i + 1) j := fun j => by unfold skF; rw [hm2]
  rw [e, e2, e2, e2]
  show (if N ≤ i then i else _) = _
  rw [if_neg (by omega)]
theorem skF_cm (h : i < N) (h1 : T i % 256 = 35) : skF T N i c = skF T N (i + 1) 1 := by rw [skF_cons h, if_pos h1]
theorem skF_nl (h : i < N) (h1 : T i % 256 = 10) : skF T N i c = skF T N (i + 1) 0 := by rw [skF_cons h, if_neg (by omega), if_pos h1]
theorem skF_st (h : i < N) (h1 : T i % 256 ≠ 35) (h2 : 32 < T i % 256) : skF T N i 0 = i := by rw [skF_cons h, if_neg h1, if_neg (by omega), if_pos ⟨h2, rfl⟩]
theorem skF_bl (h : i < N) (h1 : T i % 256 ≠ 35) (h2 : T i % 256 ≠ 10) (h3 : T i % 256 ≤ 32 ∨ c ≠ 0) : skF T N i c = skF T N (i + 1) c := by rw [skF_cons h, if_neg h1, if_neg h2, if_neg (by omega)]
/-- a blank or a new line, outside of a remark -/
theorem skF_b0 (h : i < N) (h3 : T i % 256 ≤ 32) : skF T N i 0 = skF T N (i + 1) 0 := by
  by_cases g : T i % 256 = 10
  · exact skF_nl h g
  · exact skF_bl h (by omega) g (Or.inl h3)
theorem skF_c1 (h : i < N) (h2 : T i % 256 ≠ 10) : skF T N i 1 = skF T N (i + 1) 1 := by
  by_cases g : T i % 256 = 35
  · exact skF_cm h g
  · exact skF_bl h g h2 (Or.inr (by decide))
/-- the end of a remark -/
theorem skF_ce (h : N ≤ i ∨ T i % 256 = 10) : skF T N i 1 = skF T N i 0 := by
  by_cases g : N ≤ i
  · rw [skF_end g, skF_end g]
  · have h2 : T i % 256 = 10 := by omega
    rw [skF_nl (by omega) h2, skF_nl (by omega) h2]
def wdp (T : Int → Int) (N : Int) : Nat → Int → Int
  | 0, i => i
  | n + 1, i => if i < N ∧ ((97 ≤ T i % 256 ∧ T i % 256 ≤ 122) ∨ (65 ≤ T i % 256 ∧ T i % 256 ≤ 90) ∨ (48 ≤ T i % 256 ∧ T i % 256 ≤ 57)) then wdp T N n (i + 1) else i
def wdF (T : Int → Int) (N i : Int) : Int := wdp T N (N - i).toNat i
theorem wdF_go (h : i < N) (h1 : (97 ≤ T i % 256 ∧ T i % 256 ≤ 122) ∨ (65 ≤ T i % 256 ∧ T i % 256 ≤ 90) ∨ (48 ≤ T i % 256 ∧ T i % 256 ≤ 57)) : wdF T N i = wdF T N (i + 1) := by
  obtain ⟨m, hm⟩ : ∃ m : Nat, (N - i).toNat = m + 1 := ⟨(N - i).toNat - 1, by omega⟩
  have hm2 : (N - (i + 1)).toNat = m := by omega
  have e : wdF T N i = wdp T N (m + 1) i := by unfold wdF; rw [hm]
  have e2 : wdF T N (i + 1) = wdp T N m (i + 1) := by unfold wdF; rw [hm2]
  rw [e, e2]
  show (if i < N ∧ _ then _ else _) = _
  rw [if_pos ⟨h, h1⟩]
theorem wdF_end (h : N ≤ i ∨ ¬ ((97 ≤ T i % 256 ∧ T i % 256 ≤ 122) ∨ (65 ≤ T i % 256 ∧ T i % 256 ≤ 90) ∨ (48 ≤ T i % 256 ∧ T i % 256 ≤ 57))) : wdF T N i = i := by
  unfold wdF
  cases hm : (N - i).toNat with
  | zero => rfl
  | succ m =>
    show (if i < N ∧ _ then _ else _) = _
    rw [if_neg (fun g => by rcases h with h | h; omega; exact h g.2)]
def dgp (T : Int → Int) (N : Int) : Nat → Int → Int → Int × Int
  | 0, i, v => (i, v)
  | n + 1, i, v => if i < N ∧ 48 ≤ T i % 256 ∧ T i % 256 ≤ 57 then dgp T N n (i + 1) (if 2147483647 < v then v else 10 * v + (T i % 256 - 48)) else (i, v)
def dgF (T : Int → Int) (N i v : Int) : Int × Int := dgp T N (N - i).toNat i v
theorem dgF_go (h : i < N) (h1 : 48 ≤ T i % 256 ∧ T i % 256 ≤ 57) : dgF T N i v = dgF T N (i + 1) (if 2147483647 < v then v else 10 * v + (T i % 256 - 48)) := by
  obtain ⟨m, hm⟩ : ∃ m : Nat, (N - i).toNat = m + 1 := ⟨(N - i).toNat - 1, by omega⟩
  have hm2 : (N - (i + 1)).toNat = m := by omega
  have e : dgF T N i v = dgp T N (m + 1) i v := by unfold dgF; rw [hm]
  have e2 : ∀ u, dgF T N (i + 1) u = dgp T N m (i + 1) u := fun u => by unfold dgF; rw [hm2]
  rw [e, e2]
  show (if i < N ∧ _ then _ else _) = _
  rw [if_pos ⟨h, h1⟩]
theorem dgF_end (h : N ≤ i ∨ T i % 256 < 48 ∨ 57 < T i % 256) : dgF T N i v = (i, v) := by
  unfold dgF
  cases hm : (N - i).toNat with
  | zero => rfl
  | succ m =>
    show (if i < N ∧ _ then _ else _) = _
    rw [if_neg (by omega)]
/-- signs: the place of a byte among + - * / % = < > ( ) , ; : -/
def sgI (c : Int) : Int := match e_sgn.findIdx? (fun z => decide (z.toInt = c)) with
  | some k => (k : Int)
  | none => -1
theorem sgI_r (c : Int) : -1 ≤ sgI c ∧ sgI c ≤ 12 := by
  unfold sgI
  cases g : e_sgn.findIdx? (fun z => decide (z.toInt = c)) with
  | none => exact ⟨by show (-1 : Int) ≤ -1; omega, by show (-1 : Int) ≤ 12; omega⟩
  | some k =>
    have q := (List.findIdx?_eq_some_iff_findIdx_eq.mp g).1
    have q2 : e_sgn.length = 13 := by decide
    exact ⟨by show (-1 : Int) ≤ (k : Int); omega, by show (k : Int) ≤ 12; omega⟩
def sgK (c d : Int) : Int := if c = 33 ∧ d = 61 then 5 else if c = 60 ∧ d = 61 then 6 else if c = 62 ∧ d = 61 then 7 else if sgI c < 0 then 3 else 8 + sgI c
def sgE (c d : Int) : Int := if (c = 33 ∨ c = 60 ∨ c = 62) ∧ d = 61 then 2 else 1
/-- the byte at a place, 0 behind the text -/
def byT (T : Int → Int) (N i : Int) : Int := if i < N then T i % 256 else 0
theorem byT_of {z : Int} (h : (0 ≤ i ∧ i < N ∧ z = T i % 256) ∨ ((i < 0 ∨ N ≤ i) ∧ z = 0)) (h0 : 0 ≤ i) : byT T N i = z := by
  unfold byT
  rcases h with ⟨-, h1, h2⟩ | ⟨h1, h2⟩
  · rw [if_pos h1, h2]
  · rw [if_neg (by omega), h2]
theorem e_Ok.ixx {fd : Nat} {lay : List eY} {code : Nat → Nat → eE} {I : Nat → xM} {d M a b p nx : Nat} {l : eL} {r : List eV} {w : eW} {Q : List eV → eW → Prop} {c : Int} (hb : Nat.ble (e_cats r) 8 = true) (hc : code M p = (0, e_S (g_ix nx), a, b)) (h : ∀ z, z = sgI c → e_Ok fd lay code I d M (nx, l, (0, z) :: r, w) Q) : e_Ok fd lay code I d M (p, l, (0, c) :: (1, 358) :: r, w) Q := by
  have hz : e_idx 358 c = some (sgI c) := by
    unfold e_idx sgI
    rw [if_pos rfl]
    cases e_sgn.findIdx? (fun z => decide (z.toInt = c)) <;> rfl
  refine e_Ok.step (t' := (nx, l, (0, sgI c) :: r, w)) hc ?_ (h _ rfl)
  unfold e_S
  show ((bif Nat.ble (e_cats r) 8 then (e_idx 358 c).map (fun n => (nx, (0, n) :: r)) else none : Option (Nat × List eV))).map _ = _
  rw [hb, hz]
  rfl
theorem i2c_all : ∀ n : Nat, n < 256 → ((Int32.ofInt (n : Int)).toUInt32 % 65536).toInt32.toInt = (n : Int) := by decide +kernel
theorem e_Ok.i2cx {fd : Nat} {lay : List eY} {code : Nat → Nat → eE} {I : Nat → xM} {d M a b p nx : Nat} {l : eL} {r : List eV} {w : eW} {Q : List eV → eW → Prop} {x : Int} (h0 : 0 ≤ x ∧ x ≤ 255) (hc : code M p = (0, ei_un (fun x => (0, ((Int32.ofInt x).toUInt32 % 65536).toInt32.toInt)) nx, a, b)) (h : e_Ok fd lay code I d M (nx, l, (0, x) :: r, w) Q) : e_Ok fd lay code I d M (p, l, (0, x) :: r, w) Q := by
  refine e_Ok.step (t' := (nx, l, (0, x) :: r, w)) hc ?_ h
  have e := i2c_all x.toNat (by omega)
  rw [show ((x.toNat : Nat) : Int) = x by omega] at e
  show some (nx, l, (0, ((Int32.ofInt x).toUInt32 % 65536).toInt32.toInt) :: r, w) = _
  rw [e]
/-- the word from a to e is the keyword k -/
def kwd (T : Int → Int) (a e k : Int) : Prop := ∃ p, (0 ≤ p ∧ p ≤ 170) ∧ kyk p = 32 ∧ (kyp p).1 = k ∧ (kyp p).2 = e - a ∧ ∀ j, 0 ≤ j → j < e - a → T (a + j) = kyk (p - (e - a) + j)
theorem kypN_m (n : Nat) : (kypN n).1 ≤ (kypN (n + 1)).1 := by
  rw [kypN]
  split
  · show (kypN n).1 ≤ (kypN n).1 + 1
    omega
  · exact Int.le_refl _
theorem kypN_le {n m : Nat} (h : n ≤ m) : (kypN n).1 ≤ (kypN m).1 := by
  induction h with
  | refl => exact Int.le_refl _
  | step _ ih => exact Int.le_trans ih (kypN_m _)
theorem kyp_lt {p q : Int} (hp : 0 ≤ p) (h : p < q) (h1 : kyk p = 32) : (kyp p).1 < (kyp q).1 := by
  have z := (kyp_s hp h1).1
  have y : (kyp (p + 1)).1 ≤ (kyp q).1 := kypN_le (by omega)
  omega
theorem kyp_u {p q : Int} (hp : 0 ≤ p ∧ p ≤ 170) (hq : 0 ≤ q ∧ q ≤ 170) (h1 : kyk p = 32) (h2 : kyk q = 32) (e : (kyp p).1 = (kyp q).1) : p = q := by
  by_cases g : p < q
  · have z := kyp_lt hp.1 g h1
    omega
  · by_cases g2 : q < p
    · have z := kyp_lt hq.1 g2 h2
      omega
    · omega
def wkA (T : Int → Int) (a e i y : Int) : Prop := (y = 1 → ∀ j, 0 ≤ j → j < (kyp i).2 → a + j < e ∧ T (a + j) = kyk (i - (kyp i).2 + j)) ∧ (y ≠ 1 → ∃ j, (0 ≤ j ∧ j < (kyp i).2) ∧ ¬ (a + j < e ∧ T (a + j) = kyk (i - (kyp i).2 + j)))
variable {a e s y y' : Int}
theorem wkA_0 : wkA T a e 0 1 := ⟨fun _ j h1 h2 => by rw [kyp_0] at h2; exact absurd h2 (by show ¬ j < 0; omega), fun h => absurd rfl h⟩
theorem wkA_s (h0 : 0 ≤ i) (hc : kyk i = 32) : wkA T a e (i + 1) 1 := ⟨fun _ j h1 h2 => by have z := (kyp_s h0 hc).2; omega, fun h => absurd rfl h⟩
theorem wkA_c (h0 : 0 ≤ i) (hc : kyk i ≠ 32) (hs : s = a + (kyp i).2) (hr : 0 ≤ (kyp i).2) (h : wkA T a e i y) (hy : (y' = 1 ∧ y = 1 ∧ s < e ∧ T s = kyk i) ∨ (y' ≠ 1 ∧ ¬ (y = 1 ∧ s < e ∧ T s = kyk i))) : wkA T a e (i + 1) y' := by
  obtain ⟨z1, z2⟩ := kyp_n h0 hc
  have st : i + 1 - (kyp (i + 1)).2 = i - (kyp i).2 := by omega
  have ek : ∀ j, j = (kyp i).2 → i - (kyp i).2 + j = i := fun j g => by omega
  unfold wkA
  rw [st, z2]
  refine ⟨fun g j h1 h2 => ?_, fun g => ?_⟩
  · rcases hy with ⟨-, q1, q2, q3⟩ | ⟨q, -⟩
    · by_cases e1 : j < (kyp i).2
      · exact h.1 q1 j h1 e1
      · have e2 : j = (kyp i).2 := by omega
        rw [ek j e2, show a + j = s by omega]
        exact ⟨q2, q3⟩
    · exact absurd g q
  · rcases hy with ⟨q, -⟩ | ⟨-, q⟩
    · exact absurd q g
    · by_cases g1 : y = 1
      · refine ⟨(kyp i).2, ⟨hr, by omega⟩, fun g2 => q ⟨g1, ?_⟩⟩
        rw [ek _ rfl, show a + (kyp i).2 = s by omega] at g2
        exact g2
      · obtain ⟨j, g2, g3⟩ := h.2 g1
        exact ⟨j, ⟨g2.1, by omega⟩, g3⟩
theorem wkN_s (h0 : 0 ≤ i ∧ i ≤ 170) (hc : kyk i = 32) (h : wkA T a e i y) (hN : ∀ k, 0 ≤ k → k < (kyp i).1 → ¬ kwd T a e k) (hn : ¬ (y = 1 ∧ a + (kyp i).2 = e)) : ∀ k, 0 ≤ k → k < (kyp (i + 1)).1 → ¬ kwd T a e k := fun k k0 k1 => by
  obtain ⟨z1, z2⟩ := kyp_s h0.1 hc
  by_cases g : k < (kyp i).1
  · exact hN k k0 g
  · intro hk
    obtain ⟨p, p0, p1, p2, p3, p4⟩ := hk
    have ep : p = i := kyp_u p0 h0 p1 hc (by omega)
    subst ep
    by_cases g1 : y = 1
    · exact hn ⟨g1, by omega⟩
    · obtain ⟨j, j0, j1⟩ := h.2 g1
      refine j1 ⟨by omega, ?_⟩
      rw [p3]
      exact p4 j j0.1 (by omega)
theorem wkY (h0 : 0 ≤ i ∧ i ≤ 170) (hc : kyk i = 32) (h : wkA T a e i 1) (he : a + (kyp i).2 = e) : kwd T a e (kyp i).1 := ⟨i, h0, hc, rfl, by omega, fun j g1 g2 => by
  have z := (h.1 rfl j g1 (by omega)).2
  rw [show (kyp i).2 = e - a by omega] at z
  exact z⟩
theorem kwd_k {k : Int} (h : kwd T a e k) : (0 ≤ k ∧ k ≤ 32) ∧ 2 ≤ e - a ∧ e - a ≤ 8 := by
  obtain ⟨p, p0, p1, p2, p3, p4⟩ := h
  have z := kyp_k p0 p1
  have r := kyp_r (i := p) (by omega)
  omega
/-- a word as a number -/
def cKn (p : Int) : Nat → Int
  | 0 => 0
  | n + 1 => cKn p n + kyk (p + n) * 128 ^ n
def kwC : List Int := [1880310, 14324, 1652581, 213759981, 245002487, 29213144949, 1913587, 213577972, 213481830, 228274403, 1817330, 27354886386, 213727214, 236616039, 236714340, 28126818551, 3810420142834, 28927687010, 13161, 213710437, 27340207223, 1997172, 28126818531, 535903675856102, 14703, 1652577, 1914862, 3737122370803, 31370934250, 213611764, 30836308325, 30815418352, 456806759086056]
theorem kwC_all : ∀ p : Nat, p < 171 → kyk (p : Int) = 32 → cKn ((p : Int) - (kypN p).2) (kypN p).2.toNat = kwC.getD (kypN p).1.toNat 0 := by decide +kernel
theorem kwC_u : ∀ k : Nat, k < 33 → ∀ q : Nat, q < 33 → kwC.getD k 0 = kwC.getD q 0 → k = q := by decide +kernel
theorem cKn_eq {p q : Int} : ∀ n : Nat, (∀ j : Int, 0 ≤ j → j < n → kyk (p + j) = kyk (q + j)) → cKn p n = cKn q n
  | 0, _ => rfl
  | n + 1, h => by
    rw [cKn, cKn, cKn_eq n (fun j g1 g2 => h j g1 (by omega)), h n (by omega) (by omega)]
theorem kwd_u {k k' : Int} (h : kwd T a e k) (h' : kwd T a e k') : k = k' := by
  have r := kwd_k h
  have r' := kwd_k h'
  obtain ⟨p, p0, p1, p2, p3, p4⟩ := h
  obtain ⟨q, q0, q1, q2, q3, q4⟩ := h'
  have ep : ((p.toNat : Nat) : Int) = p := by omega
  have eq : ((q.toNat : Nat) : Int) = q := by omega
  have z1 := kwC_all p.toNat (by omega) (by rw [ep]; exact p1)
  have z2 := kwC_all q.toNat (by omega) (by rw [eq]; exact q1)
  have a1 : (kypN p.toNat).2 = e - a := p3
  have a2 : (kypN q.toNat).2 = e - a := q3
  have b1 : (kypN p.toNat).1 = k := p2
  have b2 : (kypN q.toNat).1 = k' := q2
  rw [ep, a1, b1] at z1
  rw [eq, a2, b2] at z2
  have ec := cKn_eq (p := p - (e - a)) (q := q - (e - a)) (e - a).toNat (fun j g1 g2 => by rw [← p4 j g1 (by omega), ← q4 j g1 (by omega)])
  rw [z1, z2] at ec
  have z := kwC_u k.toNat (by omega) k'.toNat (by omega) ec
  omega
/-- the token that is scanned from x on: kind (the class's numbers), from a to e, the number nv -/
def dgB (b : Int) : Prop := 48 ≤ b ∧ b ≤ 57
def ltB (b : Int) : Prop := (97 ≤ b ∧ b ≤ 122) ∨ (65 ≤ b ∧ b ≤ 90)
def tkP (T : Int → Int) (N x kd a e nv : Int) : Prop := a = skF T N x 0 ∧ ((N ≤ a ∧ kd = 0 ∧ e = a) ∨ (a < N ∧ ((dgB (T a % 256) ∧ e = (dgF T N a 0).1 ∧ ((2147483647 < (dgF T N a 0).2 ∧ kd = 3) ∨ ((dgF T N a 0).2 ≤ 2147483647 ∧ kd = 2 ∧ nv = (dgF T N a 0).2))) ∨ (ltB (T a % 256) ∧ e = wdF T N a ∧ ((24 < e - a ∧ kd = 3) ∨ (e - a ≤ 24 ∧ ((kd = 1 ∧ ∀ k, 0 ≤ k → k ≤ 32 → ¬ kwd T a e k) ∨ ∃ k, kd = 21 + k ∧ kwd T a e k)))) ∨ (¬ dgB (T a % 256) ∧ ¬ ltB (T a % 256) ∧ kd = sgK (T a % 256) (byT T N (a + 1)) ∧ e = a + sgE (T a % 256) (byT T N (a + 1))))))
/-- the same token in the model's numbers -/
def kM (kd nv ki wh : Int) : Prop := (kd = 0 ∧ ki = 0) ∨ (kd = 1 ∧ ki = 1) ∨ (kd = 2 ∧ ki = 2 ∧ wh = nv) ∨ (kd = 3 ∧ ki = 5) ∨ (ki = 3 ∧ ((kd = 5 ∧ wh = 110) ∨ (kd = 6 ∧ wh = 108) ∨ (kd = 7 ∧ wh = 103) ∨ (kd = 8 ∧ wh = 43) ∨ (kd = 9 ∧ wh = 45) ∨ (kd = 10 ∧ wh = 42) ∨ (kd = 11 ∧ wh = 47) ∨ (kd = 12 ∧ wh = 37) ∨ (kd = 13 ∧ wh = 61) ∨ (kd = 14 ∧ wh = 60) ∨ (kd = 15 ∧ wh = 62) ∨ (kd = 16 ∧ wh = 40) ∨ (kd = 17 ∧ wh = 41) ∨ (kd = 18 ∧ wh = 44) ∨ (kd = 19 ∧ wh = 59) ∨ (kd = 20 ∧ wh = 58))) ∨ ((21 ≤ kd ∧ kd ≤ 53) ∧ ki = 4 ∧ wh = kd - 21)
theorem sgI_v : sgI 43 = 0 ∧ sgI 45 = 1 ∧ sgI 42 = 2 ∧ sgI 47 = 3 ∧ sgI 37 = 4 ∧ sgI 61 = 5 ∧ sgI 60 = 6 ∧ sgI 62 = 7 ∧ sgI 40 = 8 ∧ sgI 41 = 9 ∧ sgI 44 = 10 ∧ sgI 59 = 11 ∧ sgI 58 = 12 := by decide +kernel
theorem sgI_no (h : c ≠ 43 ∧ c ≠ 45 ∧ c ≠ 42 ∧ c ≠ 47 ∧ c ≠ 37 ∧ c ≠ 61 ∧ c ≠ 60 ∧ c ≠ 62 ∧ c ≠ 40 ∧ c ≠ 41 ∧ c ≠ 44 ∧ c ≠ 59 ∧ c ≠ 58) : sgI c = -1 := by
  have e : e_sgn.findIdx? (fun z => decide (z.toInt = c)) = none := by
    rw [List.findIdx?_eq_none_iff]
    intro z hz
    have q : ∀ y ∈ e_sgn, y.toInt = 43 ∨ y.toInt = 45 ∨ y.toInt = 42 ∨ y.toInt = 47 ∨ y.toInt = 37 ∨ y.toInt = 61 ∨ y.toInt = 60 ∨ y.toInt = 62 ∨ y.toInt = 40 ∨ y.toInt = 41 ∨ y.toInt = 44 ∨ y.toInt = 59 ∨ y.toInt = 58 := by decide +kernel
    have q2 := q z hz
    exact decide_eq_false (by omega)
  unfold sgI
  rw [e]
theorem kM_2 {d ki wh : Int} (hd : d = 61) (h : (c = 33 ∧ wh = 110) ∨ (c = 60 ∧ wh = 108) ∨ (c = 62 ∧ wh = 103)) (hk : ki = 3) : kM (sgK c d) 0 ki wh := by
  have e : (c = 33 ∧ sgK c d = 5) ∨ (c = 60 ∧ sgK c d = 6) ∨ (c = 62 ∧ sgK c d = 7) := by
    unfold sgK
    rcases h with ⟨h, -⟩ | ⟨h, -⟩ | ⟨h, -⟩
    · exact Or.inl ⟨h, if_pos ⟨h, hd⟩⟩
    · exact Or.inr (Or.inl ⟨h, by rw [if_neg (by omega), if_pos ⟨h, hd⟩]⟩)
    · exact Or.inr (Or.inr ⟨h, by rw [if_neg (by omega), if_neg (by omega), if_pos ⟨h, hd⟩]⟩)
  rcases e with ⟨e1, e2⟩ | ⟨e1, e2⟩ | ⟨e1, e2⟩
  · exact Or.inr (Or.inr (Or.inr (Or.inr (Or.inl ⟨hk, Or.inl ⟨by omega, by omega⟩⟩))))
  · exact Or.inr (Or.inr (Or.inr (Or.inr (Or.inl ⟨hk, Or.inr (Or.inl ⟨by omega, by omega⟩)⟩))))
  · exact Or.inr (Or.inr (Or.inr (Or.inr (Or.inl ⟨hk, Or.inr (Or.inr (Or.inl ⟨by omega, by omega⟩))⟩))))
theorem sgK_1 {d : Int} (hn : ¬ (d = 61 ∧ (c = 33 ∨ c = 60 ∨ c = 62))) : sgK c d = if sgI c < 0 then 3 else 8 + sgI c := by
  unfold sgK
  rw [if_neg (by omega), if_neg (by omega), if_neg (by omega)]
theorem kM_1 {d ki wh : Int} (hn : ¬ (d = 61 ∧ (c = 33 ∨ c = 60 ∨ c = 62))) (h : c = 43 ∨ c = 45 ∨ c = 42 ∨ c = 47 ∨ c = 37 ∨ c = 61 ∨ c = 60 ∨ c = 62 ∨ c = 40 ∨ c = 41 ∨ c = 44 ∨ c = 59 ∨ c = 58) (hk : ki = 3) (hw : wh = c) : kM (sgK c d) 0 ki wh := by
  have v := sgI_v
  have e : (c = 43 ∧ sgI c = 0) ∨ (c = 45 ∧ sgI c = 1) ∨ (c = 42 ∧ sgI c = 2) ∨ (c = 47 ∧ sgI c = 3) ∨ (c = 37 ∧ sgI c = 4) ∨ (c = 61 ∧ sgI c = 5) ∨ (c = 60 ∧ sgI c = 6) ∨ (c = 62 ∧ sgI c = 7) ∨ (c = 40 ∧ sgI c = 8) ∨ (c = 41 ∧ sgI c = 9) ∨ (c = 44 ∧ sgI c = 10) ∨ (c = 59 ∧ sgI c = 11) ∨ (c = 58 ∧ sgI c = 12) := by
    rcases h with rfl | rfl | rfl | rfl | rfl | rfl | rfl | rfl | rfl | rfl | rfl | rfl | rfl <;> omega
  rw [sgK_1 hn, if_neg (by omega)]
  rcases e with ⟨e1, e2⟩ | ⟨e1, e2⟩ | ⟨e1, e2⟩ | ⟨e1, e2⟩ | ⟨e1, e2⟩ | ⟨e1, e2⟩ | ⟨e1, e2⟩ | ⟨e1, e2⟩ | ⟨e1, e2⟩ | ⟨e1, e2⟩ | ⟨e1, e2⟩ | ⟨e1, e2⟩ | ⟨e1, e2⟩
  · exact Or.inr (Or.inr (Or.inr (Or.inr (Or.inl ⟨hk, Or.inr (Or.inr (Or.inr (Or.inl ⟨by omega, by omega⟩)))⟩))))
  · exact Or.inr (Or.inr (Or.inr (Or.inr (Or.inl ⟨hk, Or.inr (Or.inr (Or.inr (Or.inr (Or.inl ⟨by omega, by omega⟩))))⟩))))
  · exact Or.inr (Or.inr (Or.inr (Or.inr (Or.inl ⟨hk, Or.inr (Or.inr (Or.inr (Or.inr (Or.inr (Or.inl ⟨by omega, by omega⟩)))))⟩))))
  · exact Or.inr (Or.inr (Or.inr (Or.inr (Or.inl ⟨hk, Or.inr (Or.inr (Or.inr (Or.inr (Or.inr (Or.inr (Or.inl ⟨by omega, by omega⟩))))))⟩))))
  · exact Or.inr (Or.inr (Or.inr (Or.inr (Or.inl ⟨hk, Or.inr (Or.inr (Or.inr (Or.inr (Or.inr (Or.inr (Or.inr (Or.inl ⟨by omega, by omega⟩)))))))⟩))))
  · exact Or.inr (Or.inr (Or.inr (Or.inr (Or.inl ⟨hk, Or.inr (Or.inr (Or.inr (Or.inr (Or.inr (Or.inr (Or.inr (Or.inr (Or.inl ⟨by omega, by omega⟩))))))))⟩))))
  · exact Or.inr (Or.inr (Or.inr (Or.inr (Or.inl ⟨hk, Or.inr (Or.inr (Or.inr (Or.inr (Or.inr (Or.inr (Or.inr (Or.inr (Or.inr (Or.inl ⟨by omega, by omega⟩)))))))))⟩))))
  · exact Or.inr (Or.inr (Or.inr (Or.inr (Or.inl ⟨hk, Or.inr (Or.inr (Or.inr (Or.inr (Or.inr (Or.inr (Or.inr (Or.inr (Or.inr (Or.inr (Or.inl ⟨by omega, by omega⟩))))))))))⟩))))
  · exact Or.inr (Or.inr (Or.inr (Or.inr (Or.inl ⟨hk, Or.inr (Or.inr (Or.inr (Or.inr (Or.inr (Or.inr (Or.inr (Or.inr (Or.inr (Or.inr (Or.inr (Or.inl ⟨by omega, by omega⟩)))))))))))⟩))))
  · exact Or.inr (Or.inr (Or.inr (Or.inr (Or.inl ⟨hk, Or.inr (Or.inr (Or.inr (Or.inr (Or.inr (Or.inr (Or.inr (Or.inr (Or.inr (Or.inr (Or.inr (Or.inr (Or.inl ⟨by omega, by omega⟩))))))))))))⟩))))
  · exact Or.inr (Or.inr (Or.inr (Or.inr (Or.inl ⟨hk, Or.inr (Or.inr (Or.inr (Or.inr (Or.inr (Or.inr (Or.inr (Or.inr (Or.inr (Or.inr (Or.inr (Or.inr (Or.inr (Or.inl ⟨by omega, by omega⟩)))))))))))))⟩))))
  · exact Or.inr (Or.inr (Or.inr (Or.inr (Or.inl ⟨hk, Or.inr (Or.inr (Or.inr (Or.inr (Or.inr (Or.inr (Or.inr (Or.inr (Or.inr (Or.inr (Or.inr (Or.inr (Or.inr (Or.inr (Or.inl ⟨by omega, by omega⟩))))))))))))))⟩))))
  · exact Or.inr (Or.inr (Or.inr (Or.inr (Or.inl ⟨hk, Or.inr (Or.inr (Or.inr (Or.inr (Or.inr (Or.inr (Or.inr (Or.inr (Or.inr (Or.inr (Or.inr (Or.inr (Or.inr (Or.inr (Or.inr (⟨by omega, by omega⟩)))))))))))))))⟩))))
theorem kM_w {d ki wh : Int} (hn : ¬ (d = 61 ∧ (c = 33 ∨ c = 60 ∨ c = 62))) (h : c ≠ 43 ∧ c ≠ 45 ∧ c ≠ 42 ∧ c ≠ 47 ∧ c ≠ 37 ∧ c ≠ 61 ∧ c ≠ 60 ∧ c ≠ 62 ∧ c ≠ 40 ∧ c ≠ 41 ∧ c ≠ 44 ∧ c ≠ 59 ∧ c ≠ 58) (hk : ki = 5) : kM (sgK c d) 0 ki wh := by
  rw [sgK_1 hn, if_pos (by rw [sgI_no h]; decide)]
  exact Or.inr (Or.inr (Or.inr (Or.inl ⟨rfl, hk⟩)))
theorem byT_m {z : Int} (h : (i < N ∧ z = T i ∧ -128 ≤ z ∧ z ≤ 127) ∨ (N ≤ i ∧ z = -1000)) : byT T N i = 61 ↔ z = 61 := by
  unfold byT
  rcases h with ⟨h1, h2, h3, h4⟩ | ⟨h1, h2⟩
  · rw [if_pos h1]
    omega
  · rw [if_neg (by omega)]
    omega
/-- a token is one -/
theorem tkP_u {x kd a e nv kd' a' e' nv' : Int} (h : tkP T N x kd a e nv) (h' : tkP T N x kd' a' e' nv') : kd = kd' ∧ a = a' ∧ e = e' ∧ (kd = 2 → nv = nv') := by
  obtain ⟨h1, h2⟩ := h
  obtain ⟨h3, h4⟩ := h'
  have ea : a = a' := h1.trans h3.symm
  subst ea
  clear h1 h3
  rcases h2 with ⟨h2, h5, h6⟩ | ⟨h2, h5⟩
  · rcases h4 with ⟨h4, h7, h8⟩ | ⟨h4, -⟩
    · exact ⟨by omega, rfl, by omega, fun g => by omega⟩
    · omega
  · rcases h4 with ⟨h4, -⟩ | ⟨-, h4⟩
    · omega
    rcases h5 with ⟨h5, h6, h7⟩ | ⟨h5, h6, h7⟩ | ⟨h5, h6, h7, h8⟩
    · rcases h4 with ⟨h4, g6, g7⟩ | ⟨h4, -⟩ | ⟨h4, -⟩
      · exact ⟨by omega, rfl, by omega, fun g => by omega⟩
      · exfalso; unfold dgB at h5; unfold ltB at h4; omega
      · exact absurd h5 h4
    · rcases h4 with ⟨h4, -⟩ | ⟨h4, g6, g7⟩ | ⟨-, h4, -⟩
      · exfalso; unfold dgB at h4; unfold ltB at h5; omega
      · have ee : e = e' := h6.trans g6.symm
        subst ee
        rcases h7 with ⟨h7, h8⟩ | ⟨h7, h8⟩
        · rcases g7 with ⟨g7, g8⟩ | ⟨g7, g8⟩
          · exact ⟨by omega, rfl, rfl, fun g => by omega⟩
          · omega
        · rcases g7 with ⟨g7, g8⟩ | ⟨g7, g8⟩
          · omega
          · rcases h8 with ⟨h8, h9⟩ | ⟨k, h8, h9⟩
            · rcases g8 with ⟨g8, g9⟩ | ⟨k', g8, g9⟩
              · exact ⟨by omega, rfl, rfl, fun g => by omega⟩
              · have kr := (kwd_k g9).1
                exact absurd g9 (h9 k' kr.1 kr.2)
            · have kr := (kwd_k h9).1
              rcases g8 with ⟨g8, g9⟩ | ⟨k', g8, g9⟩
              · exact absurd h9 (g9 k kr.1 kr.2)
              · have ek := kwd_u h9 g9
                exact ⟨by omega, rfl, rfl, fun g => by omega⟩
      · exact absurd h5 h4
    · rcases h4 with ⟨h4, -⟩ | ⟨h4, -⟩ | ⟨-, -, g7, g8⟩
      · exact absurd h4 h5
      · exact absurd h4 h6
      · refine ⟨by omega, rfl, by omega, fun g => ?_⟩
        exfalso
        have s : sgK (T a % 256) (byT T N (a + 1)) ≠ 2 := by
          have r := sgI_r (T a % 256)
          unfold sgK
          split
          · decide
          · split
            · decide
            · split
              · decide
              · split
                · decide
                · omega
        omega
end SCL
end
