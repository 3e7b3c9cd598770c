-- part 63x
section
noncomputable section
theorem su_63x_0 {t : Int} {c k : Int} (q : mLv t c k) : mRk t c k := Or.inl q
set_option maxHeartbeats 4000000 in
theorem c_374_b {d : Nat} (hd : 33 ≤ d) {w : eW} (hT : e_Has mTy w) (hA : mAc w) {t a g : Int} (ht : 0 ≤ t ∧ t ≤ 15) (ha : 0 ≤ a ∧ a ≤ 3) (h96 : w 275 96 = t) (h97 : w 275 97 = 1260 * t + 416) (h98 : w 275 98 = a) {n nt nw : Int} {dl sg pi en : Int → Int} {an br : Int → Int → Prop} {bs ow : Int → Int} (hC : cOk w a n nt nw dl sg pi en an br) {p : Int} (hP : topOk w a t g p n nt nw dl sg pi an br bs ow) (hE : w 276 5 ≤ 2147483000) (h102 : w 275 102 = dl p) (hst : e_kn w 345 0 (dl p - 1)) (hop : w 328 (10000 * a + p) < 30) (hsel : 10 ≤ w 328 (10000 * a + p) ∧ w 328 (10000 * a + p) ≤ 21) : e_Ok 20 elay ecode eI d 374 (0, [(0, (1, 275)), (1, (0, w 328 (10000 * a + p))), (2, (0, w 329 (10000 * a + p))), (3, (0, p))], [], w) (fun r' w' => r' = [] ∧ (e_fr (mRk t) w w' ∧ sRel w w') ∧ e_Has mTy w' ∧ (w 276 5 ≤ w' 276 5 ∧ w' 276 5 ≤ w 276 5 + 2) ∧ ((w' 275 102 = 0 ∧ ((w' 275 100 = 1 ∧ (w' 276 (1260 * t + 416) = 6 ∨ w' 276 (1260 * t + 416) = 7)) ∨ (w' 275 100 = w 275 100 ∧ w' 276 (1260 * t + 416) = w 276 (1260 * t + 416) ∧ w' 276 5 = w 276 5 ∧ ∃ (g' p' : Int) (bs' ow' : Int → Int), g' ≤ g ∧ (g' = g → p < p') ∧ topOk w' a t g' p' n nt nw dl sg pi an br bs' ow' ∧ dl p' = 0 ∧ sg p' = 0))) ∨ (w' 275 100 = w 275 100 ∧ w' 276 (1260 * t + 416) = w 276 (1260 * t + 416) ∧ w' 276 5 = w 276 5 ∧ ∃ p', topOk w' a t g p' n nt nw dl sg pi an br bs ow ∧ w' 275 102 = dl p' ∧ e_kn w' 345 0 (dl p' - 1) ∧ sg p' = 1 ∧ p < p'))) := by
  obtain ⟨d, rfl⟩ : ∃ e, d = e + 1 := ⟨d - 1, by omega⟩
  obtain ⟨hpn, hpc, hru⟩ := id hP
  obtain ⟨hg, hF, hlow, hrr, hPn, hch, hpe⟩ := id hru
  have hCn := hC.1
  have hins := hC.2.1 p hpn.1 hpn.2
  have hbg := hlow.2.1 g (by omega) (by omega)
  have hpen := hins.1.2.2.2.1
  have hpib := hC.2.2.2.1.2.1 _ hrr.1 hrr.2
  obtain ⟨hi0, hi1, hi2, hi3, hi4, hi5, hi6, -⟩ := id hins
  replace hi1 := (show Hd63 _ from hi1)
  replace hi2 := (show Hd63 _ from hi2)
  replace hi3 := (show Hd63 _ from hi3)
  replace hi4 := (show Hd63 _ from hi4)
  replace hi5 := (show Hd63 _ from hi5)
  replace hi6 := (show Hd63 _ from hi6)
  replace hins := (show Hd63 _ from hins)
  have hop24 : 1 ≤ w 328 (10000 * a + p) ∧ w 328 (10000 * a + p) ≤ 24 := ⟨hi0.1.1, hi0.1.2.2.resolve_right (Int.not_le.mpr hop)⟩
  have har := e_Has.get hT (c := 329) (k := 10000 * a + p) (lo := -2147483648) (hi := 2147483647) (mt_o rfl) (by decide)
  refine e_Ok.run (t' := (2, [(0, (1, 275)), (1, (0, w 328 (10000 * a + p))), (2, (0, w 329 (10000 * a + p))), (3, (0, p))], [(0, 1), (0, p)], w)) 2 rfl ?_
  refine e_Ok.add (z := p + 1) rfl rfl (by omega) ?_
  refine e_Ok.run (t' := (6, [(4, (0, p + 1)), (0, (1, 275)), (1, (0, w 328 (10000 * a + p))), (2, (0, w 329 (10000 * a + p))), (3, (0, p))], [(0, w 328 (10000 * a + p))], w)) 2 rfl ?_
  have hs2 : ∀ x : Int, 1 ≤ x ∧ x ≤ 24 → (x = 1) ∨ (x = 2) ∨ (x = 3) ∨ (x = 4) ∨ (x = 5) ∨ (x = 6) ∨ (x = 7) ∨ (x = 8) ∨ (x = 9) ∨ (x = 10 ∨ x = 11 ∨ x = 12 ∨ x = 13 ∨ x = 14 ∨ x = 15 ∨ x = 16 ∨ x = 17 ∨ x = 18 ∨ x = 19 ∨ x = 20) ∨ (x = 21) ∨ (x = 22) ∨ (x = 23) ∨ (x = 24) := fun x h => by omega
  obtain h1 | h1 | h1 | h1 | h1 | h1 | h1 | h1 | h1 | h1 | h1 | h1 | h1 | h1 := hs2 (w 328 (10000 * a + p)) (hop24)
  · exfalso; omega
  · exfalso; omega
  · exfalso; omega
  · exfalso; omega
  · exfalso; omega
  · exfalso; omega
  · exfalso; omega
  · exfalso; omega
  · exfalso; omega
  · refine e_Ok.sw (tg := 410) rfl (by rcases h1 with h1 | h1 | h1 | h1 | h1 | h1 | h1 | h1 | h1 | h1 | h1 <;> (rw [h1]; rfl)) ?_
    replace h1 : 10 ≤ w 328 (10000 * a + p) ∧ w 328 (10000 * a + p) ≤ 20 := by omega
    have k1 := hi1.out (by omega)
    unfold iFT at k1
    have k6 := hi6.out (by omega)
    refine e_Ok.run (t' := (411, [(4, (0, p + 1)), (0, (1, 275)), (1, (0, w 328 (10000 * a + p))), (2, (0, w 329 (10000 * a + p))), (3, (0, p))], [(1, 275)], w)) 1 rfl ?_
    refine e_Ok.callV rfl (e_dq hd rfl) rfl rfl rfl rfl (c_364 hT (e := dl p) (u := dl p - 1) h102 (by omega) (by omega) (by have q : w 345 (dl p - 1) = w 345 (dl p - 1) := rfl; have q2 := (hst (dl p - 1) (by omega) (by omega)); omega)) (fun r209 w210 h211 => ?_)
    obtain ⟨rfl, hw210⟩ := h211
    generalize hz212 : w 345 (dl p - 1) = z212
    have z212r : z212 = w 345 (dl p - 1) := Eq.trans hz212.symm rfl
    have hT214 : e_Has mTy w210 := e_Has.ups hT hw210 (mt_o rfl)
    refine e_Ok.nrm (q := 414) (st' := [(0, z212)]) rfl rfl ?_
    refine e_Ok.run (t' := (417, [(8, (0, z212)), (4, (0, p + 1)), (0, (1, 275)), (1, (0, w 328 (10000 * a + p))), (2, (0, w 329 (10000 * a + p))), (3, (0, p))], [(1, 275)], w210)) 2 rfl ?_
    refine e_Ok.callV rfl (e_dq hd rfl) rfl rfl rfl rfl (c_364 hT214 (e := dl p - 1) (u := dl p - 2) (e_ue hw210) (by omega) (by omega) (by have q : w210 345 (dl p - 2) = w 345 (dl p - 2) := (e_uq hw210 (Or.inl (by first | decide | omega)) rfl); have q2 := (hst (dl p - 2) (by omega) (by omega)); omega)) (fun r215 w216 h217 => ?_)
    obtain ⟨rfl, hw216⟩ := h217
    generalize hz218 : w210 345 (dl p - 2) = z218
    have z218r : z218 = w 345 (dl p - 2) := Eq.trans hz218.symm (e_uq hw210 (Or.inl (by first | decide | omega)) rfl)
    have f219 : e_fr (mRk t) w w216 := e_fr.up (show e_fr (mRk t) w w210 from e_fr.up (e_fr.refl w) hw210 (by unfold mRk mLv; omega)) hw216 (by unfold mRk mLv; omega)
    have hT220 : e_Has mTy w216 := e_Has.ups hT214 hw216 (mt_o rfl)
    refine e_Ok.nrm (q := 420) (st' := [(0, z218)]) rfl rfl ?_
    refine e_Ok.run (t' := (424, [(9, (0, z218)), (8, (0, z212)), (4, (0, p + 1)), (0, (1, 275)), (1, (0, w 328 (10000 * a + p))), (2, (0, w 329 (10000 * a + p))), (3, (0, p))], [(0, z212)], w216)) 2 rfl ?_
    refine e_Ok.if1 rfl (fun h221 => ?_) (fun h221 => ?_)
    · replace h221 : (z212 : Int) ≠ 0 := h221
      refine e_Ok.ps4 (x := (0, z212)) (y := (0, z218)) (z := (0, w 328 (10000 * a + p))) (u := (1, 275)) (q := 451) 4 rfl ?_
      refine e_Ok.callS rfl (e_dq hd rfl) rfl rfl (c_375 (by omega) (fun q => by omega)) (fun r222 w223 h224 => ?_)
      obtain ⟨z225, rfl, rfl, q226a, q226b⟩ := h224
      refine e_Ok.nrm (q := 454) (st' := [(0, z225), (1, 275)]) rfl rfl ?_
      refine e_Ok.callV rfl (e_dq hd rfl) rfl rfl rfl rfl (c_363 hT220 (e := dl p - 2) (e1 := dl p - 1) (e_ue hw216) (by omega) (by omega)) (fun r227 w228 h229 => ?_)
      obtain ⟨rfl, hw228⟩ := h229
      generalize hw230 : e_up w216 345 (dl p - 2) z225 = w230 at hw228
      have hT232 : e_Has mTy w230 := e_Has.ups hT220 hw230 (mt_o rfl)
      have hT234 : e_Has mTy w228 := e_Has.ups hT232 hw228 (mt_o rfl)
      refine e_Ok.nrm (q := 457) (st' := []) rfl rfl ?_
      refine e_Ok.ps2 (x := (0, p + 1)) (y := (1, 275)) (q := 460) 2 rfl ?_
      refine e_Ok.callV rfl (e_dq hd rfl) rfl rfl rfl rfl (c_365 (e_dq hd rfl) hT234 (by omega) (e_uq hw228 (Or.inr (by omega)) (e_uq hw230 (Or.inl (by first | decide | omega)) (e_uq hw216 (Or.inr (by omega)) (e_uq hw210 (Or.inr (by omega)) h97)))) (f := g + 1) (z := 1260 * t + 2 * g + 436) (e_uq hw228 (Or.inl (by first | decide | omega)) (e_uq hw230 (Or.inl (by first | decide | omega)) (e_uq hw216 (Or.inl (by first | decide | omega)) (e_uq hw210 (Or.inl (by first | decide | omega)) hF)))) (by omega) (by omega)) (fun r235 w236 h237 => ?_)
      obtain ⟨rfl, hw236⟩ := h237
      have hT239 : e_Has mTy w236 := e_Has.upr hT234 hw236 (nR_FRg t (g) (by omega) (by omega) (by omega)) (by omega)
      refine e_Ok.nrm (q := 463) (st' := []) rfl rfl ?_
      refine e_Ok.rets rfl rfl ?_
      have e240 : w236 276 5 = w 276 5 := (e_uq hw236 (Or.inr (by omega)) (e_uq hw228 (Or.inl (by omega)) (e_uq hw230 (Or.inl (by omega)) (e_uq hw216 (Or.inl (by omega)) (e_uq hw210 (Or.inl (by omega)) rfl)))))
      have hrn := runOk.fr (w' := w236) (fun c k q1 q2 => (e_uq hw236 (Or.inl (by omega)) (e_uq hw228 (Or.inl (by omega)) (e_uq hw230 (Or.inl (by omega)) (e_uq hw216 (Or.inl (by omega)) (e_uq hw210 (Or.inl (by omega)) rfl)))))) (fun i q1 q2 => ⟨(e_uq hw236 (Or.inr (by omega)) (e_uq hw228 (Or.inl (by omega)) (e_uq hw230 (Or.inl (by omega)) (e_uq hw216 (Or.inl (by omega)) (e_uq hw210 (Or.inl (by omega)) rfl))))), (e_uq hw236 (Or.inr (by omega)) (e_uq hw228 (Or.inl (by omega)) (e_uq hw230 (Or.inl (by omega)) (e_uq hw216 (Or.inl (by omega)) (e_uq hw210 (Or.inl (by omega)) rfl)))))⟩) (e_uq hw236 (Or.inr (by omega)) (e_uq hw228 (Or.inl (by omega)) (e_uq hw230 (Or.inl (by omega)) (e_uq hw216 (Or.inl (by omega)) (e_uq hw210 (Or.inl (by omega)) rfl))))) (e_uq hw236 (Or.inr (by omega)) (e_uq hw228 (Or.inl (by omega)) (e_uq hw230 (Or.inl (by omega)) (e_uq hw216 (Or.inl (by omega)) (e_uq hw210 (Or.inl (by omega)) rfl))))) (fun k q1 q2 => (e_uq hw236 (Or.inr (by omega)) (e_uq hw228 (Or.inl (by omega)) (e_uq hw230 (Or.inl (by omega)) (e_uq hw216 (Or.inl (by omega)) (e_uq hw210 (Or.inl (by omega)) rfl)))))) (by omega) hru
      have erg : w236 330 (10000 * a + (p + 1)) = w 330 (10000 * a + p) := by rw [show 10000 * a + (p + 1) = 10000 * a + p + 1 by omega]; exact Eq.trans (e_uq hw236 (Or.inl (by first | decide | omega)) (e_uq hw228 (Or.inl (by first | decide | omega)) (e_uq hw230 (Or.inl (by first | decide | omega)) (e_uq hw216 (Or.inl (by first | decide | omega)) (e_uq hw210 (Or.inl (by first | decide | omega)) rfl))))) k1.2.2.2
      have ede : w236 275 102 = dl p - 1 := (e_uq hw236 (Or.inl (by omega)) (e_ue hw228))
      exact ⟨rfl, ⟨(show e_fr (mRk t) w w236 from e_fr.up (show e_fr (mRk t) w w228 from e_fr.up (show e_fr (mRk t) w w230 from e_fr.up f219 hw230 (by first | exact Or.inr (Or.inl rfl) | (unfold mRk mLv; omega))) hw228 (by first | exact Or.inl (Or.inl ⟨rfl, Or.inr rfl⟩) | (unfold mRk mLv; omega))) hw236 (by first | exact Or.inl (Or.inr ⟨rfl, Or.inr (Or.inr (Or.inr (Or.inr (Or.inr (Or.inr (Or.inr (Or.inr (Or.inr ⟨(by omega), (by omega)⟩))))))))⟩) | (unfold mRk mLv; omega))), (sRel.up (sRel.up (sRel.up (sRel.up (sRel.up sRel.refl hw210 (fun q b g1 g2 => by omega)) hw216 (fun q b g1 g2 => by omega)) hw230 (fun q b g1 g2 => by omega)) hw228 (fun q b g1 g2 => by omega)) hw236 (fun q b g1 g2 => by omega))⟩, hT239, by omega, Or.inr ⟨(e_uq hw236 (Or.inl (by omega)) (e_uq hw228 (Or.inr (by omega)) (e_uq hw230 (Or.inl (by omega)) (e_uq hw216 (Or.inr (by omega)) (e_uq hw210 (Or.inr (by omega)) rfl))))), (e_uq hw236 (Or.inr (by omega)) (e_uq hw228 (Or.inl (by omega)) (e_uq hw230 (Or.inl (by omega)) (e_uq hw216 (Or.inl (by omega)) (e_uq hw210 (Or.inl (by omega)) rfl))))), by omega, p + 1, runOk.at hrn (by omega) (e_ue hw236) erg, by omega, e_kn.le (e_kn.oth (e_kn.oth (e_kn.put (b' := dl p - 1) (e_kn.oth (e_kn.oth hst hw210 (by decide)) hw216 (by decide)) hw230 (by omega) (by omega)) hw228 (by decide)) hw236 (by decide)) (by omega), by omega, by omega⟩⟩
    · replace h221 : (z212 : Int) = 0 := Classical.not_not.mp (show ¬ ((z212 : Int) ≠ 0) from h221)
      refine e_Ok.ps2 (x := (0, 13)) (y := (0, w 328 (10000 * a + p))) (q := 430) 2 rfl ?_
      refine e_Ok.if2 rfl (fun h241 => ?_) (fun h241 => ?_)
      · replace h241 : (w 328 (10000 * a + p) : Int) = 13 := h241
        refine e_Ok.ps2 (x := (0, 1)) (y := (1, 275)) (q := 441) 2 rfl ?_
        have e245 : w216 276 5 = w 276 5 := (e_uq hw216 (Or.inl (by omega)) (e_uq hw210 (Or.inl (by omega)) rfl))
        refine e_Ok.callV rfl (e_dq hd rfl) rfl rfl rfl rfl (c_369 (e_dq hd rfl) hT220 (by omega) (by omega) (e_uq hw216 (Or.inr (by omega)) (e_uq hw210 (Or.inr (by omega)) h96)) (e_uq hw216 (Or.inr (by omega)) (e_uq hw210 (Or.inr (by omega)) h97)) (e_uq hw216 (Or.inr (by omega)) (e_uq hw210 (Or.inr (by omega)) h98)) (cOk.fr (fun c k q1 q2 => (e_uq hw216 (Or.inl (by omega)) (e_uq hw210 (Or.inl (by omega)) rfl))) hC) (runOk.at (runOk.fr (w' := w216) (fun c k q1 q2 => (e_uq hw216 (Or.inl (by omega)) (e_uq hw210 (Or.inl (by omega)) rfl))) (fun i q1 q2 => ⟨(e_uq hw216 (Or.inl (by omega)) (e_uq hw210 (Or.inl (by omega)) rfl)), (e_uq hw216 (Or.inl (by omega)) (e_uq hw210 (Or.inl (by omega)) rfl))⟩) (e_uq hw216 (Or.inl (by omega)) (e_uq hw210 (Or.inl (by omega)) rfl)) (e_uq hw216 (Or.inl (by omega)) (e_uq hw210 (Or.inl (by omega)) rfl)) (fun k q1 q2 => (e_uq hw216 (Or.inl (by omega)) (e_uq hw210 (Or.inl (by omega)) rfl))) (by omega) hru) (by omega) (e_uq hw216 (Or.inl (by omega)) (e_uq hw210 (Or.inl (by omega)) hpc)) (e_uq hw216 (Or.inl (by omega)) (e_uq hw210 (Or.inl (by omega)) rfl))) (by omega) (by omega)) (fun r242 w243 h244 => ?_)
        obtain ⟨rfl, ⟨q246, q246S⟩, q246T, q246n, q246d, q246c⟩ := h244
        refine e_Ok.nrm (q := 444) (st' := []) rfl rfl ?_
        refine e_Ok.rets rfl rfl ?_
        exact ⟨rfl, ⟨(show e_fr (mRk t) w w243 from e_fr.trans f219 (e_fr.mono q246 (fun c k q => by first | exact su_63x_0 q | (unfold mLv at q; unfold mRk mLv; omega)))), (sRel.trans (sRel.up (sRel.up sRel.refl hw210 (fun q b g1 g2 => by omega)) hw216 (fun q b g1 g2 => by omega)) q246S)⟩, q246T, by omega, Or.inl ⟨q246d, q246c.imp id (fun h => ⟨h.1.trans (e_uq hw216 (Or.inr (by omega)) (e_uq hw210 (Or.inr (by omega)) rfl)), h.2.1.trans (e_uq hw216 (Or.inl (by omega)) (e_uq hw210 (Or.inl (by omega)) rfl)), h.2.2.1.trans (e_uq hw216 (Or.inl (by omega)) (e_uq hw210 (Or.inl (by omega)) rfl)), h.2.2.2⟩)⟩⟩
      · replace h241 : (w 328 (10000 * a + p) : Int) ≠ 13 := (show ¬ ((w 328 (10000 * a + p) : Int) = 13) from h241)
        refine e_Ok.ps2 (x := (0, 14)) (y := (0, w 328 (10000 * a + p))) (q := 436) 2 rfl ?_
        refine e_Ok.if2 rfl (fun h248 => ?_) (fun h248 => ?_)
        · replace h248 : (w 328 (10000 * a + p) : Int) ≠ 14 := h248
          refine e_Ok.ps4 (x := (0, z212)) (y := (0, z218)) (z := (0, w 328 (10000 * a + p))) (u := (1, 275)) (q := 451) 4 rfl ?_
          refine e_Ok.callS rfl (e_dq hd rfl) rfl rfl (c_375 (by omega) (fun q => by omega)) (fun r249 w250 h251 => ?_)
          obtain ⟨z252, rfl, rfl, q253a, q253b⟩ := h251
          refine e_Ok.nrm (q := 454) (st' := [(0, z252), (1, 275)]) rfl rfl ?_
          refine e_Ok.callV rfl (e_dq hd rfl) rfl rfl rfl rfl (c_363 hT220 (e := dl p - 2) (e1 := dl p - 1) (e_ue hw216) (by omega) (by omega)) (fun r254 w255 h256 => ?_)
          obtain ⟨rfl, hw255⟩ := h256
          generalize hw257 : e_up w216 345 (dl p - 2) z252 = w257 at hw255
          have hT259 : e_Has mTy w257 := e_Has.ups hT220 hw257 (mt_o rfl)
          have hT261 : e_Has mTy w255 := e_Has.ups hT259 hw255 (mt_o rfl)
          refine e_Ok.nrm (q := 457) (st' := []) rfl rfl ?_
          refine e_Ok.ps2 (x := (0, p + 1)) (y := (1, 275)) (q := 460) 2 rfl ?_
          refine e_Ok.callV rfl (e_dq hd rfl) rfl rfl rfl rfl (c_365 (e_dq hd rfl) hT261 (by omega) (e_uq hw255 (Or.inr (by omega)) (e_uq hw257 (Or.inl (by first | decide | omega)) (e_uq hw216 (Or.inr (by omega)) (e_uq hw210 (Or.inr (by omega)) h97)))) (f := g + 1) (z := 1260 * t + 2 * g + 436) (e_uq hw255 (Or.inl (by first | decide | omega)) (e_uq hw257 (Or.inl (by first | decide | omega)) (e_uq hw216 (Or.inl (by first | decide | omega)) (e_uq hw210 (Or.inl (by first | decide | omega)) hF)))) (by omega) (by omega)) (fun r262 w263 h264 => ?_)
          obtain ⟨rfl, hw263⟩ := h264
          have hT266 : e_Has mTy w263 := e_Has.upr hT261 hw263 (nR_FRg t (g) (by omega) (by omega) (by omega)) (by omega)
          refine e_Ok.nrm (q := 463) (st' := []) rfl rfl ?_
          refine e_Ok.rets rfl rfl ?_
          have e267 : w263 276 5 = w 276 5 := (e_uq hw263 (Or.inr (by omega)) (e_uq hw255 (Or.inl (by omega)) (e_uq hw257 (Or.inl (by omega)) (e_uq hw216 (Or.inl (by omega)) (e_uq hw210 (Or.inl (by omega)) rfl)))))
          have hrn := runOk.fr (w' := w263) (fun c k q1 q2 => (e_uq hw263 (Or.inl (by omega)) (e_uq hw255 (Or.inl (by omega)) (e_uq hw257 (Or.inl (by omega)) (e_uq hw216 (Or.inl (by omega)) (e_uq hw210 (Or.inl (by omega)) rfl)))))) (fun i q1 q2 => ⟨(e_uq hw263 (Or.inr (by omega)) (e_uq hw255 (Or.inl (by omega)) (e_uq hw257 (Or.inl (by omega)) (e_uq hw216 (Or.inl (by omega)) (e_uq hw210 (Or.inl (by omega)) rfl))))), (e_uq hw263 (Or.inr (by omega)) (e_uq hw255 (Or.inl (by omega)) (e_uq hw257 (Or.inl (by omega)) (e_uq hw216 (Or.inl (by omega)) (e_uq hw210 (Or.inl (by omega)) rfl)))))⟩) (e_uq hw263 (Or.inr (by omega)) (e_uq hw255 (Or.inl (by omega)) (e_uq hw257 (Or.inl (by omega)) (e_uq hw216 (Or.inl (by omega)) (e_uq hw210 (Or.inl (by omega)) rfl))))) (e_uq hw263 (Or.inr (by omega)) (e_uq hw255 (Or.inl (by omega)) (e_uq hw257 (Or.inl (by omega)) (e_uq hw216 (Or.inl (by omega)) (e_uq hw210 (Or.inl (by omega)) rfl))))) (fun k q1 q2 => (e_uq hw263 (Or.inr (by omega)) (e_uq hw255 (Or.inl (by omega)) (e_uq hw257 (Or.inl (by omega)) (e_uq hw216 (Or.inl (by omega)) (e_uq hw210 (Or.inl (by omega)) rfl)))))) (by omega) hru
          have erg : w263 330 (10000 * a + (p + 1)) = w 330 (10000 * a + p) := by rw [show 10000 * a + (p + 1) = 10000 * a + p + 1 by omega]; exact Eq.trans (e_uq hw263 (Or.inl (by first | decide | omega)) (e_uq hw255 (Or.inl (by first | decide | omega)) (e_uq hw257 (Or.inl (by first | decide | omega)) (e_uq hw216 (Or.inl (by first | decide | omega)) (e_uq hw210 (Or.inl (by first | decide | omega)) rfl))))) k1.2.2.2
          have ede : w263 275 102 = dl p - 1 := (e_uq hw263 (Or.inl (by omega)) (e_ue hw255))
          exact ⟨rfl, ⟨(show e_fr (mRk t) w w263 from e_fr.up (show e_fr (mRk t) w w255 from e_fr.up (show e_fr (mRk t) w w257 from e_fr.up f219 hw257 (by first | exact Or.inr (Or.inl rfl) | (unfold mRk mLv; omega))) hw255 (by first | exact Or.inl (Or.inl ⟨rfl, Or.inr rfl⟩) | (unfold mRk mLv; omega))) hw263 (by first | exact Or.inl (Or.inr ⟨rfl, Or.inr (Or.inr (Or.inr (Or.inr (Or.inr (Or.inr (Or.inr (Or.inr (Or.inr ⟨(by omega), (by omega)⟩))))))))⟩) | (unfold mRk mLv; omega))), (sRel.up (sRel.up (sRel.up (sRel.up (sRel.up sRel.refl hw210 (fun q b g1 g2 => by omega)) hw216 (fun q b g1 g2 => by omega)) hw257 (fun q b g1 g2 => by omega)) hw255 (fun q b g1 g2 => by omega)) hw263 (fun q b g1 g2 => by omega))⟩, hT266, by omega, Or.inr ⟨(e_uq hw263 (Or.inl (by omega)) (e_uq hw255 (Or.inr (by omega)) (e_uq hw257 (Or.inl (by omega)) (e_uq hw216 (Or.inr (by omega)) (e_uq hw210 (Or.inr (by omega)) rfl))))), (e_uq hw263 (Or.inr (by omega)) (e_uq hw255 (Or.inl (by omega)) (e_uq hw257 (Or.inl (by omega)) (e_uq hw216 (Or.inl (by omega)) (e_uq hw210 (Or.inl (by omega)) rfl))))), by omega, p + 1, runOk.at hrn (by omega) (e_ue hw263) erg, by omega, e_kn.le (e_kn.oth (e_kn.oth (e_kn.put (b' := dl p - 1) (e_kn.oth (e_kn.oth hst hw210 (by decide)) hw216 (by decide)) hw257 (by omega) (by omega)) hw255 (by decide)) hw263 (by decide)) (by omega), by omega, by omega⟩⟩
        · replace h248 : (w 328 (10000 * a + p) : Int) = 14 := Classical.not_not.mp (show ¬ ((w 328 (10000 * a + p) : Int) ≠ 14) from h248)
          refine e_Ok.ps2 (x := (0, 1)) (y := (1, 275)) (q := 441) 2 rfl ?_
          have e271 : w216 276 5 = w 276 5 := (e_uq hw216 (Or.inl (by omega)) (e_uq hw210 (Or.inl (by omega)) rfl))
          refine e_Ok.callV rfl (e_dq hd rfl) rfl rfl rfl rfl (c_369 (e_dq hd rfl) hT220 (by omega) (by omega) (e_uq hw216 (Or.inr (by omega)) (e_uq hw210 (Or.inr (by omega)) h96)) (e_uq hw216 (Or.inr (by omega)) (e_uq hw210 (Or.inr (by omega)) h97)) (e_uq hw216 (Or.inr (by omega)) (e_uq hw210 (Or.inr (by omega)) h98)) (cOk.fr (fun c k q1 q2 => (e_uq hw216 (Or.inl (by omega)) (e_uq hw210 (Or.inl (by omega)) rfl))) hC) (runOk.at (runOk.fr (w' := w216) (fun c k q1 q2 => (e_uq hw216 (Or.inl (by omega)) (e_uq hw210 (Or.inl (by omega)) rfl))) (fun i q1 q2 => ⟨(e_uq hw216 (Or.inl (by omega)) (e_uq hw210 (Or.inl (by omega)) rfl)), (e_uq hw216 (Or.inl (by omega)) (e_uq hw210 (Or.inl (by omega)) rfl))⟩) (e_uq hw216 (Or.inl (by omega)) (e_uq hw210 (Or.inl (by omega)) rfl)) (e_uq hw216 (Or.inl (by omega)) (e_uq hw210 (Or.inl (by omega)) rfl)) (fun k q1 q2 => (e_uq hw216 (Or.inl (by omega)) (e_uq hw210 (Or.inl (by omega)) rfl))) (by omega) hru) (by omega) (e_uq hw216 (Or.inl (by omega)) (e_uq hw210 (Or.inl (by omega)) hpc)) (e_uq hw216 (Or.inl (by omega)) (e_uq hw210 (Or.inl (by omega)) rfl))) (by omega) (by omega)) (fun r268 w269 h270 => ?_)
          obtain ⟨rfl, ⟨q272, q272S⟩, q272T, q272n, q272d, q272c⟩ := h270
          refine e_Ok.nrm (q := 444) (st' := []) rfl rfl ?_
          refine e_Ok.rets rfl rfl ?_
          exact ⟨rfl, ⟨(show e_fr (mRk t) w w269 from e_fr.trans f219 (e_fr.mono q272 (fun c k q => by first | exact su_63x_0 q | (unfold mLv at q; unfold mRk mLv; omega)))), (sRel.trans (sRel.up (sRel.up sRel.refl hw210 (fun q b g1 g2 => by omega)) hw216 (fun q b g1 g2 => by omega)) q272S)⟩, q272T, by omega, Or.inl ⟨q272d, q272c.imp id (fun h => ⟨h.1.trans (e_uq hw216 (Or.inr (by omega)) (e_uq hw210 (Or.inr (by omega)) rfl)), h.2.1.trans (e_uq hw216 (Or.inl (by omega)) (e_uq hw210 (Or.inl (by omega)) rfl)), h.2.2.1.trans (e_uq hw216 (Or.inl (by omega)) (e_uq hw210 (Or.inl (by omega)) rfl)), h.2.2.2⟩)⟩⟩
  · refine e_Ok.sw (tg := 322) rfl (by rw [h1]; rfl) ?_
    have k1 := hi1.out (by omega)
    unfold iFT at k1
    have k4 := hi4.out (by omega)
    refine e_Ok.run (t' := (324, [(4, (0, p + 1)), (0, (1, 275)), (1, (0, w 328 (10000 * a + p))), (2, (0, w 329 (10000 * a + p))), (3, (0, p))], [(1, 275), (1, 275)], w)) 2 rfl ?_
    refine e_Ok.callV rfl (e_dq hd rfl) rfl rfl rfl rfl (c_364 hT (e := dl p) (u := dl p - 1) h102 (by omega) (by omega) (by have q : w 345 (dl p - 1) = w 345 (dl p - 1) := rfl; have q2 := (hst (dl p - 1) (by omega) (by omega)); omega)) (fun r274 w275 h276 => ?_)
    obtain ⟨rfl, hw275⟩ := h276
    generalize hz277 : w 345 (dl p - 1) = z277
    have z277r : z277 = w 345 (dl p - 1) := Eq.trans hz277.symm rfl
    have f278 : e_fr (mRk t) w w275 := e_fr.up (e_fr.refl w) hw275 (by unfold mRk mLv; omega)
    have hT279 : e_Has mTy w275 := e_Has.ups hT hw275 (mt_o rfl)
    refine e_Ok.nrm (q := 327) (st' := [(0, z277), (1, 275)]) rfl rfl ?_
    refine e_Ok.if1 rfl (fun h280 => ?_) (fun h280 => ?_)
    · replace h280 : (z277 : Int) ≠ 0 := h280
      refine e_Ok.ps1 (x := (0, 0)) (q := 335) 1 rfl ?_
      refine e_Ok.callV rfl (e_dq hd rfl) rfl rfl rfl rfl (c_363 hT279 (e := dl p - 1) (e1 := dl p) (e_ue hw275) (by omega) (by omega)) (fun r281 w282 h283 => ?_)
      obtain ⟨rfl, hw282⟩ := h283
      generalize hw284 : e_up w275 345 (dl p - 1) 0 = w284 at hw282
      have hT286 : e_Has mTy w284 := e_Has.ups hT279 hw284 (mt_o rfl)
      have hT288 : e_Has mTy w282 := e_Has.ups hT286 hw282 (mt_o rfl)
      refine e_Ok.nrm (q := 338) (st' := []) rfl rfl ?_
      refine e_Ok.ps2 (x := (0, p + 1)) (y := (1, 275)) (q := 460) 3 rfl ?_
      refine e_Ok.callV rfl (e_dq hd rfl) rfl rfl rfl rfl (c_365 (e_dq hd rfl) hT288 (by omega) (e_uq hw282 (Or.inr (by omega)) (e_uq hw284 (Or.inl (by first | decide | omega)) (e_uq hw275 (Or.inr (by omega)) h97))) (f := g + 1) (z := 1260 * t + 2 * g + 436) (e_uq hw282 (Or.inl (by first | decide | omega)) (e_uq hw284 (Or.inl (by first | decide | omega)) (e_uq hw275 (Or.inl (by first | decide | omega)) hF))) (by omega) (by omega)) (fun r289 w290 h291 => ?_)
      obtain ⟨rfl, hw290⟩ := h291
      have hT293 : e_Has mTy w290 := e_Has.upr hT288 hw290 (nR_FRg t (g) (by omega) (by omega) (by omega)) (by omega)
      refine e_Ok.nrm (q := 463) (st' := []) rfl rfl ?_
      refine e_Ok.rets rfl rfl ?_
      have e294 : w290 276 5 = w 276 5 := (e_uq hw290 (Or.inr (by omega)) (e_uq hw282 (Or.inl (by omega)) (e_uq hw284 (Or.inl (by omega)) (e_uq hw275 (Or.inl (by omega)) rfl))))
      have hrn := runOk.fr (w' := w290) (fun c k q1 q2 => (e_uq hw290 (Or.inl (by omega)) (e_uq hw282 (Or.inl (by omega)) (e_uq hw284 (Or.inl (by omega)) (e_uq hw275 (Or.inl (by omega)) rfl))))) (fun i q1 q2 => ⟨(e_uq hw290 (Or.inr (by omega)) (e_uq hw282 (Or.inl (by omega)) (e_uq hw284 (Or.inl (by omega)) (e_uq hw275 (Or.inl (by omega)) rfl)))), (e_uq hw290 (Or.inr (by omega)) (e_uq hw282 (Or.inl (by omega)) (e_uq hw284 (Or.inl (by omega)) (e_uq hw275 (Or.inl (by omega)) rfl))))⟩) (e_uq hw290 (Or.inr (by omega)) (e_uq hw282 (Or.inl (by omega)) (e_uq hw284 (Or.inl (by omega)) (e_uq hw275 (Or.inl (by omega)) rfl)))) (e_uq hw290 (Or.inr (by omega)) (e_uq hw282 (Or.inl (by omega)) (e_uq hw284 (Or.inl (by omega)) (e_uq hw275 (Or.inl (by omega)) rfl)))) (fun k q1 q2 => (e_uq hw290 (Or.inr (by omega)) (e_uq hw282 (Or.inl (by omega)) (e_uq hw284 (Or.inl (by omega)) (e_uq hw275 (Or.inl (by omega)) rfl))))) (by omega) hru
      have erg : w290 330 (10000 * a + (p + 1)) = w 330 (10000 * a + p) := by rw [show 10000 * a + (p + 1) = 10000 * a + p + 1 by omega]; exact Eq.trans (e_uq hw290 (Or.inl (by first | decide | omega)) (e_uq hw282 (Or.inl (by first | decide | omega)) (e_uq hw284 (Or.inl (by first | decide | omega)) (e_uq hw275 (Or.inl (by first | decide | omega)) rfl)))) k1.2.2.2
      have ede : w290 275 102 = dl p := (e_uq hw290 (Or.inl (by omega)) (e_ue hw282))
      exact ⟨rfl, ⟨(show e_fr (mRk t) w w290 from e_fr.up (show e_fr (mRk t) w w282 from e_fr.up (show e_fr (mRk t) w w284 from e_fr.up f278 hw284 (by first | exact Or.inr (Or.inl rfl) | (unfold mRk mLv; omega))) hw282 (by first | exact Or.inl (Or.inl ⟨rfl, Or.inr rfl⟩) | (unfold mRk mLv; omega))) hw290 (by first | exact Or.inl (Or.inr ⟨rfl, Or.inr (Or.inr (Or.inr (Or.inr (Or.inr (Or.inr (Or.inr (Or.inr (Or.inr ⟨(by omega), (by omega)⟩))))))))⟩) | (unfold mRk mLv; omega))), (sRel.up (sRel.up (sRel.up (sRel.up sRel.refl hw275 (fun q b g1 g2 => by omega)) hw284 (fun q b g1 g2 => by omega)) hw282 (fun q b g1 g2 => by omega)) hw290 (fun q b g1 g2 => by omega))⟩, hT293, by omega, Or.inr ⟨(e_uq hw290 (Or.inl (by omega)) (e_uq hw282 (Or.inr (by omega)) (e_uq hw284 (Or.inl (by omega)) (e_uq hw275 (Or.inr (by omega)) rfl)))), (e_uq hw290 (Or.inr (by omega)) (e_uq hw282 (Or.inl (by omega)) (e_uq hw284 (Or.inl (by omega)) (e_uq hw275 (Or.inl (by omega)) rfl)))), by omega, p + 1, runOk.at hrn (by omega) (e_ue hw290) erg, by omega, e_kn.le (e_kn.oth (e_kn.oth (e_kn.put (b' := dl p - 1) (e_kn.oth hst hw275 (by decide)) hw284 (by omega) (by omega)) hw282 (by decide)) hw290 (by decide)) (by omega), by omega, by omega⟩⟩
    · replace h280 : (z277 : Int) = 0 := Classical.not_not.mp (show ¬ ((z277 : Int) ≠ 0) from h280)
      refine e_Ok.ps1 (x := (0, 1)) (q := 335) 2 rfl ?_
      refine e_Ok.callV rfl (e_dq hd rfl) rfl rfl rfl rfl (c_363 hT279 (e := dl p - 1) (e1 := dl p) (e_ue hw275) (by omega) (by omega)) (fun r295 w296 h297 => ?_)
      obtain ⟨rfl, hw296⟩ := h297
      generalize hw298 : e_up w275 345 (dl p - 1) 1 = w298 at hw296
      have hT300 : e_Has mTy w298 := e_Has.ups hT279 hw298 (mt_o rfl)
      have hT302 : e_Has mTy w296 := e_Has.ups hT300 hw296 (mt_o rfl)
      refine e_Ok.nrm (q := 338) (st' := []) rfl rfl ?_
      refine e_Ok.ps2 (x := (0, p + 1)) (y := (1, 275)) (q := 460) 3 rfl ?_
      refine e_Ok.callV rfl (e_dq hd rfl) rfl rfl rfl rfl (c_365 (e_dq hd rfl) hT302 (by omega) (e_uq hw296 (Or.inr (by omega)) (e_uq hw298 (Or.inl (by first | decide | omega)) (e_uq hw275 (Or.inr (by omega)) h97))) (f := g + 1) (z := 1260 * t + 2 * g + 436) (e_uq hw296 (Or.inl (by first | decide | omega)) (e_uq hw298 (Or.inl (by first | decide | omega)) (e_uq hw275 (Or.inl (by first | decide | omega)) hF))) (by omega) (by omega)) (fun r303 w304 h305 => ?_)
      obtain ⟨rfl, hw304⟩ := h305
      have hT307 : e_Has mTy w304 := e_Has.upr hT302 hw304 (nR_FRg t (g) (by omega) (by omega) (by omega)) (by omega)
      refine e_Ok.nrm (q := 463) (st' := []) rfl rfl ?_
      refine e_Ok.rets rfl rfl ?_
      have e308 : w304 276 5 = w 276 5 := (e_uq hw304 (Or.inr (by omega)) (e_uq hw296 (Or.inl (by omega)) (e_uq hw298 (Or.inl (by omega)) (e_uq hw275 (Or.inl (by omega)) rfl))))
      have hrn := runOk.fr (w' := w304) (fun c k q1 q2 => (e_uq hw304 (Or.inl (by omega)) (e_uq hw296 (Or.inl (by omega)) (e_uq hw298 (Or.inl (by omega)) (e_uq hw275 (Or.inl (by omega)) rfl))))) (fun i q1 q2 => ⟨(e_uq hw304 (Or.inr (by omega)) (e_uq hw296 (Or.inl (by omega)) (e_uq hw298 (Or.inl (by omega)) (e_uq hw275 (Or.inl (by omega)) rfl)))), (e_uq hw304 (Or.inr (by omega)) (e_uq hw296 (Or.inl (by omega)) (e_uq hw298 (Or.inl (by omega)) (e_uq hw275 (Or.inl (by omega)) rfl))))⟩) (e_uq hw304 (Or.inr (by omega)) (e_uq hw296 (Or.inl (by omega)) (e_uq hw298 (Or.inl (by omega)) (e_uq hw275 (Or.inl (by omega)) rfl)))) (e_uq hw304 (Or.inr (by omega)) (e_uq hw296 (Or.inl (by omega)) (e_uq hw298 (Or.inl (by omega)) (e_uq hw275 (Or.inl (by omega)) rfl)))) (fun k q1 q2 => (e_uq hw304 (Or.inr (by omega)) (e_uq hw296 (Or.inl (by omega)) (e_uq hw298 (Or.inl (by omega)) (e_uq hw275 (Or.inl (by omega)) rfl))))) (by omega) hru
      have erg : w304 330 (10000 * a + (p + 1)) = w 330 (10000 * a + p) := by rw [show 10000 * a + (p + 1) = 10000 * a + p + 1 by omega]; exact Eq.trans (e_uq hw304 (Or.inl (by first | decide | omega)) (e_uq hw296 (Or.inl (by first | decide | omega)) (e_uq hw298 (Or.inl (by first | decide | omega)) (e_uq hw275 (Or.inl (by first | decide | omega)) rfl)))) k1.2.2.2
      have ede : w304 275 102 = dl p := (e_uq hw304 (Or.inl (by omega)) (e_ue hw296))
      exact ⟨rfl, ⟨(show e_fr (mRk t) w w304 from e_fr.up (show e_fr (mRk t) w w296 from e_fr.up (show e_fr (mRk t) w w298 from e_fr.up f278 hw298 (by first | exact Or.inr (Or.inl rfl) | (unfold mRk mLv; omega))) hw296 (by first | exact Or.inl (Or.inl ⟨rfl, Or.inr rfl⟩) | (unfold mRk mLv; omega))) hw304 (by first | exact Or.inl (Or.inr ⟨rfl, Or.inr (Or.inr (Or.inr (Or.inr (Or.inr (Or.inr (Or.inr (Or.inr (Or.inr ⟨(by omega), (by omega)⟩))))))))⟩) | (unfold mRk mLv; omega))), (sRel.up (sRel.up (sRel.up (sRel.up sRel.refl hw275 (fun q b g1 g2 => by omega)) hw298 (fun q b g1 g2 => by omega)) hw296 (fun q b g1 g2 => by omega)) hw304 (fun q b g1 g2 => by omega))⟩, hT307, by omega, Or.inr ⟨(e_uq hw304 (Or.inl (by omega)) (e_uq hw296 (Or.inr (by omega)) (e_uq hw298 (Or.inl (by omega)) (e_uq hw275 (Or.inr (by omega)) rfl)))), (e_uq hw304 (Or.inr (by omega)) (e_uq hw296 (Or.inl (by omega)) (e_uq hw298 (Or.inl (by omega)) (e_uq hw275 (Or.inl (by omega)) rfl)))), by omega, p + 1, runOk.at hrn (by omega) (e_ue hw304) erg, by omega, e_kn.le (e_kn.oth (e_kn.oth (e_kn.put (b' := dl p - 1) (e_kn.oth hst hw275 (by decide)) hw298 (by omega) (by omega)) hw296 (by decide)) hw304 (by decide)) (by omega), by omega, by omega⟩⟩
  · exfalso; omega
  · exfalso; omega
  · exfalso; omega
end
end
-- part 63y
section
noncomputable section
set_option maxHeartbeats 4000000 in
theorem c_374_c {d : Nat} (hd : 33 ≤ d) {w : eW} (hT : e_Has mTy w) (hA : mAc w) {t a g : Int} (ht : 0 ≤ t ∧ t ≤ 15) (ha : 0 ≤ a ∧ a ≤ 3) (h96 : w 275 96 = t) (h97 : w 275 97 = 1260 * t + 416) (h98 : w 275 98 = a) {n nt nw : Int} {dl sg pi en : Int → Int} {an br : Int → Int → Prop} {bs ow : Int → Int} (hC : cOk w a n nt nw dl sg pi en an br) {p : Int} (hP : topOk w a t g p n nt nw dl sg pi an br bs ow) (hE : w 276 5 ≤ 2147483000) (h102 : w 275 102 = dl p) (hst : e_kn w 345 0 (dl p - 1)) (hop : w 328 (10000 * a + p) < 30) (hsel : 22 ≤ w 328 (10000 * a + p) ∧ w 328 (10000 * a + p) ≤ 24) : e_Ok 20 elay ecode eI d 374 (0, [(0, (1, 275)), (1, (0, w 328 (10000 * a + p))), (2, (0, w 329 (10000 * a + p))), (3, (0, p))], [], w) (fun r' w' => r' = [] ∧ (e_fr (mRk t) w w' ∧ sRel w w') ∧ e_Has mTy w' ∧ (w 276 5 ≤ w' 276 5 ∧ w' 276 5 ≤ w 276 5 + 2) ∧ ((w' 275 102 = 0 ∧ ((w' 275 100 = 1 ∧ (w' 276 (1260 * t + 416) = 6 ∨ w' 276 (1260 * t + 416) = 7)) ∨ (w' 275 100 = w 275 100 ∧ w' 276 (1260 * t + 416) = w 276 (1260 * t + 416) ∧ w' 276 5 = w 276 5 ∧ ∃ (g' p' : Int) (bs' ow' : Int → Int), g' ≤ g ∧ (g' = g → p < p') ∧ topOk w' a t g' p' n nt nw dl sg pi an br bs' ow' ∧ dl p' = 0 ∧ sg p' = 0))) ∨ (w' 275 100 = w 275 100 ∧ w' 276 (1260 * t + 416) = w 276 (1260 * t + 416) ∧ w' 276 5 = w 276 5 ∧ ∃ p', topOk w' a t g p' n nt nw dl sg pi an br bs ow ∧ w' 275 102 = dl p' ∧ e_kn w' 345 0 (dl p' - 1) ∧ sg p' = 1 ∧ p < p'))) := by
  obtain ⟨d, rfl⟩ : ∃ e, d = e + 1 := ⟨d - 1, by omega⟩
  obtain ⟨hpn, hpc, hru⟩ := id hP
  obtain ⟨hg, hF, hlow, hrr, hPn, hch, hpe⟩ := id hru
  have hCn := hC.1
  have hins := hC.2.1 p hpn.1 hpn.2
  have hbg := hlow.2.1 g (by omega) (by omega)
  have hpen := hins.1.2.2.2.1
  have hpib := hC.2.2.2.1.2.1 _ hrr.1 hrr.2
  obtain ⟨hi0, hi1, hi2, hi3, hi4, hi5, hi6, -⟩ := id hins
  replace hi1 := (show Hd63 _ from hi1)
  replace hi2 := (show Hd63 _ from hi2)
  replace hi3 := (show Hd63 _ from hi3)
  replace hi4 := (show Hd63 _ from hi4)
  replace hi5 := (show Hd63 _ from hi5)
  replace hi6 := (show Hd63 _ from hi6)
  replace hins := (show Hd63 _ from hins)
  have hop24 : 1 ≤ w 328 (10000 * a + p) ∧ w 328 (10000 * a + p) ≤ 24 := ⟨hi0.1.1, hi0.1.2.2.resolve_right (Int.not_le.mpr hop)⟩
  have har := e_Has.get hT (c := 329) (k := 10000 * a + p) (lo := -2147483648) (hi := 2147483647) (mt_o rfl) (by decide)
  refine e_Ok.run (t' := (2, [(0, (1, 275)), (1, (0, w 328 (10000 * a + p))), (2, (0, w 329 (10000 * a + p))), (3, (0, p))], [(0, 1), (0, p)], w)) 2 rfl ?_
  refine e_Ok.add (z := p + 1) rfl rfl (by omega) ?_
  refine e_Ok.run (t' := (6, [(4, (0, p + 1)), (0, (1, 275)), (1, (0, w 328 (10000 * a + p))), (2, (0, w 329 (10000 * a + p))), (3, (0, p))], [(0, w 328 (10000 * a + p))], w)) 2 rfl ?_
  have hs2 : ∀ x : Int, 1 ≤ x ∧ x ≤ 24 → (x = 1) ∨ (x = 2) ∨ (x = 3) ∨ (x = 4) ∨ (x = 5) ∨ (x = 6) ∨ (x = 7) ∨ (x = 8) ∨ (x = 9) ∨ (x = 10 ∨ x = 11 ∨ x = 12 ∨ x = 13 ∨ x = 14 ∨ x = 15 ∨ x = 16 ∨ x = 17 ∨ x = 18 ∨ x = 19 ∨ x = 20) ∨ (x = 21) ∨ (x = 22) ∨ (x = 23) ∨ (x = 24) := fun x h => by omega
  obtain h1 | h1 | h1 | h1 | h1 | h1 | h1 | h1 | h1 | h1 | h1 | h1 | h1 | h1 := hs2 (w 328 (10000 * a + p)) (hop24)
  · exfalso; omega
  · exfalso; omega
  · exfalso; omega
  · exfalso; omega
  · exfalso; omega
  · exfalso; omega
  · exfalso; omega
  · exfalso; omega
  · exfalso; omega
  · exfalso; omega
  · exfalso; omega
  · refine e_Ok.sw (tg := 360) rfl (by rw [h1]; rfl) ?_
    have k1 := hi1.out (by omega)
    unfold iFT at k1
    have k5 := hi5.out (by omega)
    refine e_Ok.run (t' := (361, [(4, (0, p + 1)), (0, (1, 275)), (1, (0, w 328 (10000 * a + p))), (2, (0, w 329 (10000 * a + p))), (3, (0, p))], [(1, 275)], w)) 1 rfl ?_
    refine e_Ok.callV rfl (e_dq hd rfl) rfl rfl rfl rfl (c_364 hT (e := dl p) (u := dl p - 1) h102 (by omega) (by omega) (by have q : w 345 (dl p - 1) = w 345 (dl p - 1) := rfl; have q2 := (hst (dl p - 1) (by omega) (by omega)); omega)) (fun r309 w310 h311 => ?_)
    obtain ⟨rfl, hw310⟩ := h311
    generalize hz312 : w 345 (dl p - 1) = z312
    have z312r : z312 = w 345 (dl p - 1) := Eq.trans hz312.symm rfl
    have f313 : e_fr (mRk t) w w310 := e_fr.up (e_fr.refl w) hw310 (by unfold mRk mLv; omega)
    have hT314 : e_Has mTy w310 := e_Has.ups hT hw310 (mt_o rfl)
    refine e_Ok.nrm (q := 364) (st' := [(0, z312)]) rfl rfl ?_
    refine e_Ok.if1 rfl (fun h315 => ?_) (fun h315 => ?_)
    · replace h315 : (z312 : Int) = 0 := h315
      refine e_Ok.run (t' := (379, [(7, (0, 0)), (4, (0, p + 1)), (0, (1, 275)), (1, (0, w 328 (10000 * a + p))), (2, (0, w 329 (10000 * a + p))), (3, (0, p))], [(0, 22), (0, w 328 (10000 * a + p)), (0, 0)], w310)) 5 rfl ?_
      refine e_Ok.if2 rfl (fun h316 => ?_) (fun h316 => ?_)
      · replace h316 : (w 328 (10000 * a + p) : Int) ≠ 22 := h316
        exfalso; omega
      · replace h316 : (w 328 (10000 * a + p) : Int) = 22 := Classical.not_not.mp (show ¬ ((w 328 (10000 * a + p) : Int) ≠ 22) from h316)
        refine e_Ok.ps1 (x := (0, 1)) (q := 387) 2 rfl ?_
        refine e_Ok.if2 rfl (fun h317 => ?_) (fun h317 => ?_)
        · replace h317 : (0 : Int) ≠ 1 := h317
          refine e_Ok.ps2 (x := (0, p + 1)) (y := (1, 275)) (q := 460) 2 rfl ?_
          refine e_Ok.callV rfl (e_dq hd rfl) rfl rfl rfl rfl (c_365 (e_dq hd rfl) hT314 (by omega) (e_uq hw310 (Or.inr (by omega)) h97) (f := g + 1) (z := 1260 * t + 2 * g + 436) (e_uq hw310 (Or.inl (by first | decide | omega)) hF) (by omega) (by omega)) (fun r318 w319 h320 => ?_)
          obtain ⟨rfl, hw319⟩ := h320
          have hT322 : e_Has mTy w319 := e_Has.upr hT314 hw319 (nR_FRg t (g) (by omega) (by omega) (by omega)) (by omega)
          refine e_Ok.nrm (q := 463) (st' := []) rfl rfl ?_
          refine e_Ok.rets rfl rfl ?_
          have e323 : w319 276 5 = w 276 5 := (e_uq hw319 (Or.inr (by omega)) (e_uq hw310 (Or.inl (by omega)) rfl))
          have hrn := runOk.fr (w' := w319) (fun c k q1 q2 => (e_uq hw319 (Or.inl (by omega)) (e_uq hw310 (Or.inl (by omega)) rfl))) (fun i q1 q2 => ⟨(e_uq hw319 (Or.inr (by omega)) (e_uq hw310 (Or.inl (by omega)) rfl)), (e_uq hw319 (Or.inr (by omega)) (e_uq hw310 (Or.inl (by omega)) rfl))⟩) (e_uq hw319 (Or.inr (by omega)) (e_uq hw310 (Or.inl (by omega)) rfl)) (e_uq hw319 (Or.inr (by omega)) (e_uq hw310 (Or.inl (by omega)) rfl)) (fun k q1 q2 => (e_uq hw319 (Or.inr (by omega)) (e_uq hw310 (Or.inl (by omega)) rfl))) (by omega) hru
          have erg : w319 330 (10000 * a + (p + 1)) = w 330 (10000 * a + p) := by rw [show 10000 * a + (p + 1) = 10000 * a + p + 1 by omega]; exact Eq.trans (e_uq hw319 (Or.inl (by first | decide | omega)) (e_uq hw310 (Or.inl (by first | decide | omega)) rfl)) k1.2.2.2
          have ede : w319 275 102 = dl p - 1 := (e_uq hw319 (Or.inl (by omega)) (e_ue hw310))
          exact ⟨rfl, ⟨(show e_fr (mRk t) w w319 from e_fr.up f313 hw319 (by first | exact Or.inl (Or.inr ⟨rfl, Or.inr (Or.inr (Or.inr (Or.inr (Or.inr (Or.inr (Or.inr (Or.inr (Or.inr ⟨(by omega), (by omega)⟩))))))))⟩) | (unfold mRk mLv; omega))), (sRel.up (sRel.up sRel.refl hw310 (fun q b g1 g2 => by omega)) hw319 (fun q b g1 g2 => by omega))⟩, hT322, by omega, Or.inr ⟨(e_uq hw319 (Or.inl (by omega)) (e_uq hw310 (Or.inr (by omega)) rfl)), (e_uq hw319 (Or.inr (by omega)) (e_uq hw310 (Or.inl (by omega)) rfl)), by omega, p + 1, runOk.at hrn (by omega) (e_ue hw319) erg, by omega, e_kn.le (e_kn.oth (e_kn.oth hst hw310 (by decide)) hw319 (by decide)) (by omega), by omega, by omega⟩⟩
        · replace h317 : (0 : Int) = 1 := Classical.not_not.mp (show ¬ ((0 : Int) ≠ 1) from h317)
          exfalso; omega
    · replace h315 : (z312 : Int) ≠ 0 := (show ¬ ((z312 : Int) = 0) from h315)
      refine e_Ok.run (t' := (379, [(7, (0, 1)), (4, (0, p + 1)), (0, (1, 275)), (1, (0, w 328 (10000 * a + p))), (2, (0, w 329 (10000 * a + p))), (3, (0, p))], [(0, 22), (0, w 328 (10000 * a + p)), (0, 1)], w310)) 6 rfl ?_
      refine e_Ok.if2 rfl (fun h324 => ?_) (fun h324 => ?_)
      · replace h324 : (w 328 (10000 * a + p) : Int) ≠ 22 := h324
        exfalso; omega
      · replace h324 : (w 328 (10000 * a + p) : Int) = 22 := Classical.not_not.mp (show ¬ ((w 328 (10000 * a + p) : Int) ≠ 22) from h324)
        refine e_Ok.ps1 (x := (0, 1)) (q := 387) 2 rfl ?_
        refine e_Ok.if2 rfl (fun h325 => ?_) (fun h325 => ?_)
        · replace h325 : (1 : Int) ≠ 1 := h325
          exfalso; omega
        · replace h325 : (1 : Int) = 1 := Classical.not_not.mp (show ¬ ((1 : Int) ≠ 1) from h325)
          refine e_Ok.ps2 (x := (0, 1)) (y := (1, 275)) (q := 393) 2 rfl ?_
          refine e_Ok.if1 rfl (fun h326 => ?_) (fun h326 => ?_)
          · replace h326 : (1 : Int) = 0 := h326
            exfalso; omega
          · replace h326 : (1 : Int) ≠ 0 := (show ¬ ((1 : Int) = 0) from h326)
            refine e_Ok.ps1 (x := (0, 1)) (q := 401) 2 rfl ?_
            refine e_Ok.callV rfl (e_dq hd rfl) rfl rfl rfl rfl (c_363 hT314 (e := dl p - 1) (e1 := dl p) (e_ue hw310) (by omega) (by omega)) (fun r327 w328 h329 => ?_)
            obtain ⟨rfl, hw328⟩ := h329
            generalize hw330 : e_up w310 345 (dl p - 1) 1 = w330 at hw328
            have hT332 : e_Has mTy w330 := e_Has.ups hT314 hw330 (mt_o rfl)
            have hT334 : e_Has mTy w328 := e_Has.ups hT332 hw328 (mt_o rfl)
            refine e_Ok.nrm (q := 404) (st' := []) rfl rfl ?_
            refine e_Ok.run (t' := (460, [(4, (0, w 329 (10000 * a + p))), (7, (0, 1)), (0, (1, 275)), (1, (0, w 328 (10000 * a + p))), (2, (0, w 329 (10000 * a + p))), (3, (0, p))], [(0, w 329 (10000 * a + p)), (1, 275)], w328)) 5 rfl ?_
            refine e_Ok.callV rfl (e_dq hd rfl) rfl rfl rfl rfl (c_365 (e_dq hd rfl) hT334 (by omega) (e_uq hw328 (Or.inr (by omega)) (e_uq hw330 (Or.inl (by first | decide | omega)) (e_uq hw310 (Or.inr (by omega)) h97))) (f := g + 1) (z := 1260 * t + 2 * g + 436) (e_uq hw328 (Or.inl (by first | decide | omega)) (e_uq hw330 (Or.inl (by first | decide | omega)) (e_uq hw310 (Or.inl (by first | decide | omega)) hF))) (by omega) (by omega)) (fun r335 w336 h337 => ?_)
            obtain ⟨rfl, hw336⟩ := h337
            have hT339 : e_Has mTy w336 := e_Has.upr hT334 hw336 (nR_FRg t (g) (by omega) (by omega) (by omega)) (by omega)
            refine e_Ok.nrm (q := 463) (st' := []) rfl rfl ?_
            refine e_Ok.rets rfl rfl ?_
            have e340 : w336 276 5 = w 276 5 := (e_uq hw336 (Or.inr (by omega)) (e_uq hw328 (Or.inl (by omega)) (e_uq hw330 (Or.inl (by omega)) (e_uq hw310 (Or.inl (by omega)) rfl))))
            have hrn := runOk.fr (w' := w336) (fun c k q1 q2 => (e_uq hw336 (Or.inl (by omega)) (e_uq hw328 (Or.inl (by omega)) (e_uq hw330 (Or.inl (by omega)) (e_uq hw310 (Or.inl (by omega)) rfl))))) (fun i q1 q2 => ⟨(e_uq hw336 (Or.inr (by omega)) (e_uq hw328 (Or.inl (by omega)) (e_uq hw330 (Or.inl (by omega)) (e_uq hw310 (Or.inl (by omega)) rfl)))), (e_uq hw336 (Or.inr (by omega)) (e_uq hw328 (Or.inl (by omega)) (e_uq hw330 (Or.inl (by omega)) (e_uq hw310 (Or.inl (by omega)) rfl))))⟩) (e_uq hw336 (Or.inr (by omega)) (e_uq hw328 (Or.inl (by omega)) (e_uq hw330 (Or.inl (by omega)) (e_uq hw310 (Or.inl (by omega)) rfl)))) (e_uq hw336 (Or.inr (by omega)) (e_uq hw328 (Or.inl (by omega)) (e_uq hw330 (Or.inl (by omega)) (e_uq hw310 (Or.inl (by omega)) rfl)))) (fun k q1 q2 => (e_uq hw336 (Or.inr (by omega)) (e_uq hw328 (Or.inl (by omega)) (e_uq hw330 (Or.inl (by omega)) (e_uq hw310 (Or.inl (by omega)) rfl))))) (by omega) hru
            have erg : w336 330 (10000 * a + (w 329 (10000 * a + p))) = w 330 (10000 * a + p) := Eq.trans (e_uq hw336 (Or.inl (by first | decide | omega)) (e_uq hw328 (Or.inl (by first | decide | omega)) (e_uq hw330 (Or.inl (by first | decide | omega)) (e_uq hw310 (Or.inl (by first | decide | omega)) rfl)))) k5.2.2.2.2.2.2
            have ede : w336 275 102 = dl p := (e_uq hw336 (Or.inl (by omega)) (e_ue hw328))
            exact ⟨rfl, ⟨(show e_fr (mRk t) w w336 from e_fr.up (show e_fr (mRk t) w w328 from e_fr.up (show e_fr (mRk t) w w330 from e_fr.up f313 hw330 (by first | exact Or.inr (Or.inl rfl) | (unfold mRk mLv; omega))) hw328 (by first | exact Or.inl (Or.inl ⟨rfl, Or.inr rfl⟩) | (unfold mRk mLv; omega))) hw336 (by first | exact Or.inl (Or.inr ⟨rfl, Or.inr (Or.inr (Or.inr (Or.inr (Or.inr (Or.inr (Or.inr (Or.inr (Or.inr ⟨(by omega), (by omega)⟩))))))))⟩) | (unfold mRk mLv; omega))), (sRel.up (sRel.up (sRel.up (sRel.up sRel.refl hw310 (fun q b g1 g2 => by omega)) hw330 (fun q b g1 g2 => by omega)) hw328 (fun q b g1 g2 => by omega)) hw336 (fun q b g1 g2 => by omega))⟩, hT339, by omega, Or.inr ⟨(e_uq hw336 (Or.inl (by omega)) (e_uq hw328 (Or.inr (by omega)) (e_uq hw330 (Or.inl (by omega)) (e_uq hw310 (Or.inr (by omega)) rfl)))), (e_uq hw336 (Or.inr (by omega)) (e_uq hw328 (Or.inl (by omega)) (e_uq hw330 (Or.inl (by omega)) (e_uq hw310 (Or.inl (by omega)) rfl)))), by omega, w 329 (10000 * a + p), runOk.at hrn (by omega) (e_ue hw336) erg, by omega, e_kn.le (e_kn.oth (e_kn.oth (e_kn.put (b' := dl p - 1) (e_kn.oth hst hw310 (by decide)) hw330 (by omega) (by omega)) hw328 (by decide)) hw336 (by decide)) (by omega), by omega, by omega⟩⟩
  · refine e_Ok.sw (tg := 360) rfl (by rw [h1]; rfl) ?_
    have k1 := hi1.out (by omega)
    unfold iFT at k1
    have k5 := hi5.out (by omega)
    refine e_Ok.run (t' := (361, [(4, (0, p + 1)), (0, (1, 275)), (1, (0, w 328 (10000 * a + p))), (2, (0, w 329 (10000 * a + p))), (3, (0, p))], [(1, 275)], w)) 1 rfl ?_
    refine e_Ok.callV rfl (e_dq hd rfl) rfl rfl rfl rfl (c_364 hT (e := dl p) (u := dl p - 1) h102 (by omega) (by omega) (by have q : w 345 (dl p - 1) = w 345 (dl p - 1) := rfl; have q2 := (hst (dl p - 1) (by omega) (by omega)); omega)) (fun r341 w342 h343 => ?_)
    obtain ⟨rfl, hw342⟩ := h343
    generalize hz344 : w 345 (dl p - 1) = z344
    have z344r : z344 = w 345 (dl p - 1) := Eq.trans hz344.symm rfl
    have f345 : e_fr (mRk t) w w342 := e_fr.up (e_fr.refl w) hw342 (by unfold mRk mLv; omega)
    have hT346 : e_Has mTy w342 := e_Has.ups hT hw342 (mt_o rfl)
    refine e_Ok.nrm (q := 364) (st' := [(0, z344)]) rfl rfl ?_
    refine e_Ok.if1 rfl (fun h347 => ?_) (fun h347 => ?_)
    · replace h347 : (z344 : Int) = 0 := h347
      refine e_Ok.run (t' := (379, [(7, (0, 0)), (4, (0, p + 1)), (0, (1, 275)), (1, (0, w 328 (10000 * a + p))), (2, (0, w 329 (10000 * a + p))), (3, (0, p))], [(0, 22), (0, w 328 (10000 * a + p)), (0, 0)], w342)) 5 rfl ?_
      refine e_Ok.if2 rfl (fun h348 => ?_) (fun h348 => ?_)
      · replace h348 : (w 328 (10000 * a + p) : Int) ≠ 22 := h348
        refine e_Ok.ps1 (x := (0, 0)) (q := 387) 1 rfl ?_
        refine e_Ok.if2 rfl (fun h349 => ?_) (fun h349 => ?_)
        · replace h349 : (0 : Int) ≠ 0 := h349
          exfalso; omega
        · replace h349 : (0 : Int) = 0 := Classical.not_not.mp (show ¬ ((0 : Int) ≠ 0) from h349)
          refine e_Ok.ps2 (x := (0, 0)) (y := (1, 275)) (q := 393) 2 rfl ?_
          refine e_Ok.if1 rfl (fun h350 => ?_) (fun h350 => ?_)
          · replace h350 : (0 : Int) = 0 := h350
            refine e_Ok.ps1 (x := (0, 0)) (q := 401) 1 rfl ?_
            refine e_Ok.callV rfl (e_dq hd rfl) rfl rfl rfl rfl (c_363 hT346 (e := dl p - 1) (e1 := dl p) (e_ue hw342) (by omega) (by omega)) (fun r351 w352 h353 => ?_)
            obtain ⟨rfl, hw352⟩ := h353
            generalize hw354 : e_up w342 345 (dl p - 1) 0 = w354 at hw352
            have hT356 : e_Has mTy w354 := e_Has.ups hT346 hw354 (mt_o rfl)
            have hT358 : e_Has mTy w352 := e_Has.ups hT356 hw352 (mt_o rfl)
            refine e_Ok.nrm (q := 404) (st' := []) rfl rfl ?_
            refine e_Ok.run (t' := (460, [(4, (0, w 329 (10000 * a + p))), (7, (0, 0)), (0, (1, 275)), (1, (0, w 328 (10000 * a + p))), (2, (0, w 329 (10000 * a + p))), (3, (0, p))], [(0, w 329 (10000 * a + p)), (1, 275)], w352)) 5 rfl ?_
            refine e_Ok.callV rfl (e_dq hd rfl) rfl rfl rfl rfl (c_365 (e_dq hd rfl) hT358 (by omega) (e_uq hw352 (Or.inr (by omega)) (e_uq hw354 (Or.inl (by first | decide | omega)) (e_uq hw342 (Or.inr (by omega)) h97))) (f := g + 1) (z := 1260 * t + 2 * g + 436) (e_uq hw352 (Or.inl (by first | decide | omega)) (e_uq hw354 (Or.inl (by first | decide | omega)) (e_uq hw342 (Or.inl (by first | decide | omega)) hF))) (by omega) (by omega)) (fun r359 w360 h361 => ?_)
            obtain ⟨rfl, hw360⟩ := h361
            have hT363 : e_Has mTy w360 := e_Has.upr hT358 hw360 (nR_FRg t (g) (by omega) (by omega) (by omega)) (by omega)
            refine e_Ok.nrm (q := 463) (st' := []) rfl rfl ?_
            refine e_Ok.rets rfl rfl ?_
            have e364 : w360 276 5 = w 276 5 := (e_uq hw360 (Or.inr (by omega)) (e_uq hw352 (Or.inl (by omega)) (e_uq hw354 (Or.inl (by omega)) (e_uq hw342 (Or.inl (by omega)) rfl))))
            have hrn := runOk.fr (w' := w360) (fun c k q1 q2 => (e_uq hw360 (Or.inl (by omega)) (e_uq hw352 (Or.inl (by omega)) (e_uq hw354 (Or.inl (by omega)) (e_uq hw342 (Or.inl (by omega)) rfl))))) (fun i q1 q2 => ⟨(e_uq hw360 (Or.inr (by omega)) (e_uq hw352 (Or.inl (by omega)) (e_uq hw354 (Or.inl (by omega)) (e_uq hw342 (Or.inl (by omega)) rfl)))), (e_uq hw360 (Or.inr (by omega)) (e_uq hw352 (Or.inl (by omega)) (e_uq hw354 (Or.inl (by omega)) (e_uq hw342 (Or.inl (by omega)) rfl))))⟩) (e_uq hw360 (Or.inr (by omega)) (e_uq hw352 (Or.inl (by omega)) (e_uq hw354 (Or.inl (by omega)) (e_uq hw342 (Or.inl (by omega)) rfl)))) (e_uq hw360 (Or.inr (by omega)) (e_uq hw352 (Or.inl (by omega)) (e_uq hw354 (Or.inl (by omega)) (e_uq hw342 (Or.inl (by omega)) rfl)))) (fun k q1 q2 => (e_uq hw360 (Or.inr (by omega)) (e_uq hw352 (Or.inl (by omega)) (e_uq hw354 (Or.inl (by omega)) (e_uq hw342 (Or.inl (by omega)) rfl))))) (by omega) hru
            have erg : w360 330 (10000 * a + (w 329 (10000 * a + p))) = w 330 (10000 * a + p) := Eq.trans (e_uq hw360 (Or.inl (by first | decide | omega)) (e_uq hw352 (Or.inl (by first | decide | omega)) (e_uq hw354 (Or.inl (by first | decide | omega)) (e_uq hw342 (Or.inl (by first | decide | omega)) rfl)))) k5.2.2.2.2.2.2
            have ede : w360 275 102 = dl p := (e_uq hw360 (Or.inl (by omega)) (e_ue hw352))
            exact ⟨rfl, ⟨(show e_fr (mRk t) w w360 from e_fr.up (show e_fr (mRk t) w w352 from e_fr.up (show e_fr (mRk t) w w354 from e_fr.up f345 hw354 (by first | exact Or.inr (Or.inl rfl) | (unfold mRk mLv; omega))) hw352 (by first | exact Or.inl (Or.inl ⟨rfl, Or.inr rfl⟩) | (unfold mRk mLv; omega))) hw360 (by first | exact Or.inl (Or.inr ⟨rfl, Or.inr (Or.inr (Or.inr (Or.inr (Or.inr (Or.inr (Or.inr (Or.inr (Or.inr ⟨(by omega), (by omega)⟩))))))))⟩) | (unfold mRk mLv; omega))), (sRel.up (sRel.up (sRel.up (sRel.up sRel.refl hw342 (fun q b g1 g2 => by omega)) hw354 (fun q b g1 g2 => by omega)) hw352 (fun q b g1 g2 => by omega)) hw360 (fun q b g1 g2 => by omega))⟩, hT363, by omega, Or.inr ⟨(e_uq hw360 (Or.inl (by omega)) (e_uq hw352 (Or.inr (by omega)) (e_uq hw354 (Or.inl (by omega)) (e_uq hw342 (Or.inr (by omega)) rfl)))), (e_uq hw360 (Or.inr (by omega)) (e_uq hw352 (Or.inl (by omega)) (e_uq hw354 (Or.inl (by omega)) (e_uq hw342 (Or.inl (by omega)) rfl)))), by omega, w 329 (10000 * a + p), runOk.at hrn (by omega) (e_ue hw360) erg, by omega, e_kn.le (e_kn.oth (e_kn.oth (e_kn.put (b' := dl p - 1) (e_kn.oth hst hw342 (by decide)) hw354 (by omega) (by omega)) hw352 (by decide)) hw360 (by decide)) (by omega), by omega, by omega⟩⟩
          · replace h350 : (0 : Int) ≠ 0 := (show ¬ ((0 : Int) = 0) from h350)
            exfalso; omega
      · replace h348 : (w 328 (10000 * a + p) : Int) = 22 := Classical.not_not.mp (show ¬ ((w 328 (10000 * a + p) : Int) ≠ 22) from h348)
        exfalso; omega
    · replace h347 : (z344 : Int) ≠ 0 := (show ¬ ((z344 : Int) = 0) from h347)
      refine e_Ok.run (t' := (379, [(7, (0, 1)), (4, (0, p + 1)), (0, (1, 275)), (1, (0, w 328 (10000 * a + p))), (2, (0, w 329 (10000 * a + p))), (3, (0, p))], [(0, 22), (0, w 328 (10000 * a + p)), (0, 1)], w342)) 6 rfl ?_
      refine e_Ok.if2 rfl (fun h365 => ?_) (fun h365 => ?_)
      · replace h365 : (w 328 (10000 * a + p) : Int) ≠ 22 := h365
        refine e_Ok.ps1 (x := (0, 0)) (q := 387) 1 rfl ?_
        refine e_Ok.if2 rfl (fun h366 => ?_) (fun h366 => ?_)
        · replace h366 : (1 : Int) ≠ 0 := h366
          refine e_Ok.ps2 (x := (0, p + 1)) (y := (1, 275)) (q := 460) 2 rfl ?_
          refine e_Ok.callV rfl (e_dq hd rfl) rfl rfl rfl rfl (c_365 (e_dq hd rfl) hT346 (by omega) (e_uq hw342 (Or.inr (by omega)) h97) (f := g + 1) (z := 1260 * t + 2 * g + 436) (e_uq hw342 (Or.inl (by first | decide | omega)) hF) (by omega) (by omega)) (fun r367 w368 h369 => ?_)
          obtain ⟨rfl, hw368⟩ := h369
          have hT371 : e_Has mTy w368 := e_Has.upr hT346 hw368 (nR_FRg t (g) (by omega) (by omega) (by omega)) (by omega)
          refine e_Ok.nrm (q := 463) (st' := []) rfl rfl ?_
          refine e_Ok.rets rfl rfl ?_
          have e372 : w368 276 5 = w 276 5 := (e_uq hw368 (Or.inr (by omega)) (e_uq hw342 (Or.inl (by omega)) rfl))
          have hrn := runOk.fr (w' := w368) (fun c k q1 q2 => (e_uq hw368 (Or.inl (by omega)) (e_uq hw342 (Or.inl (by omega)) rfl))) (fun i q1 q2 => ⟨(e_uq hw368 (Or.inr (by omega)) (e_uq hw342 (Or.inl (by omega)) rfl)), (e_uq hw368 (Or.inr (by omega)) (e_uq hw342 (Or.inl (by omega)) rfl))⟩) (e_uq hw368 (Or.inr (by omega)) (e_uq hw342 (Or.inl (by omega)) rfl)) (e_uq hw368 (Or.inr (by omega)) (e_uq hw342 (Or.inl (by omega)) rfl)) (fun k q1 q2 => (e_uq hw368 (Or.inr (by omega)) (e_uq hw342 (Or.inl (by omega)) rfl))) (by omega) hru
          have erg : w368 330 (10000 * a + (p + 1)) = w 330 (10000 * a + p) := by rw [show 10000 * a + (p + 1) = 10000 * a + p + 1 by omega]; exact Eq.trans (e_uq hw368 (Or.inl (by first | decide | omega)) (e_uq hw342 (Or.inl (by first | decide | omega)) rfl)) k1.2.2.2
          have ede : w368 275 102 = dl p - 1 := (e_uq hw368 (Or.inl (by omega)) (e_ue hw342))
          exact ⟨rfl, ⟨(show e_fr (mRk t) w w368 from e_fr.up f345 hw368 (by first | exact Or.inl (Or.inr ⟨rfl, Or.inr (Or.inr (Or.inr (Or.inr (Or.inr (Or.inr (Or.inr (Or.inr (Or.inr ⟨(by omega), (by omega)⟩))))))))⟩) | (unfold mRk mLv; omega))), (sRel.up (sRel.up sRel.refl hw342 (fun q b g1 g2 => by omega)) hw368 (fun q b g1 g2 => by omega))⟩, hT371, by omega, Or.inr ⟨(e_uq hw368 (Or.inl (by omega)) (e_uq hw342 (Or.inr (by omega)) rfl)), (e_uq hw368 (Or.inr (by omega)) (e_uq hw342 (Or.inl (by omega)) rfl)), by omega, p + 1, runOk.at hrn (by omega) (e_ue hw368) erg, by omega, e_kn.le (e_kn.oth (e_kn.oth hst hw342 (by decide)) hw368 (by decide)) (by omega), by omega, by omega⟩⟩
        · replace h366 : (1 : Int) = 0 := Classical.not_not.mp (show ¬ ((1 : Int) ≠ 0) from h366)
          exfalso; omega
      · replace h365 : (w 328 (10000 * a + p) : Int) = 22 := Classical.not_not.mp (show ¬ ((w 328 (10000 * a + p) : Int) ≠ 22) from h365)
        exfalso; omega
  · refine e_Ok.sw (tg := 341) rfl (by rw [h1]; rfl) ?_
    have k1 := hi1.out (by omega)
    unfold iFT at k1
    have k4 := hi4.out (by omega)
    refine e_Ok.run (t' := (343, [(4, (0, p + 1)), (0, (1, 275)), (1, (0, w 328 (10000 * a + p))), (2, (0, w 329 (10000 * a + p))), (3, (0, p))], [(1, 275), (1, 275)], w)) 2 rfl ?_
    refine e_Ok.callV rfl (e_dq hd rfl) rfl rfl rfl rfl (c_364 hT (e := dl p) (u := dl p - 1) h102 (by omega) (by omega) (by have q : w 345 (dl p - 1) = w 345 (dl p - 1) := rfl; have q2 := (hst (dl p - 1) (by omega) (by omega)); omega)) (fun r373 w374 h375 => ?_)
    obtain ⟨rfl, hw374⟩ := h375
    generalize hz376 : w 345 (dl p - 1) = z376
    have z376r : z376 = w 345 (dl p - 1) := Eq.trans hz376.symm rfl
    have f377 : e_fr (mRk t) w w374 := e_fr.up (e_fr.refl w) hw374 (by unfold mRk mLv; omega)
    have hT378 : e_Has mTy w374 := e_Has.ups hT hw374 (mt_o rfl)
    refine e_Ok.nrm (q := 346) (st' := [(0, z376), (1, 275)]) rfl rfl ?_
    refine e_Ok.if1 rfl (fun h379 => ?_) (fun h379 => ?_)
    · replace h379 : (z376 : Int) ≠ 0 := h379
      refine e_Ok.ps1 (x := (0, 1)) (q := 354) 1 rfl ?_
      refine e_Ok.callV rfl (e_dq hd rfl) rfl rfl rfl rfl (c_363 hT378 (e := dl p - 1) (e1 := dl p) (e_ue hw374) (by omega) (by omega)) (fun r380 w381 h382 => ?_)
      obtain ⟨rfl, hw381⟩ := h382
      generalize hw383 : e_up w374 345 (dl p - 1) 1 = w383 at hw381
      have hT385 : e_Has mTy w383 := e_Has.ups hT378 hw383 (mt_o rfl)
      have hT387 : e_Has mTy w381 := e_Has.ups hT385 hw381 (mt_o rfl)
      refine e_Ok.nrm (q := 357) (st' := []) rfl rfl ?_
      refine e_Ok.ps2 (x := (0, p + 1)) (y := (1, 275)) (q := 460) 3 rfl ?_
      refine e_Ok.callV rfl (e_dq hd rfl) rfl rfl rfl rfl (c_365 (e_dq hd rfl) hT387 (by omega) (e_uq hw381 (Or.inr (by omega)) (e_uq hw383 (Or.inl (by first | decide | omega)) (e_uq hw374 (Or.inr (by omega)) h97))) (f := g + 1) (z := 1260 * t + 2 * g + 436) (e_uq hw381 (Or.inl (by first | decide | omega)) (e_uq hw383 (Or.inl (by first | decide | omega)) (e_uq hw374 (Or.inl (by first | decide | omega)) hF))) (by omega) (by omega)) (fun r388 w389 h390 => ?_)
      obtain ⟨rfl, hw389⟩ := h390
      have hT392 : e_Has mTy w389 := e_Has.upr hT387 hw389 (nR_FRg t (g) (by omega) (by omega) (by omega)) (by omega)
      refine e_Ok.nrm (q := 463) (st' := []) rfl rfl ?_
      refine e_Ok.rets rfl rfl ?_
      have e393 : w389 276 5 = w 276 5 := (e_uq hw389 (Or.inr (by omega)) (e_uq hw381 (Or.inl (by omega)) (e_uq hw383 (Or.inl (by omega)) (e_uq hw374 (Or.inl (by omega)) rfl))))
      have hrn := runOk.fr (w' := w389) (fun c k q1 q2 => (e_uq hw389 (Or.inl (by omega)) (e_uq hw381 (Or.inl (by omega)) (e_uq hw383 (Or.inl (by omega)) (e_uq hw374 (Or.inl (by omega)) rfl))))) (fun i q1 q2 => ⟨(e_uq hw389 (Or.inr (by omega)) (e_uq hw381 (Or.inl (by omega)) (e_uq hw383 (Or.inl (by omega)) (e_uq hw374 (Or.inl (by omega)) rfl)))), (e_uq hw389 (Or.inr (by omega)) (e_uq hw381 (Or.inl (by omega)) (e_uq hw383 (Or.inl (by omega)) (e_uq hw374 (Or.inl (by omega)) rfl))))⟩) (e_uq hw389 (Or.inr (by omega)) (e_uq hw381 (Or.inl (by omega)) (e_uq hw383 (Or.inl (by omega)) (e_uq hw374 (Or.inl (by omega)) rfl)))) (e_uq hw389 (Or.inr (by omega)) (e_uq hw381 (Or.inl (by omega)) (e_uq hw383 (Or.inl (by omega)) (e_uq hw374 (Or.inl (by omega)) rfl)))) (fun k q1 q2 => (e_uq hw389 (Or.inr (by omega)) (e_uq hw381 (Or.inl (by omega)) (e_uq hw383 (Or.inl (by omega)) (e_uq hw374 (Or.inl (by omega)) rfl))))) (by omega) hru
      have erg : w389 330 (10000 * a + (p + 1)) = w 330 (10000 * a + p) := by rw [show 10000 * a + (p + 1) = 10000 * a + p + 1 by omega]; exact Eq.trans (e_uq hw389 (Or.inl (by first | decide | omega)) (e_uq hw381 (Or.inl (by first | decide | omega)) (e_uq hw383 (Or.inl (by first | decide | omega)) (e_uq hw374 (Or.inl (by first | decide | omega)) rfl)))) k1.2.2.2
      have ede : w389 275 102 = dl p := (e_uq hw389 (Or.inl (by omega)) (e_ue hw381))
      exact ⟨rfl, ⟨(show e_fr (mRk t) w w389 from e_fr.up (show e_fr (mRk t) w w381 from e_fr.up (show e_fr (mRk t) w w383 from e_fr.up f377 hw383 (by first | exact Or.inr (Or.inl rfl) | (unfold mRk mLv; omega))) hw381 (by first | exact Or.inl (Or.inl ⟨rfl, Or.inr rfl⟩) | (unfold mRk mLv; omega))) hw389 (by first | exact Or.inl (Or.inr ⟨rfl, Or.inr (Or.inr (Or.inr (Or.inr (Or.inr (Or.inr (Or.inr (Or.inr (Or.inr ⟨(by omega), (by omega)⟩))))))))⟩) | (unfold mRk mLv; omega))), (sRel.up (sRel.up (sRel.up (sRel.up sRel.refl hw374 (fun q b g1 g2 => by omega)) hw383 (fun q b g1 g2 => by omega)) hw381 (fun q b g1 g2 => by omega)) hw389 (fun q b g1 g2 => by omega))⟩, hT392, by omega, Or.inr ⟨(e_uq hw389 (Or.inl (by omega)) (e_uq hw381 (Or.inr (by omega)) (e_uq hw383 (Or.inl (by omega)) (e_uq hw374 (Or.inr (by omega)) rfl)))), (e_uq hw389 (Or.inr (by omega)) (e_uq hw381 (Or.inl (by omega)) (e_uq hw383 (Or.inl (by omega)) (e_uq hw374 (Or.inl (by omega)) rfl)))), by omega, p + 1, runOk.at hrn (by omega) (e_ue hw389) erg, by omega, e_kn.le (e_kn.oth (e_kn.oth (e_kn.put (b' := dl p - 1) (e_kn.oth hst hw374 (by decide)) hw383 (by omega) (by omega)) hw381 (by decide)) hw389 (by decide)) (by omega), by omega, by omega⟩⟩
    · replace h379 : (z376 : Int) = 0 := Classical.not_not.mp (show ¬ ((z376 : Int) ≠ 0) from h379)
      refine e_Ok.ps1 (x := (0, 0)) (q := 354) 2 rfl ?_
      refine e_Ok.callV rfl (e_dq hd rfl) rfl rfl rfl rfl (c_363 hT378 (e := dl p - 1) (e1 := dl p) (e_ue hw374) (by omega) (by omega)) (fun r394 w395 h396 => ?_)
      obtain ⟨rfl, hw395⟩ := h396
      generalize hw397 : e_up w374 345 (dl p - 1) 0 = w397 at hw395
      have hT399 : e_Has mTy w397 := e_Has.ups hT378 hw397 (mt_o rfl)
      have hT401 : e_Has mTy w395 := e_Has.ups hT399 hw395 (mt_o rfl)
      refine e_Ok.nrm (q := 357) (st' := []) rfl rfl ?_
      refine e_Ok.ps2 (x := (0, p + 1)) (y := (1, 275)) (q := 460) 3 rfl ?_
      refine e_Ok.callV rfl (e_dq hd rfl) rfl rfl rfl rfl (c_365 (e_dq hd rfl) hT401 (by omega) (e_uq hw395 (Or.inr (by omega)) (e_uq hw397 (Or.inl (by first | decide | omega)) (e_uq hw374 (Or.inr (by omega)) h97))) (f := g + 1) (z := 1260 * t + 2 * g + 436) (e_uq hw395 (Or.inl (by first | decide | omega)) (e_uq hw397 (Or.inl (by first | decide | omega)) (e_uq hw374 (Or.inl (by first | decide | omega)) hF))) (by omega) (by omega)) (fun r402 w403 h404 => ?_)
      obtain ⟨rfl, hw403⟩ := h404
      have hT406 : e_Has mTy w403 := e_Has.upr hT401 hw403 (nR_FRg t (g) (by omega) (by omega) (by omega)) (by omega)
      refine e_Ok.nrm (q := 463) (st' := []) rfl rfl ?_
      refine e_Ok.rets rfl rfl ?_
      have e407 : w403 276 5 = w 276 5 := (e_uq hw403 (Or.inr (by omega)) (e_uq hw395 (Or.inl (by omega)) (e_uq hw397 (Or.inl (by omega)) (e_uq hw374 (Or.inl (by omega)) rfl))))
      have hrn := runOk.fr (w' := w403) (fun c k q1 q2 => (e_uq hw403 (Or.inl (by omega)) (e_uq hw395 (Or.inl (by omega)) (e_uq hw397 (Or.inl (by omega)) (e_uq hw374 (Or.inl (by omega)) rfl))))) (fun i q1 q2 => ⟨(e_uq hw403 (Or.inr (by omega)) (e_uq hw395 (Or.inl (by omega)) (e_uq hw397 (Or.inl (by omega)) (e_uq hw374 (Or.inl (by omega)) rfl)))), (e_uq hw403 (Or.inr (by omega)) (e_uq hw395 (Or.inl (by omega)) (e_uq hw397 (Or.inl (by omega)) (e_uq hw374 (Or.inl (by omega)) rfl))))⟩) (e_uq hw403 (Or.inr (by omega)) (e_uq hw395 (Or.inl (by omega)) (e_uq hw397 (Or.inl (by omega)) (e_uq hw374 (Or.inl (by omega)) rfl)))) (e_uq hw403 (Or.inr (by omega)) (e_uq hw395 (Or.inl (by omega)) (e_uq hw397 (Or.inl (by omega)) (e_uq hw374 (Or.inl (by omega)) rfl)))) (fun k q1 q2 => (e_uq hw403 (Or.inr (by omega)) (e_uq hw395 (Or.inl (by omega)) (e_uq hw397 (Or.inl (by omega)) (e_uq hw374 (Or.inl (by omega)) rfl))))) (by omega) hru
      have erg : w403 330 (10000 * a + (p + 1)) = w 330 (10000 * a + p) := by rw [show 10000 * a + (p + 1) = 10000 * a + p + 1 by omega]; exact Eq.trans (e_uq hw403 (Or.inl (by first | decide | omega)) (e_uq hw395 (Or.inl (by first | decide | omega)) (e_uq hw397 (Or.inl (by first | decide | omega)) (e_uq hw374 (Or.inl (by first | decide | omega)) rfl)))) k1.2.2.2
      have ede : w403 275 102 = dl p := (e_uq hw403 (Or.inl (by omega)) (e_ue hw395))
      exact ⟨rfl, ⟨(show e_fr (mRk t) w w403 from e_fr.up (show e_fr (mRk t) w w395 from e_fr.up (show e_fr (mRk t) w w397 from e_fr.up f377 hw397 (by first | exact Or.inr (Or.inl rfl) | (unfold mRk mLv; omega))) hw395 (by first | exact Or.inl (Or.inl ⟨rfl, Or.inr rfl⟩) | (unfold mRk mLv; omega))) hw403 (by first | exact Or.inl (Or.inr ⟨rfl, Or.inr (Or.inr (Or.inr (Or.inr (Or.inr (Or.inr (Or.inr (Or.inr (Or.inr ⟨(by omega), (by omega)⟩))))))))⟩) | (unfold mRk mLv; omega))), (sRel.up (sRel.up (sRel.up (sRel.up sRel.refl hw374 (fun q b g1 g2 => by omega)) hw397 (fun q b g1 g2 => by omega)) hw395 (fun q b g1 g2 => by omega)) hw403 (fun q b g1 g2 => by omega))⟩, hT406, by omega, Or.inr ⟨(e_uq hw403 (Or.inl (by omega)) (e_uq hw395 (Or.inr (by omega)) (e_uq hw397 (Or.inl (by omega)) (e_uq hw374 (Or.inr (by omega)) rfl)))), (e_uq hw403 (Or.inr (by omega)) (e_uq hw395 (Or.inl (by omega)) (e_uq hw397 (Or.inl (by omega)) (e_uq hw374 (Or.inl (by omega)) rfl)))), by omega, p + 1, runOk.at hrn (by omega) (e_ue hw403) erg, by omega, e_kn.le (e_kn.oth (e_kn.oth (e_kn.put (b' := dl p - 1) (e_kn.oth hst hw374 (by decide)) hw397 (by omega) (by omega)) hw395 (by decide)) hw403 (by decide)) (by omega), by omega, by omega⟩⟩
end
end
-- part 63z
section
noncomputable section
theorem c_374 {d : Nat} (hd : 33 ≤ d) {w : eW} (hT : e_Has mTy w) (hA : mAc w) {t a g : Int} (ht : 0 ≤ t ∧ t ≤ 15) (ha : 0 ≤ a ∧ a ≤ 3) (h96 : w 275 96 = t) (h97 : w 275 97 = 1260 * t + 416) (h98 : w 275 98 = a) {n nt nw : Int} {dl sg pi en : Int → Int} {an br : Int → Int → Prop} {bs ow : Int → Int} (hC : cOk w a n nt nw dl sg pi en an br) {p : Int} (hP : topOk w a t g p n nt nw dl sg pi an br bs ow) (hE : w 276 5 ≤ 2147483000) (h102 : w 275 102 = dl p) (hst : e_kn w 345 0 (dl p - 1)) (hop : w 328 (10000 * a + p) < 30) : e_Ok 20 elay ecode eI d 374 (0, [(0, (1, 275)), (1, (0, w 328 (10000 * a + p))), (2, (0, w 329 (10000 * a + p))), (3, (0, p))], [], w) (fun r' w' => r' = [] ∧ (e_fr (mRk t) w w' ∧ sRel w w') ∧ e_Has mTy w' ∧ (w 276 5 ≤ w' 276 5 ∧ w' 276 5 ≤ w 276 5 + 2) ∧ ((w' 275 102 = 0 ∧ ((w' 275 100 = 1 ∧ (w' 276 (1260 * t + 416) = 6 ∨ w' 276 (1260 * t + 416) = 7)) ∨ (w' 275 100 = w 275 100 ∧ w' 276 (1260 * t + 416) = w 276 (1260 * t + 416) ∧ w' 276 5 = w 276 5 ∧ ∃ (g' p' : Int) (bs' ow' : Int → Int), g' ≤ g ∧ (g' = g → p < p') ∧ topOk w' a t g' p' n nt nw dl sg pi an br bs' ow' ∧ dl p' = 0 ∧ sg p' = 0))) ∨ (w' 275 100 = w 275 100 ∧ w' 276 (1260 * t + 416) = w 276 (1260 * t + 416) ∧ w' 276 5 = w 276 5 ∧ ∃ p', topOk w' a t g p' n nt nw dl sg pi an br bs ow ∧ w' 275 102 = dl p' ∧ e_kn w' 345 0 (dl p' - 1) ∧ sg p' = 1 ∧ p < p'))) := by
  have hop24 : 1 ≤ w 328 (10000 * a + p) ∧ w 328 (10000 * a + p) ≤ 24 := by
    have hins := hC.2.1 p hP.1.1 hP.1.2
    exact ⟨hins.1.1.1, hins.1.1.2.2.resolve_right (Int.not_le.mpr hop)⟩
  by_cases q1 : w 328 (10000 * a + p) ≤ 6
  · exact c_374_a hd hT hA ht ha h96 h97 h98 hC hP hE h102 hst hop ⟨hop24.1, q1⟩
  · by_cases q2 : w 328 (10000 * a + p) ≤ 9
    · exact c_374_d hd hT hA ht ha h96 h97 h98 hC hP hE h102 hst hop ⟨by omega, q2⟩
    · by_cases q3 : w 328 (10000 * a + p) ≤ 21
      · exact c_374_b hd hT hA ht ha h96 h97 h98 hC hP hE h102 hst hop ⟨by omega, q3⟩
      · exact c_374_c hd hT hA ht ha h96 h97 h98 hC hP hE h102 hst hop ⟨by omega, hop24.2⟩
end
end
-- part 64
section
noncomputable section
def mBg (t c k : Int) : Prop := mLv t c k ∨ (c = 275 ∧ k = 99) ∨ (c = 276 ∧ k = 1260 * t + 426)
theorem no_64_0 {t : Int} : ¬ mLv t 275 99 := by unfold mLv; omega
theorem no_64_1 {t : Int} (ht : 0 ≤ t ∧ t ≤ 15) : ¬ mLv t 276 (1260 * t + 426) := by unfold mLv; omega
theorem su_64_2 {t : Int} {c k : Int} (q : mLv t c k) : mBg t c k := Or.inl q
set_option maxHeartbeats 4000000 in
theorem c_368 {d : Nat} (hd : 33 ≤ d) {w : eW} (hT : e_Has mTy w) {t a g : Int} (ht : 0 ≤ t ∧ t ≤ 15) (ha : 0 ≤ a ∧ a ≤ 3) (h96 : w 275 96 = t) (h97 : w 275 97 = 1260 * t + 416) (h98 : w 275 98 = a) {n nt nw : Int} {dl sg pi en : Int → Int} {an br : Int → Int → Prop} {bs ow : Int → Int} (hC : cOk w a n nt nw dl sg pi en an br) {p : Int} (hP : topOk w a t g p n nt nw dl sg pi an br bs ow) (hE : w 276 5 ≤ 2147483000) (hop : w 328 (10000 * a + p) = 30) (h99 : 0 ≤ w 275 99 ∧ w 275 99 ≤ 20) (hW : 0 ≤ w 276 (1260 * t + 424) → w 276 (1260 * t + 425) < w 338 a) : e_Ok 20 elay ecode eI d 368 (0, [(0, (1, 275))], [], w) (fun r' w' => r' = [] ∧ (e_fr (mBg t) w w' ∧ sRel w w') ∧ e_Has mTy w' ∧ (w 276 5 ≤ w' 276 5 ∧ w' 276 5 ≤ w 276 5 + 2) ∧ ((w' 275 100 = 1 ∧ w' 275 99 = w 275 99 ∧ (∀ k, w' 276 k = w 276 k)) ∨ (w' 275 99 = w 275 99 ∧ 0 ≤ w 276 (1260 * t + 424) ∧ w 276 (w 276 (1260 * t + 424) + 352) ≠ w 276 (1260 * t + 426) ∧ w' 276 (1260 * t + 426) = w 276 (w 276 (1260 * t + 424) + 352) ∧ ((w' 275 102 = 0 ∧ ((w' 275 100 = 1 ∧ (w' 276 (1260 * t + 416) = 6 ∨ w' 276 (1260 * t + 416) = 7)) ∨ (w' 275 100 = w 275 100 ∧ w' 276 (1260 * t + 416) = w 276 (1260 * t + 416) ∧ w' 276 5 = w 276 5 ∧ ∃ (g' p' : Int) (bs' ow' : Int → Int), g' ≤ g ∧ (g' = g → p < p') ∧ topOk w' a t g' p' n nt nw dl sg pi an br bs' ow' ∧ dl p' = 0 ∧ sg p' = 0))) ∨ (w' 275 100 = w 275 100 ∧ w' 276 (1260 * t + 416) = w 276 (1260 * t + 416) ∧ w' 276 5 = w 276 5 ∧ g ≤ 18 ∧ ∃ (p' : Int) (bs' ow' : Int → Int), topOk w' a t (g + 1) p' n nt nw dl sg pi an br bs' ow' ∧ dl p' = 0 ∧ sg p' = 0 ∧ w' 275 102 = 0))) ∨ (w 275 99 < 20 ∧ w' 275 99 = w 275 99 + 1 ∧ w' 275 100 = w 275 100 ∧ w' 276 (1260 * t + 416) = w 276 (1260 * t + 416) ∧ w' 276 5 = w 276 5 ∧ w' 275 102 = 0 ∧ topOk w' a t g (p + 1) n nt nw dl sg pi an br bs ow))) := by
  obtain ⟨d, rfl⟩ : ∃ e, d = e + 1 := ⟨d - 1, by omega⟩
  obtain ⟨hpn, hpc, hru⟩ := id hP
  obtain ⟨hg, hF, hlow, hrr, hPn, hch, hpe⟩ := id hru
  have hCn := hC.1
  have hins := hC.2.1 p hpn.1 hpn.2
  have hbg := hlow.2.1 g (by omega) (by omega)
  have hpen := hins.1.2.2.2.1
  have hpib := hC.2.2.2.1.2.1 _ hrr.1 hrr.2
  obtain ⟨hi0, -, -, -, -, -, -, hi7, -, -, -, -, -, -, -, -, -, -, -, -⟩ := id hins
  have k7 := hi7 hop
  refine e_Ok.run (t' := (2, [(0, (1, 275))], [(0, 0), (1, 275)], w)) 2 rfl ?_
  refine e_Ok.putf rfl (el_o rfl) rfl (ef_o rfl) ?_
  generalize hw1 : e_up w 275 102 0 = w1
  have f2 : e_fr (mBg t) w w1 := e_fr.up (e_fr.refl w) hw1 (by first | exact Or.inl (Or.inl ⟨rfl, Or.inr rfl⟩) | (unfold mBg mLv; omega))
  have hT3 : e_Has mTy w1 := e_Has.ups hT hw1 (mt_o rfl)
  refine e_Ok.ps1 (x := (1, 275)) (q := 6) 1 rfl ?_
  refine e_Ok.getf (z := w 275 99) rfl (el_o rfl) rfl (ef_o rfl) (e_uq hw1 (Or.inr (by decide)) rfl) (by omega) ?_
  refine e_Ok.ps1 (x := (0, 20)) (q := 11) 1 rfl ?_
  refine e_Ok.if2 rfl (fun h4 => ?_) (fun h4 => ?_)
  · replace h4 : (w 275 99 : Int) ≠ 20 := h4
    refine e_Ok.ps1 (x := (1, 275)) (q := 21) 1 rfl ?_
    refine e_Ok.getr (z := 276) rfl (el_o rfl) rfl (ef_o rfl) (e_uq hw1 (Or.inr (by decide)) (e_Has.eq hT (mt_o rfl))) ⟨by decide, by decide⟩ ?_
    refine e_Ok.ps1 (x := (1, 275)) (q := 25) 1 rfl ?_
    refine e_Ok.getf (z := 1260 * t + 416) rfl (el_o rfl) rfl (ef_o rfl) (e_uq hw1 (Or.inr (by decide)) h97) (by omega) ?_
    refine e_Ok.ps1 (x := (0, 8)) (q := 30) 1 rfl ?_
    refine e_Ok.add (z := 1260 * t + 424) rfl (e_adl (by decide)) (by omega) ?_
    have h5 := (e_Has.get hT (c := 276) (k := 1260 * t + 424) (lo := (-1)) (hi := 63) (nR_WATCHED (t := t) (by omega)) (by decide))
    refine e_Ok.ald (z := w 276 (1260 * t + 424)) rfl (el_o rfl) rfl (by omega) (e_uq hw1 (Or.inl (by decide)) rfl) (e_bq h5 (by decide) (by decide)) ?_
    refine e_Ok.run (t' := (34, [(1, (0, w 276 (1260 * t + 424))), (0, (1, 275))], [(0, w 276 (1260 * t + 424))], w1)) 2 rfl ?_
    refine e_Ok.if1 rfl (fun h6 => ?_) (fun h6 => ?_)
    · replace h6 : (w 276 (1260 * t + 424) : Int) < 0 := h6
      refine e_Ok.ps2 (x := (1, 275)) (y := (1, 275)) (q := 119) 2 rfl ?_
      refine e_Ok.getf (z := w 275 99) rfl (el_o rfl) rfl (ef_o rfl) (e_uq hw1 (Or.inr (by decide)) rfl) (by omega) ?_
      refine e_Ok.ps1 (x := (0, 1)) (q := 123) 1 rfl ?_
      refine e_Ok.add (z := w 275 99 + 1) rfl rfl (by omega) ?_
      refine e_Ok.putf rfl (el_o rfl) rfl (ef_o rfl) ?_
      generalize hw7 : e_up w1 275 99 (w 275 99 + 1) = w7
      have hT9 : e_Has mTy w7 := e_Has.ups hT3 hw7 (mt_o rfl)
      refine e_Ok.ps2 (x := (1, 275)) (y := (1, 275)) (q := 129) 2 rfl ?_
      refine e_Ok.getr (z := 276) rfl (el_o rfl) rfl (ef_o rfl) (e_uq hw7 (Or.inr (by decide)) (e_uq hw1 (Or.inr (by decide)) (e_Has.eq hT (mt_o rfl)))) ⟨by decide, by decide⟩ ?_
      refine e_Ok.ps1 (x := (1, 275)) (q := 133) 1 rfl ?_
      refine e_Ok.callV rfl (e_dq hd rfl) rfl rfl rfl rfl (c_362 hT9 (by omega) (e_uq hw7 (Or.inr (by first | decide | omega)) (e_uq hw1 (Or.inr (by first | decide | omega)) h97)) (f := g + 1) (z := 1260 * t + 2 * g + 436) (e_uq hw7 (Or.inl (by first | decide | omega)) (e_uq hw1 (Or.inl (by first | decide | omega)) hF)) (by omega) (by omega)) (fun r10 w11 h12 => ?_)
      obtain ⟨rfl, rfl⟩ := h12
      refine e_Ok.nrm (q := 136) (st' := [(0, 1260 * t + 2 * g + 436), (1, 276), (1, 275)]) rfl rfl ?_
      refine e_Ok.ald (z := p) rfl (el_o rfl) rfl (by omega) (e_uq hw7 (Or.inl (by decide)) (e_uq hw1 (Or.inl (by decide)) hpc)) (by omega) ?_
      refine e_Ok.ps1 (x := (0, 1)) (q := 138) 1 rfl ?_
      refine e_Ok.add (z := p + 1) rfl rfl (by omega) ?_
      refine e_Ok.callV rfl (e_dq hd rfl) rfl rfl rfl rfl (c_365 (e_dq hd rfl) hT9 (by omega) (e_uq hw7 (Or.inr (by first | decide | omega)) (e_uq hw1 (Or.inr (by first | decide | omega)) h97)) (f := g + 1) (z := 1260 * t + 2 * g + 436) (e_uq hw7 (Or.inl (by first | decide | omega)) (e_uq hw1 (Or.inl (by first | decide | omega)) hF)) (by omega) (by omega)) (fun r13 w14 h15 => ?_)
      obtain ⟨rfl, hw14⟩ := h15
      have hT17 : e_Has mTy w14 := e_Has.upr hT9 hw14 (nR_FRg t (g) (by omega) (by omega) (by omega)) (by omega)
      refine e_Ok.nrm (q := 142) (st' := []) rfl rfl ?_
      refine e_Ok.rets rfl rfl ?_
      have e18 : w14 276 5 = w 276 5 := (e_uq hw14 (Or.inr (by omega)) (e_uq hw7 (Or.inl (by decide)) (e_uq hw1 (Or.inl (by decide)) rfl)))
      have e9 : w14 275 99 = w 275 99 + 1 := (e_uq hw14 (Or.inl (by omega)) (e_ue hw7))
      have erg : w14 330 (10000 * a + (p + 1)) = w 330 (10000 * a + p + 1) := by rw [show 10000 * a + (p + 1) = 10000 * a + p + 1 by omega]; exact (e_uq hw14 (Or.inl (by first | decide | omega)) (e_uq hw7 (Or.inl (by first | decide | omega)) (e_uq hw1 (Or.inl (by first | decide | omega)) rfl)))
      have hrn : runOk w14 a t g (w 330 (10000 * a + p + 1)) n nt nw dl sg pi an br bs ow := by
        rcases k7.2.2.2.2 with hx | ⟨z, hz0, hz1, hz2, hz3⟩
        · rw [hx]; exact runOk.fr (w' := w14) (fun c k q1 q2 => (e_uq hw14 (Or.inl (by omega)) (e_uq hw7 (Or.inl (by omega)) (e_uq hw1 (Or.inl (by omega)) rfl)))) (fun i q1 q2 => ⟨(e_uq hw14 (Or.inr (by omega)) (e_uq hw7 (Or.inl (by omega)) (e_uq hw1 (Or.inl (by omega)) rfl))), (e_uq hw14 (Or.inr (by omega)) (e_uq hw7 (Or.inl (by omega)) (e_uq hw1 (Or.inl (by omega)) rfl)))⟩) (e_uq hw14 (Or.inr (by omega)) (e_uq hw7 (Or.inl (by omega)) (e_uq hw1 (Or.inl (by omega)) rfl))) (e_uq hw14 (Or.inr (by omega)) (e_uq hw7 (Or.inl (by omega)) (e_uq hw1 (Or.inl (by omega)) rfl))) (fun k q1 q2 => (e_uq hw14 (Or.inr (by omega)) (e_uq hw7 (Or.inl (by omega)) (e_uq hw1 (Or.inl (by omega)) rfl)))) (by omega) hru
        · have ht3 := hC.2.2.1 z hz0 hz1
          have hz4 := ht3.2.1.1
          rw [hz3] at hz4
          rw [hz2]
          exact runOk.to (w' := w14) (r' := 3 * z) hru (fun c k q1 q2 => (e_uq hw14 (Or.inl (by omega)) (e_uq hw7 (Or.inl (by omega)) (e_uq hw1 (Or.inl (by omega)) rfl)))) (fun i q1 q2 => ⟨(e_uq hw14 (Or.inr (by omega)) (e_uq hw7 (Or.inl (by omega)) (e_uq hw1 (Or.inl (by omega)) rfl))), (e_uq hw14 (Or.inr (by omega)) (e_uq hw7 (Or.inl (by omega)) (e_uq hw1 (Or.inl (by omega)) rfl)))⟩) (e_uq hw14 (Or.inr (by omega)) (e_uq hw7 (Or.inl (by omega)) (e_uq hw1 (Or.inl (by omega)) rfl))) (by have q : w14 276 (1260 * t + 429) = w 276 (1260 * t + 429) := (e_uq hw14 (Or.inr (by omega)) (e_uq hw7 (Or.inl (by omega)) (e_uq hw1 (Or.inl (by omega)) rfl))); rw [q, hPn, hz4]) (fun k q1 q2 => (e_uq hw14 (Or.inr (by omega)) (e_uq hw7 (Or.inl (by omega)) (e_uq hw1 (Or.inl (by omega)) rfl)))) (by omega) (by omega) (by omega) (fun q q1 q2 q3 => by rw [show 3 * z = 3 * z + 0 by omega] at q1; exact (ht3.2.2.2.2.2.1 0 q (by omega) (by omega) q1).elim (fun e => by omega) (fun e => by rw [hz3] at e; exact e))
      exact ⟨rfl, ⟨(show e_fr (mBg t) w w14 from e_fr.up (show e_fr (mBg t) w w7 from e_fr.up f2 hw7 (by first | exact Or.inr (Or.inl ⟨rfl, rfl⟩) | (unfold mBg mLv; omega))) hw14 (by first | exact Or.inl (Or.inr ⟨rfl, Or.inr (Or.inr (Or.inr (Or.inr (Or.inr (Or.inr (Or.inr (Or.inr (Or.inr ⟨(by omega), (by omega)⟩))))))))⟩) | (unfold mBg mLv; omega))), (sRel.up (sRel.up (sRel.up sRel.refl hw1 (fun q b g1 g2 => by omega)) hw7 (fun q b g1 g2 => by omega)) hw14 (fun q b g1 g2 => by omega))⟩, hT17, by omega, Or.inr (Or.inr ⟨by omega, e9, (e_uq hw14 (Or.inl (by omega)) (e_uq hw7 (Or.inr (by omega)) (e_uq hw1 (Or.inr (by omega)) rfl))), (e_uq hw14 (Or.inr (by omega)) (e_uq hw7 (Or.inl (by omega)) (e_uq hw1 (Or.inl (by omega)) rfl))), by omega, (e_uq hw14 (Or.inl (by omega)) (e_uq hw7 (Or.inr (by omega)) (e_ue hw1))), runOk.at hrn (by omega) (e_ue hw14) erg⟩)⟩
    · replace h6 : (w 276 (1260 * t + 424) : Int) ≥ 0 := Int.not_lt.mp (show ¬ ((w 276 (1260 * t + 424) : Int) < 0) from h6)
      refine e_Ok.ps1 (x := (1, 275)) (q := 38) 1 rfl ?_
      refine e_Ok.getr (z := 276) rfl (el_o rfl) rfl (ef_o rfl) (e_uq hw1 (Or.inr (by decide)) (e_Has.eq hT (mt_o rfl))) ⟨by decide, by decide⟩ ?_
      refine e_Ok.ps1 (x := (1, 275)) (q := 42) 1 rfl ?_
      refine e_Ok.getf (z := 1260 * t + 416) rfl (el_o rfl) rfl (ef_o rfl) (e_uq hw1 (Or.inr (by decide)) h97) (by omega) ?_
      refine e_Ok.ps1 (x := (0, 14)) (q := 47) 1 rfl ?_
      refine e_Ok.add (z := 1260 * t + 430) rfl (e_adl (by decide)) (by omega) ?_
      have h19 := (e_Has.get hT (c := 276) (k := 1260 * t + 430) (lo := (-2147483648)) (hi := 2147483647) (nR_IN_WATCH (t := t) (by omega)) (by decide))
      refine e_Ok.ald (z := w 276 (1260 * t + 430)) rfl (el_o rfl) rfl (by omega) (e_uq hw1 (Or.inl (by decide)) rfl) (e_bq h19 (by decide) (by decide)) ?_
      refine e_Ok.if1 rfl (fun h20 => ?_) (fun h20 => ?_)
      · replace h20 : (w 276 (1260 * t + 430) : Int) ≠ 0 := h20
        refine e_Ok.ps2 (x := (1, 275)) (y := (1, 275)) (q := 119) 2 rfl ?_
        refine e_Ok.getf (z := w 275 99) rfl (el_o rfl) rfl (ef_o rfl) (e_uq hw1 (Or.inr (by decide)) rfl) (by omega) ?_
        refine e_Ok.ps1 (x := (0, 1)) (q := 123) 1 rfl ?_
        refine e_Ok.add (z := w 275 99 + 1) rfl rfl (by omega) ?_
        refine e_Ok.putf rfl (el_o rfl) rfl (ef_o rfl) ?_
        generalize hw21 : e_up w1 275 99 (w 275 99 + 1) = w21
        have hT23 : e_Has mTy w21 := e_Has.ups hT3 hw21 (mt_o rfl)
        refine e_Ok.ps2 (x := (1, 275)) (y := (1, 275)) (q := 129) 2 rfl ?_
        refine e_Ok.getr (z := 276) rfl (el_o rfl) rfl (ef_o rfl) (e_uq hw21 (Or.inr (by decide)) (e_uq hw1 (Or.inr (by decide)) (e_Has.eq hT (mt_o rfl)))) ⟨by decide, by decide⟩ ?_
        refine e_Ok.ps1 (x := (1, 275)) (q := 133) 1 rfl ?_
        refine e_Ok.callV rfl (e_dq hd rfl) rfl rfl rfl rfl (c_362 hT23 (by omega) (e_uq hw21 (Or.inr (by first | decide | omega)) (e_uq hw1 (Or.inr (by first | decide | omega)) h97)) (f := g + 1) (z := 1260 * t + 2 * g + 436) (e_uq hw21 (Or.inl (by first | decide | omega)) (e_uq hw1 (Or.inl (by first | decide | omega)) hF)) (by omega) (by omega)) (fun r24 w25 h26 => ?_)
        obtain ⟨rfl, rfl⟩ := h26
        refine e_Ok.nrm (q := 136) (st' := [(0, 1260 * t + 2 * g + 436), (1, 276), (1, 275)]) rfl rfl ?_
        refine e_Ok.ald (z := p) rfl (el_o rfl) rfl (by omega) (e_uq hw21 (Or.inl (by decide)) (e_uq hw1 (Or.inl (by decide)) hpc)) (by omega) ?_
        refine e_Ok.ps1 (x := (0, 1)) (q := 138) 1 rfl ?_
        refine e_Ok.add (z := p + 1) rfl rfl (by omega) ?_
        refine e_Ok.callV rfl (e_dq hd rfl) rfl rfl rfl rfl (c_365 (e_dq hd rfl) hT23 (by omega) (e_uq hw21 (Or.inr (by first | decide | omega)) (e_uq hw1 (Or.inr (by first | decide | omega)) h97)) (f := g + 1) (z := 1260 * t + 2 * g + 436) (e_uq hw21 (Or.inl (by first | decide | omega)) (e_uq hw1 (Or.inl (by first | decide | omega)) hF)) (by omega) (by omega)) (fun r27 w28 h29 => ?_)
        obtain ⟨rfl, hw28⟩ := h29
        have hT31 : e_Has mTy w28 := e_Has.upr hT23 hw28 (nR_FRg t (g) (by omega) (by omega) (by omega)) (by omega)
        refine e_Ok.nrm (q := 142) (st' := []) rfl rfl ?_
        refine e_Ok.rets rfl rfl ?_
        have e32 : w28 276 5 = w 276 5 := (e_uq hw28 (Or.inr (by omega)) (e_uq hw21 (Or.inl (by decide)) (e_uq hw1 (Or.inl (by decide)) rfl)))
        have e9 : w28 275 99 = w 275 99 + 1 := (e_uq hw28 (Or.inl (by omega)) (e_ue hw21))
        have erg : w28 330 (10000 * a + (p + 1)) = w 330 (10000 * a + p + 1) := by rw [show 10000 * a + (p + 1) = 10000 * a + p + 1 by omega]; exact (e_uq hw28 (Or.inl (by first | decide | omega)) (e_uq hw21 (Or.inl (by first | decide | omega)) (e_uq hw1 (Or.inl (by first | decide | omega)) rfl)))
        have hrn : runOk w28 a t g (w 330 (10000 * a + p + 1)) n nt nw dl sg pi an br bs ow := by
          rcases k7.2.2.2.2 with hx | ⟨z, hz0, hz1, hz2, hz3⟩
          · rw [hx]; exact runOk.fr (w' := w28) (fun c k q1 q2 => (e_uq hw28 (Or.inl (by omega)) (e_uq hw21 (Or.inl (by omega)) (e_uq hw1 (Or.inl (by omega)) rfl)))) (fun i q1 q2 => ⟨(e_uq hw28 (Or.inr (by omega)) (e_uq hw21 (Or.inl (by omega)) (e_uq hw1 (Or.inl (by omega)) rfl))), (e_uq hw28 (Or.inr (by omega)) (e_uq hw21 (Or.inl (by omega)) (e_uq hw1 (Or.inl (by omega)) rfl)))⟩) (e_uq hw28 (Or.inr (by omega)) (e_uq hw21 (Or.inl (by omega)) (e_uq hw1 (Or.inl (by omega)) rfl))) (e_uq hw28 (Or.inr (by omega)) (e_uq hw21 (Or.inl (by omega)) (e_uq hw1 (Or.inl (by omega)) rfl))) (fun k q1 q2 => (e_uq hw28 (Or.inr (by omega)) (e_uq hw21 (Or.inl (by omega)) (e_uq hw1 (Or.inl (by omega)) rfl)))) (by omega) hru
          · have ht3 := hC.2.2.1 z hz0 hz1
            have hz4 := ht3.2.1.1
            rw [hz3] at hz4
            rw [hz2]
            exact runOk.to (w' := w28) (r' := 3 * z) hru (fun c k q1 q2 => (e_uq hw28 (Or.inl (by omega)) (e_uq hw21 (Or.inl (by omega)) (e_uq hw1 (Or.inl (by omega)) rfl)))) (fun i q1 q2 => ⟨(e_uq hw28 (Or.inr (by omega)) (e_uq hw21 (Or.inl (by omega)) (e_uq hw1 (Or.inl (by omega)) rfl))), (e_uq hw28 (Or.inr (by omega)) (e_uq hw21 (Or.inl (by omega)) (e_uq hw1 (Or.inl (by omega)) rfl)))⟩) (e_uq hw28 (Or.inr (by omega)) (e_uq hw21 (Or.inl (by omega)) (e_uq hw1 (Or.inl (by omega)) rfl))) (by have q : w28 276 (1260 * t + 429) = w 276 (1260 * t + 429) := (e_uq hw28 (Or.inr (by omega)) (e_uq hw21 (Or.inl (by omega)) (e_uq hw1 (Or.inl (by omega)) rfl))); rw [q, hPn, hz4]) (fun k q1 q2 => (e_uq hw28 (Or.inr (by omega)) (e_uq hw21 (Or.inl (by omega)) (e_uq hw1 (Or.inl (by omega)) rfl)))) (by omega) (by omega) (by omega) (fun q q1 q2 q3 => by rw [show 3 * z = 3 * z + 0 by omega] at q1; exact (ht3.2.2.2.2.2.1 0 q (by omega) (by omega) q1).elim (fun e => by omega) (fun e => by rw [hz3] at e; exact e))
        exact ⟨rfl, ⟨(show e_fr (mBg t) w w28 from e_fr.up (show e_fr (mBg t) w w21 from e_fr.up f2 hw21 (by first | exact Or.inr (Or.inl ⟨rfl, rfl⟩) | (unfold mBg mLv; omega))) hw28 (by first | exact Or.inl (Or.inr ⟨rfl, Or.inr (Or.inr (Or.inr (Or.inr (Or.inr (Or.inr (Or.inr (Or.inr (Or.inr ⟨(by omega), (by omega)⟩))))))))⟩) | (unfold mBg mLv; omega))), (sRel.up (sRel.up (sRel.up sRel.refl hw1 (fun q b g1 g2 => by omega)) hw21 (fun q b g1 g2 => by omega)) hw28 (fun q b g1 g2 => by omega))⟩, hT31, by omega, Or.inr (Or.inr ⟨by omega, e9, (e_uq hw28 (Or.inl (by omega)) (e_uq hw21 (Or.inr (by omega)) (e_uq hw1 (Or.inr (by omega)) rfl))), (e_uq hw28 (Or.inr (by omega)) (e_uq hw21 (Or.inl (by omega)) (e_uq hw1 (Or.inl (by omega)) rfl))), by omega, (e_uq hw28 (Or.inl (by omega)) (e_uq hw21 (Or.inr (by omega)) (e_ue hw1))), runOk.at hrn (by omega) (e_ue hw28) erg⟩)⟩
      · replace h20 : (w 276 (1260 * t + 430) : Int) = 0 := Classical.not_not.mp (show ¬ ((w 276 (1260 * t + 430) : Int) ≠ 0) from h20)
        refine e_Ok.ps1 (x := (1, 275)) (q := 53) 1 rfl ?_
        refine e_Ok.getr (z := 276) rfl (el_o rfl) rfl (ef_o rfl) (e_uq hw1 (Or.inr (by decide)) (e_Has.eq hT (mt_o rfl))) ⟨by decide, by decide⟩ ?_
        refine e_Ok.ps2 (x := (0, w 276 (1260 * t + 424))) (y := (0, 352)) (q := 60) 2 rfl ?_
        refine e_Ok.add (z := w 276 (1260 * t + 424) + 352) rfl (Int.add_comm _ _) (by omega) ?_
        have h33 := (e_Has.get hT (c := 276) (k := w 276 (1260 * t + 424) + 352) (lo := (-2147483648)) (hi := 2147483647) (nR_RISES (p := w 276 (1260 * t + 424)) (by omega)) (by decide))
        refine e_Ok.ald (z := w 276 (w 276 (1260 * t + 424) + 352)) rfl rfl rfl (by omega) (e_uq hw1 (Or.inl (by decide)) rfl) (e_bq h33 (by decide) (by decide)) ?_
        refine e_Ok.ps1 (x := (1, 275)) (q := 63) 1 rfl ?_
        refine e_Ok.getr (z := 276) rfl (el_o rfl) rfl (ef_o rfl) (e_uq hw1 (Or.inr (by decide)) (e_Has.eq hT (mt_o rfl))) ⟨by decide, by decide⟩ ?_
        refine e_Ok.ps1 (x := (1, 275)) (q := 67) 1 rfl ?_
        refine e_Ok.getf (z := 1260 * t + 416) rfl (el_o rfl) rfl (ef_o rfl) (e_uq hw1 (Or.inr (by decide)) h97) (by omega) ?_
        refine e_Ok.ps1 (x := (0, 10)) (q := 72) 1 rfl ?_
        refine e_Ok.add (z := 1260 * t + 426) rfl (e_adl (by decide)) (by omega) ?_
        have h34 := (e_Has.get hT (c := 276) (k := 1260 * t + 426) (lo := (-2147483648)) (hi := 2147483647) (nR_KEPT (t := t) (by omega)) (by decide))
        refine e_Ok.ald (z := w 276 (1260 * t + 426)) rfl (el_o rfl) rfl (by omega) (e_uq hw1 (Or.inl (by decide)) rfl) (e_bq h34 (by decide) (by decide)) ?_
        refine e_Ok.if2 rfl (fun h35 => ?_) (fun h35 => ?_)
        · replace h35 : (w 276 (w 276 (1260 * t + 424) + 352) : Int) = w 276 (1260 * t + 426) := h35
          refine e_Ok.ps2 (x := (1, 275)) (y := (1, 275)) (q := 119) 2 rfl ?_
          refine e_Ok.getf (z := w 275 99) rfl (el_o rfl) rfl (ef_o rfl) (e_uq hw1 (Or.inr (by decide)) rfl) (by omega) ?_
          refine e_Ok.ps1 (x := (0, 1)) (q := 123) 1 rfl ?_
          refine e_Ok.add (z := w 275 99 + 1) rfl rfl (by omega) ?_
          refine e_Ok.putf rfl (el_o rfl) rfl (ef_o rfl) ?_
          generalize hw36 : e_up w1 275 99 (w 275 99 + 1) = w36
          have hT38 : e_Has mTy w36 := e_Has.ups hT3 hw36 (mt_o rfl)
          refine e_Ok.ps2 (x := (1, 275)) (y := (1, 275)) (q := 129) 2 rfl ?_
          refine e_Ok.getr (z := 276) rfl (el_o rfl) rfl (ef_o rfl) (e_uq hw36 (Or.inr (by decide)) (e_uq hw1 (Or.inr (by decide)) (e_Has.eq hT (mt_o rfl)))) ⟨by decide, by decide⟩ ?_
          refine e_Ok.ps1 (x := (1, 275)) (q := 133) 1 rfl ?_
          refine e_Ok.callV rfl (e_dq hd rfl) rfl rfl rfl rfl (c_362 hT38 (by omega) (e_uq hw36 (Or.inr (by first | decide | omega)) (e_uq hw1 (Or.inr (by first | decide | omega)) h97)) (f := g + 1) (z := 1260 * t + 2 * g + 436) (e_uq hw36 (Or.inl (by first | decide | omega)) (e_uq hw1 (Or.inl (by first | decide | omega)) hF)) (by omega) (by omega)) (fun r39 w40 h41 => ?_)
          obtain ⟨rfl, rfl⟩ := h41
          refine e_Ok.nrm (q := 136) (st' := [(0, 1260 * t + 2 * g + 436), (1, 276), (1, 275)]) rfl rfl ?_
          refine e_Ok.ald (z := p) rfl (el_o rfl) rfl (by omega) (e_uq hw36 (Or.inl (by decide)) (e_uq hw1 (Or.inl (by decide)) hpc)) (by omega) ?_
          refine e_Ok.ps1 (x := (0, 1)) (q := 138) 1 rfl ?_
          refine e_Ok.add (z := p + 1) rfl rfl (by omega) ?_
          refine e_Ok.callV rfl (e_dq hd rfl) rfl rfl rfl rfl (c_365 (e_dq hd rfl) hT38 (by omega) (e_uq hw36 (Or.inr (by first | decide | omega)) (e_uq hw1 (Or.inr (by first | decide | omega)) h97)) (f := g + 1) (z := 1260 * t + 2 * g + 436) (e_uq hw36 (Or.inl (by first | decide | omega)) (e_uq hw1 (Or.inl (by first | decide | omega)) hF)) (by omega) (by omega)) (fun r42 w43 h44 => ?_)
          obtain ⟨rfl, hw43⟩ := h44
          have hT46 : e_Has mTy w43 := e_Has.upr hT38 hw43 (nR_FRg t (g) (by omega) (by omega) (by omega)) (by omega)
          refine e_Ok.nrm (q := 142) (st' := []) rfl rfl ?_
          refine e_Ok.rets rfl rfl ?_
          have e47 : w43 276 5 = w 276 5 := (e_uq hw43 (Or.inr (by omega)) (e_uq hw36 (Or.inl (by decide)) (e_uq hw1 (Or.inl (by decide)) rfl)))
          have e9 : w43 275 99 = w 275 99 + 1 := (e_uq hw43 (Or.inl (by omega)) (e_ue hw36))
          have erg : w43 330 (10000 * a + (p + 1)) = w 330 (10000 * a + p + 1) := by rw [show 10000 * a + (p + 1) = 10000 * a + p + 1 by omega]; exact (e_uq hw43 (Or.inl (by first | decide | omega)) (e_uq hw36 (Or.inl (by first | decide | omega)) (e_uq hw1 (Or.inl (by first | decide | omega)) rfl)))
          have hrn : runOk w43 a t g (w 330 (10000 * a + p + 1)) n nt nw dl sg pi an br bs ow := by
            rcases k7.2.2.2.2 with hx | ⟨z, hz0, hz1, hz2, hz3⟩
            · rw [hx]; exact runOk.fr (w' := w43) (fun c k q1 q2 => (e_uq hw43 (Or.inl (by omega)) (e_uq hw36 (Or.inl (by omega)) (e_uq hw1 (Or.inl (by omega)) rfl)))) (fun i q1 q2 => ⟨(e_uq hw43 (Or.inr (by omega)) (e_uq hw36 (Or.inl (by omega)) (e_uq hw1 (Or.inl (by omega)) rfl))), (e_uq hw43 (Or.inr (by omega)) (e_uq hw36 (Or.inl (by omega)) (e_uq hw1 (Or.inl (by omega)) rfl)))⟩) (e_uq hw43 (Or.inr (by omega)) (e_uq hw36 (Or.inl (by omega)) (e_uq hw1 (Or.inl (by omega)) rfl))) (e_uq hw43 (Or.inr (by omega)) (e_uq hw36 (Or.inl (by omega)) (e_uq hw1 (Or.inl (by omega)) rfl))) (fun k q1 q2 => (e_uq hw43 (Or.inr (by omega)) (e_uq hw36 (Or.inl (by omega)) (e_uq hw1 (Or.inl (by omega)) rfl)))) (by omega) hru
            · have ht3 := hC.2.2.1 z hz0 hz1
              have hz4 := ht3.2.1.1
              rw [hz3] at hz4
              rw [hz2]
              exact runOk.to (w' := w43) (r' := 3 * z) hru (fun c k q1 q2 => (e_uq hw43 (Or.inl (by omega)) (e_uq hw36 (Or.inl (by omega)) (e_uq hw1 (Or.inl (by omega)) rfl)))) (fun i q1 q2 => ⟨(e_uq hw43 (Or.inr (by omega)) (e_uq hw36 (Or.inl (by omega)) (e_uq hw1 (Or.inl (by omega)) rfl))), (e_uq hw43 (Or.inr (by omega)) (e_uq hw36 (Or.inl (by omega)) (e_uq hw1 (Or.inl (by omega)) rfl)))⟩) (e_uq hw43 (Or.inr (by omega)) (e_uq hw36 (Or.inl (by omega)) (e_uq hw1 (Or.inl (by omega)) rfl))) (by have q : w43 276 (1260 * t + 429) = w 276 (1260 * t + 429) := (e_uq hw43 (Or.inr (by omega)) (e_uq hw36 (Or.inl (by omega)) (e_uq hw1 (Or.inl (by omega)) rfl))); rw [q, hPn, hz4]) (fun k q1 q2 => (e_uq hw43 (Or.inr (by omega)) (e_uq hw36 (Or.inl (by omega)) (e_uq hw1 (Or.inl (by omega)) rfl)))) (by omega) (by omega) (by omega) (fun q q1 q2 q3 => by rw [show 3 * z = 3 * z + 0 by omega] at q1; exact (ht3.2.2.2.2.2.1 0 q (by omega) (by omega) q1).elim (fun e => by omega) (fun e => by rw [hz3] at e; exact e))
          exact ⟨rfl, ⟨(show e_fr (mBg t) w w43 from e_fr.up (show e_fr (mBg t) w w36 from e_fr.up f2 hw36 (by first | exact Or.inr (Or.inl ⟨rfl, rfl⟩) | (unfold mBg mLv; omega))) hw43 (by first | exact Or.inl (Or.inr ⟨rfl, Or.inr (Or.inr (Or.inr (Or.inr (Or.inr (Or.inr (Or.inr (Or.inr (Or.inr ⟨(by omega), (by omega)⟩))))))))⟩) | (unfold mBg mLv; omega))), (sRel.up (sRel.up (sRel.up sRel.refl hw1 (fun q b g1 g2 => by omega)) hw36 (fun q b g1 g2 => by omega)) hw43 (fun q b g1 g2 => by omega))⟩, hT46, by omega, Or.inr (Or.inr ⟨by omega, e9, (e_uq hw43 (Or.inl (by omega)) (e_uq hw36 (Or.inr (by omega)) (e_uq hw1 (Or.inr (by omega)) rfl))), (e_uq hw43 (Or.inr (by omega)) (e_uq hw36 (Or.inl (by omega)) (e_uq hw1 (Or.inl (by omega)) rfl))), by omega, (e_uq hw43 (Or.inl (by omega)) (e_uq hw36 (Or.inr (by omega)) (e_ue hw1))), runOk.at hrn (by omega) (e_ue hw43) erg⟩)⟩
        · replace h35 : (w 276 (w 276 (1260 * t + 424) + 352) : Int) ≠ w 276 (1260 * t + 426) := (show ¬ ((w 276 (w 276 (1260 * t + 424) + 352) : Int) = w 276 (1260 * t + 426)) from h35)
          refine e_Ok.ps1 (x := (1, 275)) (q := 78) 1 rfl ?_
          refine e_Ok.getr (z := 276) rfl (el_o rfl) rfl (ef_o rfl) (e_uq hw1 (Or.inr (by decide)) (e_Has.eq hT (mt_o rfl))) ⟨by decide, by decide⟩ ?_
          refine e_Ok.ps1 (x := (1, 275)) (q := 82) 1 rfl ?_
          refine e_Ok.getf (z := 1260 * t + 416) rfl (el_o rfl) rfl (ef_o rfl) (e_uq hw1 (Or.inr (by decide)) h97) (by omega) ?_
          refine e_Ok.ps1 (x := (0, 10)) (q := 87) 1 rfl ?_
          refine e_Ok.add (z := 1260 * t + 426) rfl (e_adl (by decide)) (by omega) ?_
          refine e_Ok.ps1 (x := (1, 275)) (q := 89) 1 rfl ?_
          refine e_Ok.getr (z := 276) rfl (el_o rfl) rfl (ef_o rfl) (e_uq hw1 (Or.inr (by decide)) (e_Has.eq hT (mt_o rfl))) ⟨by decide, by decide⟩ ?_
          refine e_Ok.ps2 (x := (0, w 276 (1260 * t + 424))) (y := (0, 352)) (q := 96) 2 rfl ?_
          refine e_Ok.add (z := w 276 (1260 * t + 424) + 352) rfl (Int.add_comm _ _) (by omega) ?_
          refine e_Ok.ald (z := w 276 (w 276 (1260 * t + 424) + 352)) rfl rfl rfl (by omega) (e_uq hw1 (Or.inl (by decide)) rfl) (by omega) ?_
          refine e_Ok.ast rfl (el_o rfl) rfl rfl (by omega) ?_
          generalize hw48 : e_up w1 276 (1260 * t + 426) (w 276 (w 276 (1260 * t + 424) + 352)) = w48
          have hT50 : e_Has mTy w48 := e_Has.upr hT3 hw48 (nR_KEPT (t := t) (by omega)) (by omega)
          refine e_Ok.ps2 (x := (1, 275)) (y := (1, 275)) (q := 101) 2 rfl ?_
          refine e_Ok.getr (z := 276) rfl (el_o rfl) rfl (ef_o rfl) (e_uq hw48 (Or.inl (by decide)) (e_uq hw1 (Or.inr (by decide)) (e_Has.eq hT (mt_o rfl)))) ⟨by decide, by decide⟩ ?_
          refine e_Ok.ps1 (x := (1, 275)) (q := 105) 1 rfl ?_
          refine e_Ok.getf (z := 1260 * t + 416) rfl (el_o rfl) rfl (ef_o rfl) (e_uq hw48 (Or.inl (by decide)) (e_uq hw1 (Or.inr (by decide)) h97)) (by omega) ?_
          refine e_Ok.ps1 (x := (0, 9)) (q := 110) 1 rfl ?_
          refine e_Ok.add (z := 1260 * t + 425) rfl (e_adl (by decide)) (by omega) ?_
          have h51 := (e_Has.get hT (c := 276) (k := 1260 * t + 425) (lo := 0) (hi := 31) (nR_WATCHER (t := t) (by omega)) (by decide))
          refine e_Ok.ald (z := w 276 (1260 * t + 425)) rfl (el_o rfl) rfl (by omega) (e_uq hw48 (Or.inr (e_neo (by decide))) (e_uq hw1 (Or.inl (by decide)) rfl)) (e_bq h51 (by decide) (by decide)) ?_
          refine e_Ok.ps1 (x := (0, 1)) (q := 113) 1 rfl ?_
          have e55 : w48 276 5 = w 276 5 := (e_uq hw48 (Or.inr (by omega)) (e_uq hw1 (Or.inl (by decide)) rfl))
          have hkept0 : w48 276 (1260 * t + 426) = w 276 (w 276 (1260 * t + 424) + 352) := (e_ue hw48)
          refine e_Ok.callV rfl (e_dq hd rfl) rfl rfl rfl rfl (c_367 (e_dq hd rfl) hT50 (by omega) (by omega) (e_uq hw48 (Or.inl (by omega)) (e_uq hw1 (Or.inr (by omega)) h96)) (e_uq hw48 (Or.inl (by omega)) (e_uq hw1 (Or.inr (by omega)) h97)) (e_uq hw48 (Or.inl (by omega)) (e_uq hw1 (Or.inr (by omega)) h98)) (cOk.fr (fun c k q1 q2 => (e_uq hw48 (Or.inl (by omega)) (e_uq hw1 (Or.inl (by omega)) rfl))) hC) (runOk.at (runOk.fr (w' := w48) (fun c k q1 q2 => (e_uq hw48 (Or.inl (by omega)) (e_uq hw1 (Or.inl (by omega)) rfl))) (fun i q1 q2 => ⟨(e_uq hw48 (Or.inr (by omega)) (e_uq hw1 (Or.inl (by omega)) rfl)), (e_uq hw48 (Or.inr (by omega)) (e_uq hw1 (Or.inl (by omega)) rfl))⟩) (e_uq hw48 (Or.inr (by omega)) (e_uq hw1 (Or.inl (by omega)) rfl)) (e_uq hw48 (Or.inr (by omega)) (e_uq hw1 (Or.inl (by omega)) rfl)) (fun k q1 q2 => (e_uq hw48 (Or.inr (by omega)) (e_uq hw1 (Or.inl (by omega)) rfl))) (by omega) hru) (by omega) (e_uq hw48 (Or.inr (by omega)) (e_uq hw1 (Or.inl (by omega)) hpc)) (e_uq hw48 (Or.inl (by omega)) (e_uq hw1 (Or.inl (by omega)) rfl))) (by omega) ⟨by omega, by have := hW (by omega); have q : w48 338 a = w 338 a := (e_uq hw48 (Or.inl (by omega)) (e_uq hw1 (Or.inl (by omega)) rfl)); omega⟩ (by omega) (fun e => by omega) (fun _ => ⟨k7.1, k7.2.1⟩)) (fun r52 w53 h54 => ?_)
          obtain ⟨rfl, ⟨q56, q56S⟩, q56T, q56n, q56c⟩ := h54
          refine e_Ok.nrm (q := 116) (st' := []) rfl rfl ?_
          refine e_Ok.rets rfl rfl ?_
          have e58 : w53 276 5 = w53 276 5 := rfl
          exact ⟨rfl, ⟨(show e_fr (mBg t) w w53 from e_fr.trans (show e_fr (mBg t) w w48 from e_fr.up f2 hw48 (by first | exact Or.inr (Or.inr ⟨rfl, (by omega)⟩) | (unfold mBg mLv; omega))) (e_fr.mono q56 (fun c k q => by first | exact su_64_2 q | (unfold mLv at q; unfold mBg mLv; omega)))), (sRel.trans (sRel.up (sRel.up sRel.refl hw1 (fun q b g1 g2 => by omega)) hw48 (fun q b g1 g2 => by omega)) q56S)⟩, q56T, by omega, Or.inr (Or.inl ⟨((q56 275 99 (by first | exact no_64_0 | (unfold mLv; omega))).trans (e_uq hw48 (Or.inl (by omega)) (e_uq hw1 (Or.inr (by omega)) rfl))), by omega, by omega, ((q56 276 (1260 * t + 426) (by first | exact no_64_1 (by omega) | (unfold mLv; omega))).trans (e_ue hw48)), q56c.elim (fun h => Or.inl ⟨h.1, h.2.imp id (fun k => ⟨k.1.trans (e_uq hw48 (Or.inl (by omega)) (e_uq hw1 (Or.inr (by omega)) rfl)), k.2.1.trans (e_uq hw48 (Or.inr (by omega)) (e_uq hw1 (Or.inl (by omega)) rfl)), k.2.2.1.trans (e_uq hw48 (Or.inr (by omega)) (e_uq hw1 (Or.inl (by omega)) rfl)), k.2.2.2⟩)⟩) (fun h => Or.inr ⟨h.2.1.trans (e_uq hw48 (Or.inl (by omega)) (e_uq hw1 (Or.inr (by omega)) rfl)), h.2.2.1.trans (e_uq hw48 (Or.inr (by omega)) (e_uq hw1 (Or.inl (by omega)) rfl)), h.2.2.2.1.trans (e_uq hw48 (Or.inr (by omega)) (e_uq hw1 (Or.inl (by omega)) rfl)), h.2.2.2.2.1, by obtain ⟨p2, b2, o2, k1, k2, k3⟩ := h.2.2.2.2.2; exact ⟨p2, b2, o2, k1, k2, k3, h.1.trans (e_uq hw48 (Or.inl (by omega)) (e_ue hw1))⟩⟩)⟩)⟩
  · replace h4 : (w 275 99 : Int) = 20 := Classical.not_not.mp (show ¬ ((w 275 99 : Int) ≠ 20) from h4)
    refine e_Ok.ps2 (x := (0, 1)) (y := (1, 275)) (q := 16) 2 rfl ?_
    refine e_Ok.putb rfl (el_o rfl) rfl (ef_o rfl) (by omega) ?_
    generalize hw59 : e_up w1 275 100 1 = w59
    have hT61 : e_Has mTy w59 := e_Has.ups hT3 hw59 (mt_o rfl)
    refine e_Ok.rets rfl rfl ?_
    have e62 : w59 276 5 = w 276 5 := (e_uq hw59 (Or.inl (by decide)) (e_uq hw1 (Or.inl (by decide)) rfl))
    exact ⟨rfl, ⟨(show e_fr (mBg t) w w59 from e_fr.up f2 hw59 (by first | exact Or.inl (Or.inl ⟨rfl, Or.inl rfl⟩) | (unfold mBg mLv; omega))), (sRel.up (sRel.up sRel.refl hw1 (fun q b g1 g2 => by omega)) hw59 (fun q b g1 g2 => by omega))⟩, hT61, by omega, Or.inl ⟨(e_ue hw59), (e_uq hw59 (Or.inr (by omega)) (e_uq hw1 (Or.inr (by omega)) rfl)), fun k => (e_uq hw59 (Or.inl (by omega)) (e_uq hw1 (Or.inl (by omega)) rfl))⟩⟩
end
end
