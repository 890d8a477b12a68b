/-! the reference finds the least sum -/
theorem absR_ls {M M1 : Mem} {A : Abs} (h : absR M A) (hf : ∀ a, a ≠ 90 → M1 a = M a) : absR M1 A ∧ fr79 M M1 := by
  obtain ⟨h1, h2, h3, h4, h5⟩ := h
  exact ⟨⟨by rw [hf 80 (by omega)]; exact h1, fun j hj => by rw [hf 81 (by omega)]; exact h2 j hj, by rw [hf 82 (by omega)]; exact h3, by rw [hf 80 (by omega)]; exact h4, fun i T hi => by rw [hf 83 (by omega)]; exact h5 i T hi⟩, fun a ha => hf a (by omega)⟩
theorem le2b {x : Int32} : (2 : Int32) < x ↔ ¬ x < 3 := by
  rw [Int32.lt_iff_toInt_lt, Int32.lt_iff_toInt_lt]
  have e0 : (2 : Int32).toInt = 2 := by decide
  have e1 : (3 : Int32).toInt = 3 := by decide
  omega

set_option maxHeartbeats 4000000 in
set_option maxRecDepth 100000 in
theorem ct_X7_findLeast {l : Launch} {D : va_G} {cI cO : ClassId} {z tP : Nat} {aK aV : Nat → Nat} (M : Mem) (S : Spt) (xt xr : Int32) (hMR : MR M S) (hs : wfS S) (hxt : xt = nI (spt S)) (hxr : xr = nI (spr S)) : Cm l D cI cO z tP aK aV yX7_findLeast cX7_findLeast 9 (some .int) 4 91 [.ref (z + 80), .int xt, .int xr] SH M (pI (fun r M1 => r = nI (cS S 0 0 0) ∧ CT M1 90 S 0 ∧ ∀ a, a ≠ 90 → M1 a = M a)) := by
  refine cm_intro (lv0 := [some (.ref (z + 80)), some (.int xt), some (.int xr), none, none, none, none, none, none]) (by decide) rfl (Nat.le_of_ble_eq_true rfl) rfl (fun p e s m below meth c C => ?_)
  have hn := hs.1
  have hw9 := (hs.2.2.2.2 0 (by decide)).2
  have hF_ : FAR = 1000000 := rfl
  refine g_aload0 C dX7_findLeast_0 (n := 1) rfl ?_
  refine kg_X7_13 C sh_80 rfl dX7_findLeast_1 (n := 4) rfl ?_
  refine g_bipush C bp_120 dX7_findLeast_4 (n := 6) rfl ?_
  refine g_iald C (j := 120) sh_82 (by decide) (rfl) (by omega) dX7_findLeast_6 (n := 7) rfl ?_
  rw [show M 82 120 = nI (spn S) from hMR.1]
  refine g_istore3 C dX7_findLeast_7 (n := 8) rfl ?_
  refine g_aload0 C dX7_findLeast_8 (n := 9) rfl ?_
  refine kg_X7_13 C sh_80 rfl dX7_findLeast_9 (n := 12) rfl ?_
  refine g_bipush C bp_123 dX7_findLeast_12 (n := 14) rfl ?_
  refine g_iald C (j := 123) sh_82 (by decide) (rfl) (by omega) dX7_findLeast_14 (n := 15) rfl ?_
  rw [show M 82 123 = nI (spw S 0) from hMR.2.2 0 (by decide)]
  refine g_istore4 C dX7_findLeast_15 (n := 17) rfl ?_
  refine g_iload3 C dX7_findLeast_17 (n := 18) rfl ?_
  refine g_istore5 C dX7_findLeast_18 (n := 20) rfl ?_
  have L_20 : ∀ (fu : Nat) (v1 : Nat) (yi : Int32) (M1 : Mem) (o6 o7 o8 : Option Value), v1 < fu → (yi + 1 = nI v1) → (v1 ≤ spn S + 1) → (CT M1 90 S v1) → (∀ a, a ≠ 90 → M1 a = M a) → G p l e ({ frames := 4, cells := 0, slots := 0, locals := 91 }) s m ([.ref (z + 80), .int xt, .int xr] : List Value).toArray below meth c D cI cO z 9 (QM below D cI cO z ([.ref (z + 80), .int xt, .int xr] : List Value).toArray s SH (pI (fun r M1 => r = nI (cS S 0 0 0) ∧ CT M1 90 S 0 ∧ ∀ a, a ≠ 90 → M1 a = M a))) 0 0 SH M1 20 [some (.ref (z + 80)), some (.int xt), some (.int xr), some (.int (nI (spn S))), some (.int (nI (spw S 0))), some (.int yi), o6, o7, o8] [] := by
    intro fu_20
    induction fu_20 with
    | zero => intro v1 yi M1 o6 o7 o8 hfu; exact absurd hfu (Nat.not_lt_zero _)
    | succ fu_20 ih_20 =>
      intro v1 yi M1 o6 o7 o8 hfu_20 hyi hv1 hC hF
      refine g_iload5 C dX7_findLeast_20 (n := 22) rfl ?_
      refine g_if_lt C dX7_findLeast_22 (t := 383) (by decide) (n := 25) rfl (fun c_22 => ?_) (fun c_22 => ?_)
      · have hk0 : v1 = 0 := by
          by_cases h : v1 = 0
          · exact h
          · exfalso
            have e : yi = nI (v1 - 1) := by
              have e2 : yi = yi + 1 - 1 := by rw [Int32.add_sub_cancel]
              rw [e2, hyi]; exact e_sub rfl (show (1 : Int32) = nI 1 from rfl) (by omega)
            rw [e] at c_22; exact nI_pos (by omega) c_22
        refine g_aload0 C dX7_findLeast_383 (n := 384) rfl ?_
        refine kg_X7_37 C sh_80 rfl dX7_findLeast_384 (n := 387) rfl ?_
        refine g_iconst C ic_0 dX7_findLeast_387 (n := 388) rfl ?_
        refine g_iald C (j := 0) sh_90 (by decide) (nI_0.symm) (by omega) dX7_findLeast_388 (n := 389) rfl ?_
        refine r_I C dX7_findLeast_389 ?_
        rw [hk0] at hC
        exact ⟨hC 0 (Nat.le_refl _) (Nat.zero_le _) 0 (Nat.zero_le _) 0 (Nat.zero_le _), hC, hF⟩
      · obtain ⟨kyi, hkyi, hnyi⟩ : ∃ kk, kk + 1 = v1 ∧ yi = nI kk := by
          have e2 : yi = yi + 1 - 1 := by rw [Int32.add_sub_cancel]
          by_cases h : v1 = 0
          · rw [h] at hyi
            rw [e2, hyi] at c_22
            exact absurd (show (nI 0 - 1 : Int32) < 0 by decide) c_22
          · exact ⟨v1 - 1, by omega, by rw [e2, hyi]; exact e_sub rfl (show (1 : Int32) = nI 1 from rfl) (by omega)⟩
        rw [← hkyi] at hC
        refine g_iconst C ic_0 dX7_findLeast_25 (n := 26) rfl ?_
        refine g_istore6 C dX7_findLeast_26 (n := 28) rfl ?_
        have L_28 : ∀ (fu : Nat) (v : Nat) (yd : Int32) (M2 : Mem) (o7 : Option Value), 7 - v < fu → (yd = nI v) → (v ≤ 7) → (∀ d, d < v → M2 90 (49 * kyi + (7 * d + 0)) = nI (rwS S kyi d 0)) → (∀ a, a ≠ 90 → M2 a = M a) → (∀ p, (p < 49 * kyi ∨ 49 * kyi + 49 ≤ p) → M2 90 p = M1 90 p) → G p l e ({ frames := 4, cells := 0, slots := 0, locals := 91 }) s m ([.ref (z + 80), .int xt, .int xr] : List Value).toArray below meth c D cI cO z 9 (QM below D cI cO z ([.ref (z + 80), .int xt, .int xr] : List Value).toArray s SH (pI (fun r M1 => r = nI (cS S 0 0 0) ∧ CT M1 90 S 0 ∧ ∀ a, a ≠ 90 → M1 a = M a))) 0 0 SH M2 28 [some (.ref (z + 80)), some (.int xt), some (.int xr), some (.int (nI (spn S))), some (.int (nI (spw S 0))), some (.int yi), some (.int yd), o7, o8] [] := by
          intro fu_28
          induction fu_28 with
          | zero => intro v yd M2 o7 hfu; exact absurd hfu (Nat.not_lt_zero _)
          | succ fu_28 ih_28 =>
            intro v yd M2 o7 hfu_28 hyd hv hB2 hFM2 hPM2
            refine g_iload6 C dX7_findLeast_28 (n := 30) rfl ?_
            refine g_bipush C bp_6 dX7_findLeast_30 (n := 32) rfl ?_
            refine g_icmp_gt C dX7_findLeast_32 (t := 127) (by decide) (n := 35) rfl (fun c_32 => ?_) (fun c_32 => ?_)
            · have w32 : 6 < v := (qlt (show (6 : Int32) = nI 6 from rfl) hyd (by decide) (by omega)).mp c_32
              refine g_iconst C ic_1 dX7_findLeast_127 (n := 128) rfl ?_
              refine g_istore6 C dX7_findLeast_128 (n := 130) rfl ?_
              have L_130 : ∀ (fu : Nat) (pp : Nat) (yp : Int32) (M3 : Mem), 7 - pp < fu → (yp = nI pp) → (1 ≤ pp) → (pp ≤ 7) → (∀ d, d ≤ 6 → M3 90 (49 * kyi + (7 * d + 0)) = nI (f1V S kyi pp d 0)) → (∀ a, a ≠ 90 → M3 a = M a) → (∀ p, (p < 49 * kyi ∨ 49 * kyi + 49 ≤ p) → M3 90 p = M1 90 p) → G p l e ({ frames := 4, cells := 0, slots := 0, locals := 91 }) s m ([.ref (z + 80), .int xt, .int xr] : List Value).toArray below meth c D cI cO z 9 (QM below D cI cO z ([.ref (z + 80), .int xt, .int xr] : List Value).toArray s SH (pI (fun r M1 => r = nI (cS S 0 0 0) ∧ CT M1 90 S 0 ∧ ∀ a, a ≠ 90 → M1 a = M a))) 0 0 SH M3 130 [some (.ref (z + 80)), some (.int xt), some (.int xr), some (.int (nI (spn S))), some (.int (nI (spw S 0))), some (.int yi), some (.int yp), o7, o8] [] := by
                intro fu_130
                induction fu_130 with
                | zero => intro pp yp M3 hfu; exact absurd hfu (Nat.not_lt_zero _)
                | succ fu_130 ih_130 =>
                  intro pp yp M3 hfu_130 hyp hp1 hp hB3 hFM3 hPM3
                  refine g_iload6 C dX7_findLeast_130 (n := 132) rfl ?_
                  refine g_bipush C bp_6 dX7_findLeast_132 (n := 134) rfl ?_
                  refine g_icmp_gt C dX7_findLeast_134 (t := 190) (by decide) (n := 137) rfl (fun c_134 => ?_) (fun c_134 => ?_)
                  · have w134 : 6 < pp := (qlt (show (6 : Int32) = nI 6 from rfl) hyp (by decide) (by omega)).mp c_134
                    refine g_iconst C ic_5 dX7_findLeast_190 (n := 191) rfl ?_
                    refine g_istore6 C dX7_findLeast_191 (n := 193) rfl ?_
                    have L_193 : ∀ (fu : Nat) (q1 : Nat) (yq : Int32) (M4 : Mem), q1 < fu → (yq + 1 = nI q1) → (q1 ≤ 6) → (∀ d, d ≤ 6 → M4 90 (49 * kyi + (7 * d + 0)) = nI (f2V S kyi q1 d 0)) → (∀ a, a ≠ 90 → M4 a = M a) → (∀ p, (p < 49 * kyi ∨ 49 * kyi + 49 ≤ p) → M4 90 p = M1 90 p) → G p l e ({ frames := 4, cells := 0, slots := 0, locals := 91 }) s m ([.ref (z + 80), .int xt, .int xr] : List Value).toArray below meth c D cI cO z 9 (QM below D cI cO z ([.ref (z + 80), .int xt, .int xr] : List Value).toArray s SH (pI (fun r M1 => r = nI (cS S 0 0 0) ∧ CT M1 90 S 0 ∧ ∀ a, a ≠ 90 → M1 a = M a))) 0 0 SH M4 193 [some (.ref (z + 80)), some (.int xt), some (.int xr), some (.int (nI (spn S))), some (.int (nI (spw S 0))), some (.int yi), some (.int yq), o7, o8] [] := by
                      intro fu_193
                      induction fu_193 with
                      | zero => intro q1 yq M4 hfu; exact absurd hfu (Nat.not_lt_zero _)
                      | succ fu_193 ih_193 =>
                        intro q1 yq M4 hfu_193 hyq hq6 hB4 hFM4 hPM4
                        refine g_iload6 C dX7_findLeast_193 (n := 195) rfl ?_
                        refine g_if_lt C dX7_findLeast_195 (t := 251) (by decide) (n := 198) rfl (fun c_195 => ?_) (fun c_195 => ?_)
                        · have hk0 : q1 = 0 := by
                            by_cases h : q1 = 0
                            · exact h
                            · exfalso
                              have e : yq = nI (q1 - 1) := by
                                have e2 : yq = yq + 1 - 1 := by rw [Int32.add_sub_cancel]
                                rw [e2, hyq]; exact e_sub rfl (show (1 : Int32) = nI 1 from rfl) (by omega)
                              rw [e] at c_195; exact nI_pos (by omega) c_195
                          refine g_iconst C ic_0 dX7_findLeast_251 (n := 252) rfl ?_
                          refine g_istore6 C dX7_findLeast_252 (n := 254) rfl ?_
                          have L_254 : ∀ (fu : Nat) (a : Nat) (ya : Int32) (M5 : Mem) (o7 o8 : Option Value), 7 - a < fu → (ya = nI a) → (a ≤ 7) → (∀ d, d ≤ 6 → ∀ u, u ≤ dmy (spr S) d → (d < a ∨ u = 0) → M5 90 (49 * kyi + (7 * d + u)) = nI (fin (spw S) (rwS S kyi) d u)) → (∀ a, a ≠ 90 → M5 a = M a) → (∀ p, (p < 49 * kyi ∨ 49 * kyi + 49 ≤ p) → M5 90 p = M1 90 p) → G p l e ({ frames := 4, cells := 0, slots := 0, locals := 91 }) s m ([.ref (z + 80), .int xt, .int xr] : List Value).toArray below meth c D cI cO z 9 (QM below D cI cO z ([.ref (z + 80), .int xt, .int xr] : List Value).toArray s SH (pI (fun r M1 => r = nI (cS S 0 0 0) ∧ CT M1 90 S 0 ∧ ∀ a, a ≠ 90 → M1 a = M a))) 0 0 SH M5 254 [some (.ref (z + 80)), some (.int xt), some (.int xr), some (.int (nI (spn S))), some (.int (nI (spw S 0))), some (.int yi), some (.int ya), o7, o8] [] := by
                            intro fu_254
                            induction fu_254 with
                            | zero => intro a ya M5 o7 o8 hfu; exact absurd hfu (Nat.not_lt_zero _)
                            | succ fu_254 ih_254 =>
                              intro a ya M5 o7 o8 hfu_254 hya ha hB5 hFM5 hPM5
                              refine g_iload6 C dX7_findLeast_254 (n := 256) rfl ?_
                              refine g_bipush C bp_6 dX7_findLeast_256 (n := 258) rfl ?_
                              refine g_icmp_gt C dX7_findLeast_258 (t := 377) (by decide) (n := 261) rfl (fun c_258 => ?_) (fun c_258 => ?_)
                              · have w258 : 6 < a := (qlt (show (6 : Int32) = nI 6 from rfl) hya (by decide) (by omega)).mp c_258
                                refine g_iinc5 C (inc_m1 _) dX7_findLeast_377 (n := 380) rfl ?_
                                refine g_goto C dX7_findLeast_380 (t := 20) (by decide) ?_
                                exact ih_20 kyi (yi + -1) M5 _ _ _ (by omega) (by rw [hnyi, Int32.add_assoc]; exact Int32.add_zero _) (by omega) (CT_s hC (fun d hd u hu => by rw [cS_fin (show kyi ≤ spn S by omega)]; exact hB5 d hd u hu (by omega)) (fun p hp => hPM5 p (by omega))) hFM5
                              · have w258 : ¬ 6 < a := fun h => c_258 ((qlt (show (6 : Int32) = nI 6 from rfl) hya (by decide) (by omega)).mpr h)
                                have hda := dmy_le (spr S) a
                                refine g_iconst C ic_1 dX7_findLeast_261 (n := 262) rfl ?_
                                refine g_istore7 C dX7_findLeast_262 (n := 264) rfl ?_
                                have L_264 : ∀ (fu : Nat) (w : Nat) (yb : Int32) (M6 : Mem) (o8 : Option Value), dmy (spr S) a + 1 - w < fu → (yb = nI w) → (1 ≤ w) → (w ≤ dmy (spr S) a + 1) → (∀ d, d ≤ 6 → ∀ u, u ≤ dmy (spr S) d → (d < a ∨ (d = a ∧ u < w) ∨ u = 0) → M6 90 (49 * kyi + (7 * d + u)) = nI (fin (spw S) (rwS S kyi) d u)) → (∀ a, a ≠ 90 → M6 a = M a) → (∀ p, (p < 49 * kyi ∨ 49 * kyi + 49 ≤ p) → M6 90 p = M1 90 p) → G p l e ({ frames := 4, cells := 0, slots := 0, locals := 91 }) s m ([.ref (z + 80), .int xt, .int xr] : List Value).toArray below meth c D cI cO z 9 (QM below D cI cO z ([.ref (z + 80), .int xt, .int xr] : List Value).toArray s SH (pI (fun r M1 => r = nI (cS S 0 0 0) ∧ CT M1 90 S 0 ∧ ∀ a, a ≠ 90 → M1 a = M a))) 0 0 SH M6 264 [some (.ref (z + 80)), some (.int xt), some (.int xr), some (.int (nI (spn S))), some (.int (nI (spw S 0))), some (.int yi), some (.int ya), some (.int yb), o8] [] := by
                                  intro fu_264
                                  induction fu_264 with
                                  | zero => intro w yb M6 o8 hfu; exact absurd hfu (Nat.not_lt_zero _)
                                  | succ fu_264 ih_264 =>
                                    intro w yb M6 o8 hfu_264 hyb hw1 hw2 hB6 hFM6 hPM6
                                    refine g_iload7 C dX7_findLeast_264 (n := 266) rfl ?_
                                    refine g_iload2 C dX7_findLeast_266 (n := 267) rfl ?_
                                    refine g_iload6 C dX7_findLeast_267 (n := 269) rfl ?_
                                    refine kc_X7_116 C (ct_X7_dueMany SH M6 (spr S) a _ _ hxr hya hs.2.2.2.1 (by omega)) ⟨Nat.le_of_ble_eq_true rfl, Nat.le_of_ble_eq_true rfl⟩ ⟨Nat.zero_le _, Nat.zero_le _⟩ (Nat.le_of_ble_eq_true rfl) dX7_findLeast_269 (n := 272) rfl (fun r_269 M_269 h_269 => ?_)
                                    rw [h_269.1, h_269.2]
                                    refine g_icmp_gt C dX7_findLeast_272 (t := 371) (by decide) (n := 275) rfl (fun c_272 => ?_) (fun c_272 => ?_)
                                    · have w272 : dmy (spr S) a < w := (qlt (rfl : nI (dmy (spr S) a) = _) hyb (by omega) (by omega)).mp c_272
                                      refine g_iinc6 C (inc_1 _) dX7_findLeast_371 (n := 374) rfl ?_
                                      refine g_goto C dX7_findLeast_374 (t := 254) (by decide) ?_
                                      exact ih_254 (a + 1) (ya + 1) M6 _ _ (by omega) (by rw [hya, nI_1]) (by omega) (fun d hd u hu h => hB6 d hd u hu (by
                                        by_cases hda2 : d = a
                                        · rw [hda2] at hu; right; left; exact ⟨hda2, by omega⟩
                                        · omega)) hFM6 hPM6
                                    · have w272 : ¬ dmy (spr S) a < w := fun h => c_272 ((qlt (rfl : nI (dmy (spr S) a) = _) hyb (by omega) (by omega)).mpr h)
                                      have hMRM6 : MR M6 S := by unfold MR; rw [hFM6 82 (by omega)]; exact hMR
                                      have hCM6 : CT M6 90 S (kyi + 1) := CT_cong hC (fun p hp => hPM6 p (by omega))
                                      have J_325 : ∀ (xv : Int32), (xv = nI (rwS S kyi a w)) → G p l e ({ frames := 4, cells := 0, slots := 0, locals := 91 }) s m ([.ref (z + 80), .int xt, .int xr] : List Value).toArray below meth c D cI cO z 9 (QM below D cI cO z ([.ref (z + 80), .int xt, .int xr] : List Value).toArray s SH (pI (fun r M1 => r = nI (cS S 0 0 0) ∧ CT M1 90 S 0 ∧ ∀ a, a ≠ 90 → M1 a = M a))) 0 0 SH M6 325 [some (.ref (z + 80)), some (.int xt), some (.int xr), some (.int (nI (spn S))), some (.int (nI (spw S 0))), some (.int yi), some (.int ya), some (.int yb), o8] [.int xv] := by
                                        intro xv hxv
                                        have q2 : M6 90 (49 * kyi + (7 * a + (w - 1))) = nI (fin (spw S) (rwS S kyi) a (w - 1)) := hB6 a (by omega) (w - 1) (by omega) (by omega)
                                        have b1 := rw_b hs (i := kyi) (show a ≤ 6 by omega) (show w ≤ dmy (spr S) a by omega)
                                        have b2 := fin_b hs (i := kyi) (show a ≤ 6 by omega) (show w - 1 ≤ 6 by omega)
                                        refine g_istore8 C dX7_findLeast_325 (n := 327) rfl ?_
                                        refine g_aload0 C dX7_findLeast_327 (n := 328) rfl ?_
                                        refine kg_X7_37 C sh_80 rfl dX7_findLeast_328 (n := 331) rfl ?_
                                        refine g_iload5 C dX7_findLeast_331 (n := 333) rfl ?_
                                        refine g_iload6 C dX7_findLeast_333 (n := 335) rfl ?_
                                        refine g_iload7 C dX7_findLeast_335 (n := 337) rfl ?_
                                        refine kc_X7_131 C (ct_X7_at SH M6 kyi a w _ _ _ hnyi hya hyb) ⟨Nat.le_of_ble_eq_true rfl, Nat.le_of_ble_eq_true rfl⟩ ⟨Nat.zero_le _, Nat.zero_le _⟩ (Nat.le_of_ble_eq_true rfl) dX7_findLeast_337 (n := 340) rfl (fun r_337 M_337 h_337 => ?_)
                                        rw [h_337.1, h_337.2]
                                        refine g_iload8 C dX7_findLeast_340 (n := 342) rfl ?_
                                        refine g_iload4 C dX7_findLeast_342 (n := 344) rfl ?_
                                        refine g_aload0 C dX7_findLeast_344 (n := 345) rfl ?_
                                        refine kg_X7_37 C sh_80 rfl dX7_findLeast_345 (n := 348) rfl ?_
                                        refine g_iload5 C dX7_findLeast_348 (n := 350) rfl ?_
                                        refine g_iload6 C dX7_findLeast_350 (n := 352) rfl ?_
                                        refine g_iload7 C dX7_findLeast_352 (n := 354) rfl ?_
                                        refine g_iconst C ic_1 dX7_findLeast_354 (n := 355) rfl ?_
                                        refine g_isub C dX7_findLeast_355 (n := 356) rfl ?_
                                        refine kc_X7_131 C (ct_X7_at SH M6 kyi a (w - 1) _ _ _ hnyi hya (e_sub hyb (show (1 : Int32) = nI 1 from rfl) hw1)) ⟨Nat.le_of_ble_eq_true rfl, Nat.le_of_ble_eq_true rfl⟩ ⟨Nat.zero_le _, Nat.zero_le _⟩ (Nat.le_of_ble_eq_true rfl) dX7_findLeast_356 (n := 359) rfl (fun r_356 M_356 h_356 => ?_)
                                        rw [h_356.1, h_356.2]
                                        refine g_iald C (j := 49 * kyi + (7 * a + (w - 1))) sh_90 (by decide) (rfl) (by omega) dX7_findLeast_359 (n := 360) rfl ?_
                                        refine g_iadd C dX7_findLeast_360 (n := 361) rfl ?_
                                        refine kc_X7_143 C (ct_X7_min SH M6 (rwS S kyi a w) (spw S 0 + fin (spw S) (rwS S kyi) a (w - 1)) _ _ hxv (e_add rfl q2) (by omega) (by omega)) ⟨Nat.le_of_ble_eq_true rfl, Nat.le_of_ble_eq_true rfl⟩ ⟨Nat.zero_le _, Nat.zero_le _⟩ (Nat.le_of_ble_eq_true rfl) dX7_findLeast_361 (n := 364) rfl (fun r_361 M_361 h_361 => ?_)
                                        rw [h_361.1, h_361.2]
                                        refine g_iast C (j := 49 * kyi + (7 * a + w)) sh_90 (by decide) (rfl) (by omega) dX7_findLeast_364 (n := 365) rfl (fun M9 e9 => ?_)
                                        refine g_iinc7 C (inc_1 _) dX7_findLeast_365 (n := 368) rfl ?_
                                        refine g_goto C dX7_findLeast_368 (t := 264) (by decide) ?_
                                        exact ih_264 (w + 1) (yb + 1) M9 _ (by omega) (by rw [hyb, nI_1]) (by omega) (by omega) (fun d hd u hu h => by
                                          rw [e9]
                                          have hdd := dmy_le (spr S) d
                                          by_cases hdv : d = a ∧ u = w
                                          · rw [hdv.1, hdv.2, up2_at]
                                            have := fin_s (spw S) (rwS S kyi) a (w - 1)
                                            rw [show w - 1 + 1 = w by omega] at this
                                            rw [this]
                                          · refine (show up2 M6 90 _ _ 90 (49 * kyi + (7 * d + u)) = M6 90 (49 * kyi + (7 * d + u)) by simp [up2]; omega).trans ?_
                                            exact hB6 d hd u hu (by omega)) (fun a ha => by rw [e9, up2_ne _ _ ha]; exact hFM6 a ha) (fun p hp => by
                                          rw [e9]
                                          refine (show up2 M6 90 _ _ 90 p = M6 90 p by simp [up2]; omega).trans ?_
                                          exact hPM6 p hp)
                                      refine g_iload5 C dX7_findLeast_275 (n := 277) rfl ?_
                                      refine g_iload3 C dX7_findLeast_277 (n := 278) rfl ?_
                                      refine g_icmp_ne C dX7_findLeast_278 (t := 286) (by decide) (n := 281) rfl (fun c_278 => ?_) (fun c_278 => ?_)
                                      · have hin : kyi < spn S := by
                                          have : ¬ kyi = spn S := fun h => c_278 ((qeq hnyi rfl (by omega) (by omega)).mpr h)
                                          omega
                                        have hbb := b_le hs hin (show a ≤ 6 by omega) (show w ≤ dmy (spr S) a by omega)
                                        have hbs := st_le hs hin (show a ≤ 6 by omega) (show w ≤ dmy (spr S) a by omega)
                                        refine g_aload0 C dX7_findLeast_286 (n := 287) rfl ?_
                                        refine g_iload5 C dX7_findLeast_287 (n := 289) rfl ?_
                                        refine g_iload6 C dX7_findLeast_289 (n := 291) rfl ?_
                                        refine g_iload7 C dX7_findLeast_291 (n := 293) rfl ?_
                                        refine g_iload1 C dX7_findLeast_293 (n := 294) rfl ?_
                                        refine g_iload2 C dX7_findLeast_294 (n := 295) rfl ?_
                                        refine kc_X7_136 C (ct_X7_stays M6 S kyi a w yi ya yb xt xr hMRM6 hs hCM6 hnyi hya hyb hin (by omega) (by omega) hxt hxr) sh_80 ⟨Nat.le_of_ble_eq_true rfl, Nat.le_of_ble_eq_true rfl⟩ ⟨Nat.zero_le _, Nat.zero_le _⟩ (Nat.le_of_ble_eq_true rfl) dX7_findLeast_295 (n := 298) rfl (fun r_295 M_295 h_295 => ?_)
                                        rw [h_295.1, h_295.2]
                                        refine g_aload0 C dX7_findLeast_298 (n := 299) rfl ?_
                                        refine g_iload5 C dX7_findLeast_299 (n := 301) rfl ?_
                                        refine g_iload6 C dX7_findLeast_301 (n := 303) rfl ?_
                                        refine g_iload7 C dX7_findLeast_303 (n := 305) rfl ?_
                                        refine kc_X7_140 C (ct_X7_taken M6 S kyi a w yi ya yb hMRM6 hs hCM6 hnyi hya hyb hin (by omega) (by omega)) sh_80 ⟨Nat.le_of_ble_eq_true rfl, Nat.le_of_ble_eq_true rfl⟩ ⟨Nat.zero_le _, Nat.zero_le _⟩ (Nat.le_of_ble_eq_true rfl) dX7_findLeast_305 (n := 308) rfl (fun r_305 M_305 h_305 => ?_)
                                        rw [h_305.1, h_305.2]
                                        refine kc_X7_143 C (ct_X7_min SH M6 (stV S kyi a w) (tkV S kyi a w) _ _ rfl rfl (by omega) (by omega)) ⟨Nat.le_of_ble_eq_true rfl, Nat.le_of_ble_eq_true rfl⟩ ⟨Nat.zero_le _, Nat.zero_le _⟩ (Nat.le_of_ble_eq_true rfl) dX7_findLeast_308 (n := 311) rfl (fun r_308 M_308 h_308 => ?_)
                                        rw [h_308.1, h_308.2]
                                        refine g_aload0 C dX7_findLeast_311 (n := 312) rfl ?_
                                        refine g_iload5 C dX7_findLeast_312 (n := 314) rfl ?_
                                        refine g_iload6 C dX7_findLeast_314 (n := 316) rfl ?_
                                        refine g_iload7 C dX7_findLeast_316 (n := 318) rfl ?_
                                        refine g_iconst C ic_0 dX7_findLeast_318 (n := 319) rfl ?_
                                        refine kc_X7_146 C (ct0_X7_becomes M6 S kyi a w yi ya yb hMRM6 hs hCM6 hnyi hya hyb hin (by omega) (by omega)) sh_80 ⟨Nat.le_of_ble_eq_true rfl, Nat.le_of_ble_eq_true rfl⟩ ⟨Nat.zero_le _, Nat.zero_le _⟩ (Nat.le_of_ble_eq_true rfl) dX7_findLeast_319 (n := 322) rfl (fun r_319 M_319 h_319 => ?_)
                                        rw [h_319.1, h_319.2]
                                        refine kc_X7_143 C (ct_X7_min SH M6 (min (stV S kyi a w) (tkV S kyi a w)) (b0V S kyi a w) _ _ rfl rfl (by omega) (by omega)) ⟨Nat.le_of_ble_eq_true rfl, Nat.le_of_ble_eq_true rfl⟩ ⟨Nat.zero_le _, Nat.zero_le _⟩ (Nat.le_of_ble_eq_true rfl) dX7_findLeast_322 (n := 325) rfl (fun r_322 M_322 h_322 => ?_)
                                        rw [h_322.1, h_322.2]
                                        have hxv : nI (min (min (stV S kyi a w) (tkV S kyi a w)) (b0V S kyi a w)) = nI (rwS S kyi a w) := by
                                          have := rw_s hs hin (show a ≤ 6 by omega) (show (w - 1) + 1 ≤ dmy (spr S) a by omega)
                                          rw [show w - 1 + 1 = w by omega] at this
                                          rw [this]
                                        exact J_325 _ hxv
                                      · have hin : kyi = spn S := (qeq hnyi rfl (by omega) (by omega)).mp c_278
                                        have hxv : (1000000 : Int32) = nI (rwS S kyi a w) := by
                                          unfold rwS; rw [if_neg (by omega)]; unfold raw0; rw [if_neg (by omega)]; rfl
                                        refine g_ldc C (v := 1000000) (gmem (i := 971) (by decide +kernel) (by decide +kernel)) dX7_findLeast_281 (n := 283) rfl ?_
                                        refine g_goto C dX7_findLeast_283 (t := 325) (by decide) ?_
                                        exact J_325 _ hxv
                                exact L_264 (dmy (spr S) a + 2) 1 1 M5 _ (by omega) rfl (by omega) (by omega) (fun d hd u hu h => hB5 d hd u hu (by omega)) hFM5 hPM5
                          exact L_254 8 0 0 M4 _ _ (by omega) nI_0.symm (by omega) (fun d hd u hu h => by
                            have h0 : u = 0 := by omega
                            subst h0
                            rw [hB4 d hd, hk0]; unfold f2V; rw [if_pos rfl, if_pos (Nat.zero_le _)]) hFM4 hPM4
                        · obtain ⟨kyq, hkyq, hnyq⟩ : ∃ kk, kk + 1 = q1 ∧ yq = nI kk := by
                            have e2 : yq = yq + 1 - 1 := by rw [Int32.add_sub_cancel]
                            by_cases h : q1 = 0
                            · rw [h] at hyq
                              rw [e2, hyq] at c_195
                              exact absurd (show (nI 0 - 1 : Int32) < 0 by decide) c_195
                            · exact ⟨q1 - 1, by omega, by rw [e2, hyq]; exact e_sub rfl (show (1 : Int32) = nI 1 from rfl) (by omega)⟩
                          have r1 : M4 90 (49 * kyi + (7 * kyq + 0)) = nI (upS (spw S) (rwS S kyi) kyq) := (hB4 kyq (by omega)).trans (by unfold f2V; rw [if_pos rfl, if_neg (by omega)])
                          have r2 : M4 90 (49 * kyi + (7 * (kyq + 1) + 0)) = nI (fin (spw S) (rwS S kyi) (kyq + 1) 0) := (hB4 (kyq + 1) (by omega)).trans (by unfold f2V; rw [if_pos rfl, if_pos (by omega)])
                          have b1 := up_b hs (i := kyi) (show kyq ≤ 6 by omega)
                          have b2 := fin_b hs (i := kyi) (show kyq + 1 ≤ 6 by omega) (Nat.zero_le 6)
                          refine g_aload0 C dX7_findLeast_198 (n := 199) rfl ?_
                          refine kg_X7_37 C sh_80 rfl dX7_findLeast_199 (n := 202) rfl ?_
                          refine g_iload5 C dX7_findLeast_202 (n := 204) rfl ?_
                          refine g_iload6 C dX7_findLeast_204 (n := 206) rfl ?_
                          refine g_iconst C ic_0 dX7_findLeast_206 (n := 207) rfl ?_
                          refine kc_X7_131 C (ct_X7_at SH M4 kyi kyq 0 _ _ _ hnyi hnyq nI_0.symm) ⟨Nat.le_of_ble_eq_true rfl, Nat.le_of_ble_eq_true rfl⟩ ⟨Nat.zero_le _, Nat.zero_le _⟩ (Nat.le_of_ble_eq_true rfl) dX7_findLeast_207 (n := 210) rfl (fun r_207 M_207 h_207 => ?_)
                          rw [h_207.1, h_207.2]
                          refine g_aload0 C dX7_findLeast_210 (n := 211) rfl ?_
                          refine kg_X7_37 C sh_80 rfl dX7_findLeast_211 (n := 214) rfl ?_
                          refine g_iload5 C dX7_findLeast_214 (n := 216) rfl ?_
                          refine g_iload6 C dX7_findLeast_216 (n := 218) rfl ?_
                          refine g_iconst C ic_0 dX7_findLeast_218 (n := 219) rfl ?_
                          refine kc_X7_131 C (ct_X7_at SH M4 kyi kyq 0 _ _ _ hnyi hnyq nI_0.symm) ⟨Nat.le_of_ble_eq_true rfl, Nat.le_of_ble_eq_true rfl⟩ ⟨Nat.zero_le _, Nat.zero_le _⟩ (Nat.le_of_ble_eq_true rfl) dX7_findLeast_219 (n := 222) rfl (fun r_219 M_219 h_219 => ?_)
                          rw [h_219.1, h_219.2]
                          refine g_iald C (j := 49 * kyi + (7 * kyq + 0)) sh_90 (by decide) (rfl) (by omega) dX7_findLeast_222 (n := 223) rfl ?_
                          refine g_iload4 C dX7_findLeast_223 (n := 225) rfl ?_
                          refine g_aload0 C dX7_findLeast_225 (n := 226) rfl ?_
                          refine kg_X7_37 C sh_80 rfl dX7_findLeast_226 (n := 229) rfl ?_
                          refine g_iload5 C dX7_findLeast_229 (n := 231) rfl ?_
                          refine g_iload6 C dX7_findLeast_231 (n := 233) rfl ?_
                          refine g_iconst C ic_1 dX7_findLeast_233 (n := 234) rfl ?_
                          refine g_iadd C dX7_findLeast_234 (n := 235) rfl ?_
                          refine g_iconst C ic_0 dX7_findLeast_235 (n := 236) rfl ?_
                          refine kc_X7_131 C (ct_X7_at SH M4 kyi (kyq + 1) 0 _ _ _ hnyi (by rw [hnyq, nI_1]) nI_0.symm) ⟨Nat.le_of_ble_eq_true rfl, Nat.le_of_ble_eq_true rfl⟩ ⟨Nat.zero_le _, Nat.zero_le _⟩ (Nat.le_of_ble_eq_true rfl) dX7_findLeast_236 (n := 239) rfl (fun r_236 M_236 h_236 => ?_)
                          rw [h_236.1, h_236.2]
                          refine g_iald C (j := 49 * kyi + (7 * (kyq + 1) + 0)) sh_90 (by decide) (rfl) (by omega) dX7_findLeast_239 (n := 240) rfl ?_
                          refine g_iadd C dX7_findLeast_240 (n := 241) rfl ?_
                          refine kc_X7_143 C (ct_X7_min SH M4 (upS (spw S) (rwS S kyi) kyq) (spw S 0 + fin (spw S) (rwS S kyi) (kyq + 1) 0) _ _ r1 (e_add rfl r2) (by omega) (by omega)) ⟨Nat.le_of_ble_eq_true rfl, Nat.le_of_ble_eq_true rfl⟩ ⟨Nat.zero_le _, Nat.zero_le _⟩ (Nat.le_of_ble_eq_true rfl) dX7_findLeast_241 (n := 244) rfl (fun r_241 M_241 h_241 => ?_)
                          rw [h_241.1, h_241.2]
                          refine g_iast C (j := 49 * kyi + (7 * kyq + 0)) sh_90 (by decide) (rfl) (by omega) dX7_findLeast_244 (n := 245) rfl (fun M9 e9 => ?_)
                          refine g_iinc6 C (inc_m1 _) dX7_findLeast_245 (n := 248) rfl ?_
                          refine g_goto C dX7_findLeast_248 (t := 193) (by decide) ?_
                          exact ih_193 kyq (yq + -1) M9 (by omega) (by rw [hnyq, Int32.add_assoc]; exact Int32.add_zero _) (by omega) (fun d hd => by
                            rw [e9, f2_s (show kyq < 6 by omega) d 0]
                            by_cases hdv : d = kyq
                            · rw [hdv, up2_at, if_pos ⟨rfl, rfl⟩]
                            · rw [if_neg (fun q => hdv q.1)]
                              refine (show up2 M4 90 _ _ 90 (49 * kyi + (7 * d + 0)) = M4 90 (49 * kyi + (7 * d + 0)) by simp [up2]; omega).trans ?_
                              rw [hkyq]; exact hB4 d hd) (fun a ha => by rw [e9, up2_ne _ _ ha]; exact hFM4 a ha) (fun p hp => by
                            rw [e9]
                            refine (show up2 M4 90 _ _ 90 p = M4 90 p by simp [up2]; omega).trans ?_
                            exact hPM4 p hp)
                    exact L_193 7 6 5 M3 (by omega) rfl (by omega) (fun d hd => by rw [hB3 d hd, show pp = 7 by omega, f12 S kyi hd 0]) hFM3 hPM3
                  · have w134 : ¬ 6 < pp := fun h => c_134 ((qlt (show (6 : Int32) = nI 6 from rfl) hyp (by decide) (by omega)).mpr h)
                    have q1 : M3 90 (49 * kyi + (7 * pp + 0)) = nI (rwS S kyi pp 0) := (hB3 pp (by omega)).trans (by unfold f1V; rw [if_pos rfl, if_neg (by omega)])
                    have q2 : M3 90 (49 * kyi + (7 * (pp - 1) + 0)) = nI (upS (spw S) (rwS S kyi) (pp - 1)) := (hB3 (pp - 1) (by omega)).trans (by unfold f1V; rw [if_pos rfl, if_pos (by omega)])
                    have b1 := rw_b hs (i := kyi) (show pp ≤ 6 by omega) (Nat.zero_le _)
                    have b2 := up_b hs (i := kyi) (show pp - 1 ≤ 6 by omega)
                    refine g_aload0 C dX7_findLeast_137 (n := 138) rfl ?_
                    refine kg_X7_37 C sh_80 rfl dX7_findLeast_138 (n := 141) rfl ?_
                    refine g_iload5 C dX7_findLeast_141 (n := 143) rfl ?_
                    refine g_iload6 C dX7_findLeast_143 (n := 145) rfl ?_
                    refine g_iconst C ic_0 dX7_findLeast_145 (n := 146) rfl ?_
                    refine kc_X7_131 C (ct_X7_at SH M3 kyi pp 0 _ _ _ hnyi hyp nI_0.symm) ⟨Nat.le_of_ble_eq_true rfl, Nat.le_of_ble_eq_true rfl⟩ ⟨Nat.zero_le _, Nat.zero_le _⟩ (Nat.le_of_ble_eq_true rfl) dX7_findLeast_146 (n := 149) rfl (fun r_146 M_146 h_146 => ?_)
                    rw [h_146.1, h_146.2]
                    refine g_aload0 C dX7_findLeast_149 (n := 150) rfl ?_
                    refine kg_X7_37 C sh_80 rfl dX7_findLeast_150 (n := 153) rfl ?_
                    refine g_iload5 C dX7_findLeast_153 (n := 155) rfl ?_
                    refine g_iload6 C dX7_findLeast_155 (n := 157) rfl ?_
                    refine g_iconst C ic_0 dX7_findLeast_157 (n := 158) rfl ?_
                    refine kc_X7_131 C (ct_X7_at SH M3 kyi pp 0 _ _ _ hnyi hyp nI_0.symm) ⟨Nat.le_of_ble_eq_true rfl, Nat.le_of_ble_eq_true rfl⟩ ⟨Nat.zero_le _, Nat.zero_le _⟩ (Nat.le_of_ble_eq_true rfl) dX7_findLeast_158 (n := 161) rfl (fun r_158 M_158 h_158 => ?_)
                    rw [h_158.1, h_158.2]
                    refine g_iald C (j := 49 * kyi + (7 * pp + 0)) sh_90 (by decide) (rfl) (by omega) dX7_findLeast_161 (n := 162) rfl ?_
                    refine g_iload4 C dX7_findLeast_162 (n := 164) rfl ?_
                    refine g_aload0 C dX7_findLeast_164 (n := 165) rfl ?_
                    refine kg_X7_37 C sh_80 rfl dX7_findLeast_165 (n := 168) rfl ?_
                    refine g_iload5 C dX7_findLeast_168 (n := 170) rfl ?_
                    refine g_iload6 C dX7_findLeast_170 (n := 172) rfl ?_
                    refine g_iconst C ic_1 dX7_findLeast_172 (n := 173) rfl ?_
                    refine g_isub C dX7_findLeast_173 (n := 174) rfl ?_
                    refine g_iconst C ic_0 dX7_findLeast_174 (n := 175) rfl ?_
                    refine kc_X7_131 C (ct_X7_at SH M3 kyi (pp - 1) 0 _ _ _ hnyi (e_sub hyp (show (1 : Int32) = nI 1 from rfl) hp1) nI_0.symm) ⟨Nat.le_of_ble_eq_true rfl, Nat.le_of_ble_eq_true rfl⟩ ⟨Nat.zero_le _, Nat.zero_le _⟩ (Nat.le_of_ble_eq_true rfl) dX7_findLeast_175 (n := 178) rfl (fun r_175 M_175 h_175 => ?_)
                    rw [h_175.1, h_175.2]
                    refine g_iald C (j := 49 * kyi + (7 * (pp - 1) + 0)) sh_90 (by decide) (rfl) (by omega) dX7_findLeast_178 (n := 179) rfl ?_
                    refine g_iadd C dX7_findLeast_179 (n := 180) rfl ?_
                    refine kc_X7_143 C (ct_X7_min SH M3 (rwS S kyi pp 0) (spw S 0 + upS (spw S) (rwS S kyi) (pp - 1)) _ _ q1 (e_add rfl q2) (by omega) (by omega)) ⟨Nat.le_of_ble_eq_true rfl, Nat.le_of_ble_eq_true rfl⟩ ⟨Nat.zero_le _, Nat.zero_le _⟩ (Nat.le_of_ble_eq_true rfl) dX7_findLeast_180 (n := 183) rfl (fun r_180 M_180 h_180 => ?_)
                    rw [h_180.1, h_180.2]
                    refine g_iast C (j := 49 * kyi + (7 * pp + 0)) sh_90 (by decide) (rfl) (by omega) dX7_findLeast_183 (n := 184) rfl (fun M9 e9 => ?_)
                    refine g_iinc6 C (inc_1 _) dX7_findLeast_184 (n := 187) rfl ?_
                    refine g_goto C dX7_findLeast_187 (t := 130) (by decide) ?_
                    exact ih_130 (pp + 1) (yp + 1) M9 (by omega) (by rw [hyp, nI_1]) (by omega) (by omega) (fun d hd => by
                      rw [e9, f1_s hp1 d 0]
                      by_cases hdv : d = pp
                      · rw [hdv, up2_at, if_pos ⟨rfl, rfl⟩]
                      · rw [if_neg (fun q => hdv q.1)]
                        refine (show up2 M3 90 _ _ 90 (49 * kyi + (7 * d + 0)) = M3 90 (49 * kyi + (7 * d + 0)) by simp [up2]; omega).trans ?_
                        exact hB3 d hd) (fun a ha => by rw [e9, up2_ne _ _ ha]; exact hFM3 a ha) (fun p hp => by
                      rw [e9]
                      refine (show up2 M3 90 _ _ 90 p = M3 90 p by simp [up2]; omega).trans ?_
                      exact hPM3 p hp)
              exact L_130 8 1 1 M2 (by omega) rfl (by omega) (by omega) (fun d hd => by rw [hB2 d (by omega)]; unfold f1V; rw [if_pos rfl]; by_cases hd0 : d < 1; (rw [if_pos hd0, show d = 0 by omega]; rfl); (rw [if_neg hd0])) hFM2 hPM2
            · have w32 : ¬ 6 < v := fun h => c_32 ((qlt (show (6 : Int32) = nI 6 from rfl) hyd (by decide) (by omega)).mpr h)
              have hMRM2 : MR M2 S := by unfold MR; rw [hFM2 82 (by omega)]; exact hMR
              have hCM2 : CT M2 90 S (kyi + 1) := CT_cong hC (fun p hp => hPM2 p (by omega))
              have J_104 : ∀ (xv : Int32), (xv = nI (rwS S kyi v 0)) → G p l e ({ frames := 4, cells := 0, slots := 0, locals := 91 }) s m ([.ref (z + 80), .int xt, .int xr] : List Value).toArray below meth c D cI cO z 9 (QM below D cI cO z ([.ref (z + 80), .int xt, .int xr] : List Value).toArray s SH (pI (fun r M1 => r = nI (cS S 0 0 0) ∧ CT M1 90 S 0 ∧ ∀ a, a ≠ 90 → M1 a = M a))) 0 0 SH M2 104 [some (.ref (z + 80)), some (.int xt), some (.int xr), some (.int (nI (spn S))), some (.int (nI (spw S 0))), some (.int yi), some (.int yd), o7, o8] [.int xv] := by
                intro xv hxv
                refine g_istore7 C dX7_findLeast_104 (n := 106) rfl ?_
                refine g_aload0 C dX7_findLeast_106 (n := 107) rfl ?_
                refine kg_X7_37 C sh_80 rfl dX7_findLeast_107 (n := 110) rfl ?_
                refine g_iload5 C dX7_findLeast_110 (n := 112) rfl ?_
                refine g_iload6 C dX7_findLeast_112 (n := 114) rfl ?_
                refine g_iconst C ic_0 dX7_findLeast_114 (n := 115) rfl ?_
                refine kc_X7_131 C (ct_X7_at SH M2 kyi v 0 _ _ _ hnyi hyd nI_0.symm) ⟨Nat.le_of_ble_eq_true rfl, Nat.le_of_ble_eq_true rfl⟩ ⟨Nat.zero_le _, Nat.zero_le _⟩ (Nat.le_of_ble_eq_true rfl) dX7_findLeast_115 (n := 118) rfl (fun r_115 M_115 h_115 => ?_)
                rw [h_115.1, h_115.2]
                refine g_iload7 C dX7_findLeast_118 (n := 120) rfl ?_
                refine g_iast C (j := 49 * kyi + (7 * v + 0)) sh_90 (by decide) (rfl) (by omega) dX7_findLeast_120 (n := 121) rfl (fun M9 e9 => ?_)
                refine g_iinc6 C (inc_1 _) dX7_findLeast_121 (n := 124) rfl ?_
                refine g_goto C dX7_findLeast_124 (t := 28) (by decide) ?_
                exact ih_28 (v + 1) (yd + 1) M9 _ (by omega) (by rw [hyd, nI_1]) (by omega) (fun d hd => by
                  rw [e9]
                  by_cases hdv : d = v
                  · rw [hdv, up2_at]; exact hxv
                  · refine (show up2 M2 90 _ _ 90 (49 * kyi + (7 * d + 0)) = M2 90 (49 * kyi + (7 * d + 0)) by simp [up2]; omega).trans ?_
                    exact hB2 d (by omega)) (fun a ha => by rw [e9, up2_ne _ _ ha]; exact hFM2 a ha) (fun p hp => by
                  rw [e9]
                  refine (show up2 M2 90 _ _ 90 p = M2 90 p by simp [up2]; omega).trans ?_
                  exact hPM2 p hp)
              refine g_iload5 C dX7_findLeast_35 (n := 37) rfl ?_
              refine g_iload3 C dX7_findLeast_37 (n := 38) rfl ?_
              refine g_icmp_ne C dX7_findLeast_38 (t := 55) (by decide) (n := 41) rfl (fun c_38 => ?_) (fun c_38 => ?_)
              · have hin : kyi < spn S := by
                  have : ¬ kyi = spn S := fun h => c_38 ((qeq hnyi rfl (by omega) (by omega)).mpr h)
                  omega
                have hbb := b_le hs hin (show v ≤ 6 by omega) (Nat.zero_le _)
                have hbs := st_le hs hin (show v ≤ 6 by omega) (Nat.zero_le _)
                refine g_aload0 C dX7_findLeast_55 (n := 56) rfl ?_
                refine g_iload5 C dX7_findLeast_56 (n := 58) rfl ?_
                refine g_iload6 C dX7_findLeast_58 (n := 60) rfl ?_
                refine g_iconst C ic_0 dX7_findLeast_60 (n := 61) rfl ?_
                refine g_iload1 C dX7_findLeast_61 (n := 62) rfl ?_
                refine g_iload2 C dX7_findLeast_62 (n := 63) rfl ?_
                refine kc_X7_136 C (ct_X7_stays M2 S kyi v 0 yi yd 0 xt xr hMRM2 hs hCM2 hnyi hyd nI_0.symm hin (by omega) (Nat.zero_le _) hxt hxr) sh_80 ⟨Nat.le_of_ble_eq_true rfl, Nat.le_of_ble_eq_true rfl⟩ ⟨Nat.zero_le _, Nat.zero_le _⟩ (Nat.le_of_ble_eq_true rfl) dX7_findLeast_63 (n := 66) rfl (fun r_63 M_63 h_63 => ?_)
                rw [h_63.1, h_63.2]
                refine g_aload0 C dX7_findLeast_66 (n := 67) rfl ?_
                refine g_iload5 C dX7_findLeast_67 (n := 69) rfl ?_
                refine g_iload6 C dX7_findLeast_69 (n := 71) rfl ?_
                refine g_iconst C ic_0 dX7_findLeast_71 (n := 72) rfl ?_
                refine kc_X7_140 C (ct_X7_taken M2 S kyi v 0 yi yd 0 hMRM2 hs hCM2 hnyi hyd nI_0.symm hin (by omega) (Nat.zero_le _)) sh_80 ⟨Nat.le_of_ble_eq_true rfl, Nat.le_of_ble_eq_true rfl⟩ ⟨Nat.zero_le _, Nat.zero_le _⟩ (Nat.le_of_ble_eq_true rfl) dX7_findLeast_72 (n := 75) rfl (fun r_72 M_72 h_72 => ?_)
                rw [h_72.1, h_72.2]
                refine kc_X7_143 C (ct_X7_min SH M2 (stV S kyi v 0) (tkV S kyi v 0) _ _ rfl rfl (by omega) (by omega)) ⟨Nat.le_of_ble_eq_true rfl, Nat.le_of_ble_eq_true rfl⟩ ⟨Nat.zero_le _, Nat.zero_le _⟩ (Nat.le_of_ble_eq_true rfl) dX7_findLeast_75 (n := 78) rfl (fun r_75 M_75 h_75 => ?_)
                rw [h_75.1, h_75.2]
                refine g_aload0 C dX7_findLeast_78 (n := 79) rfl ?_
                refine g_iload5 C dX7_findLeast_79 (n := 81) rfl ?_
                refine g_iload6 C dX7_findLeast_81 (n := 83) rfl ?_
                refine g_iconst C ic_0 dX7_findLeast_83 (n := 84) rfl ?_
                refine g_iconst C ic_1 dX7_findLeast_84 (n := 85) rfl ?_
                refine kc_X7_146 C (ctp_X7_becomes M2 S kyi v 0 yi yd 0 hMRM2 hs hCM2 hnyi hyd nI_0.symm hin (by omega) (Nat.zero_le _)) sh_80 ⟨Nat.le_of_ble_eq_true rfl, Nat.le_of_ble_eq_true rfl⟩ ⟨Nat.zero_le _, Nat.zero_le _⟩ (Nat.le_of_ble_eq_true rfl) dX7_findLeast_85 (n := 88) rfl (fun r_85 M_85 h_85 => ?_)
                rw [h_85.1, h_85.2]
                refine g_aload0 C dX7_findLeast_88 (n := 89) rfl ?_
                refine g_iload5 C dX7_findLeast_89 (n := 91) rfl ?_
                refine g_iload6 C dX7_findLeast_91 (n := 93) rfl ?_
                refine g_iconst C ic_0 dX7_findLeast_93 (n := 94) rfl ?_
                refine g_iconst C ic_m1 dX7_findLeast_94 (n := 95) rfl ?_
                refine kc_X7_146 C (ctm_X7_becomes M2 S kyi v 0 yi yd 0 hMRM2 hs hCM2 hnyi hyd nI_0.symm hin (by omega) (Nat.zero_le _)) sh_80 ⟨Nat.le_of_ble_eq_true rfl, Nat.le_of_ble_eq_true rfl⟩ ⟨Nat.zero_le _, Nat.zero_le _⟩ (Nat.le_of_ble_eq_true rfl) dX7_findLeast_95 (n := 98) rfl (fun r_95 M_95 h_95 => ?_)
                rw [h_95.1, h_95.2]
                refine kc_X7_143 C (ct_X7_min SH M2 (bpV S kyi v 0) (bmV S kyi v 0) _ _ rfl rfl (by omega) (by omega)) ⟨Nat.le_of_ble_eq_true rfl, Nat.le_of_ble_eq_true rfl⟩ ⟨Nat.zero_le _, Nat.zero_le _⟩ (Nat.le_of_ble_eq_true rfl) dX7_findLeast_98 (n := 101) rfl (fun r_98 M_98 h_98 => ?_)
                rw [h_98.1, h_98.2]
                refine kc_X7_143 C (ct_X7_min SH M2 (min (stV S kyi v 0) (tkV S kyi v 0)) (min (bpV S kyi v 0) (bmV S kyi v 0)) _ _ rfl rfl (by omega) (by omega)) ⟨Nat.le_of_ble_eq_true rfl, Nat.le_of_ble_eq_true rfl⟩ ⟨Nat.zero_le _, Nat.zero_le _⟩ (Nat.le_of_ble_eq_true rfl) dX7_findLeast_101 (n := 104) rfl (fun r_101 M_101 h_101 => ?_)
                rw [h_101.1, h_101.2]
                have hxv : nI (min (min (stV S kyi v 0) (tkV S kyi v 0)) (min (bpV S kyi v 0) (bmV S kyi v 0))) = nI (rwS S kyi v 0) := by rw [rw_0 hs hin (by omega)]
                exact J_104 _ hxv
              · have hin : kyi = spn S := (qeq hnyi rfl (by omega) (by omega)).mp c_38
                refine g_iload6 C dX7_findLeast_41 (n := 43) rfl ?_
                refine g_if_ne C dX7_findLeast_43 (t := 50) (by decide) (n := 46) rfl (fun c_43 => ?_) (fun c_43 => ?_)
                · have hxv : (1000000 : Int32) = nI (rwS S kyi v 0) := by
                    unfold rwS; rw [if_neg (by omega)]; unfold raw0; rw [if_neg (fun h => c_43 (by rw [hyd, h.1]; rfl))]; rfl
                  refine g_ldc C (v := 1000000) (gmem (i := 971) (by decide +kernel) (by decide +kernel)) dX7_findLeast_50 (n := 52) rfl ?_
                  refine g_goto C dX7_findLeast_52 (t := 104) (by decide) ?_
                  exact J_104 _ hxv
                · have hxv : (0 : Int32) = nI (rwS S kyi v 0) := by
                    have h9 := (qeq hyd nI_0.symm (by omega) (by decide)).mp c_43
                    unfold rwS; rw [if_neg (by omega)]; unfold raw0; rw [if_pos ⟨h9, rfl⟩]; rfl
                  refine g_iconst C ic_0 dX7_findLeast_46 (n := 47) rfl ?_
                  refine g_goto C dX7_findLeast_47 (t := 104) (by decide) ?_
                  exact J_104 _ hxv
        exact L_28 8 0 0 M1 _ (by omega) nI_0.symm (by omega) (fun d h => absurd h (Nat.not_lt_zero _)) hF (fun _ _ => rfl)
  exact L_20 (spn S + 2) (spn S + 1) _ M none none none (by omega) (nI_1 _) (by omega) (fun j h1 h2 => absurd h2 (by omega)) (fun _ _ => rfl)
set_option maxHeartbeats 4000000 in
set_option maxRecDepth 100000 in
theorem ct_X7_least {l : Launch} {D : va_G} {cI cO : ClassId} {z tP : Nat} {aK aV : Nat → Nat} (M : Mem) (A : Abs) (hA : absR M A) (hw : wfA A) : Cm l D cI cO z tP aK aV yX7_least cX7_least 1 (some .int) 5 119 [.ref (z + 80)] SH M (pI (fun r M1 => r = opLeast A ∧ absR M1 A ∧ fr79 M M1)) := by
  refine cm_intro (lv0 := [some (.ref (z + 80))]) (by decide) rfl (Nat.le_of_ble_eq_true rfl) rfl (fun p e s m below meth c C => ?_)
  have hwS := hw.2.1
  have hn120 := hwS.1
  have hsp := hA.2.2.1
  have hl6 := hw.2.2.1
  have htl := hw.1
  refine g_aload0 C dX7_least_0 (n := 1) rfl ?_
  refine g_aload0 C dX7_least_1 (n := 2) rfl ?_
  refine kg_X7_13 C sh_80 rfl dX7_least_2 (n := 5) rfl ?_
  refine g_bipush C bp_121 dX7_least_5 (n := 7) rfl ?_
  refine g_iald C (j := 121) sh_82 (by decide) (rfl) (by omega) dX7_least_7 (n := 8) rfl ?_
  refine g_aload0 C dX7_least_8 (n := 9) rfl ?_
  refine kg_X7_13 C sh_80 rfl dX7_least_9 (n := 12) rfl ?_
  refine g_bipush C bp_122 dX7_least_12 (n := 14) rfl ?_
  refine g_iald C (j := 122) sh_82 (by decide) (rfl) (by omega) dX7_least_14 (n := 15) rfl ?_
  refine kc_X7_152 C (ct_X7_findLeast M A.2.2.1 _ _ (MR_of (t := spt A.2.2.1) (r := spr A.2.2.1) hsp) hwS hsp.2.2.1 hsp.2.2.2.1) sh_80 ⟨Nat.le_of_ble_eq_true rfl, Nat.le_of_ble_eq_true rfl⟩ ⟨Nat.zero_le _, Nat.zero_le _⟩ (Nat.le_of_ble_eq_true rfl) dX7_least_15 (n := 18) rfl (fun r2 M2 h2 => ?_)
  have _u := h2.1
  refine r_I C dX7_least_18 ?_
  exact ⟨h2.1, absR_ls hA h2.2.2⟩
set_option maxHeartbeats 4000000 in
set_option maxRecDepth 100000 in
theorem ct_X7_would {l : Launch} {D : va_G} {cI cO : ClassId} {z tP : Nat} {aK aV : Nat → Nat} (M : Mem) (A : Abs) (x y : Int32) (hA : absR M A) (hw : wfA A) : Cm l D cI cO z tP aK aV yX7_would cX7_would 3 (some .int) 5 119 [.ref (z + 80), .int x, .int y] SH M (pI (fun r M1 => r = opWould A x y ∧ absR M1 A ∧ fr79 M M1)) := by
  refine cm_intro (lv0 := [some (.ref (z + 80)), some (.int x), some (.int y)]) (by decide) rfl (Nat.le_of_ble_eq_true rfl) rfl (fun p e s m below meth c C => ?_)
  have hwS := hw.2.1
  have hn120 := hwS.1
  have hsp := hA.2.2.1
  have hl6 := hw.2.2.1
  have htl := hw.1
  refine g_iload1 C dX7_would_0 (n := 1) rfl ?_
  refine g_i2l C dX7_would_1 (n := 2) rfl ?_
  refine g_lconst C (v := Int32.toInt64 0) (by decide) dX7_would_2 (n := 3) rfl ?_
  refine g_ldc2 C kl_X7_161 dX7_would_3 (n := 6) rfl ?_
  refine kc_X7_50 C (ct_X7_in SH M x 0 3) ⟨Nat.le_of_ble_eq_true rfl, Nat.le_of_ble_eq_true rfl⟩ ⟨Nat.zero_le _, Nat.zero_le _⟩ (Nat.le_of_ble_eq_true rfl) dX7_would_6 (n := 9) rfl (fun r_6 M_6 h_6 => ?_)
  rw [h_6.1, h_6.2]
  refine g_if_eq C dX7_would_9 (t := 33) (by decide) (n := 12) rfl (fun c_9 => ?_) (fun c_9 => ?_)
  · have hv : (-1 : Int32) = opWould A x y ∧ absR M A ∧ fr79 M M := ⟨(if_pos (Or.inl ((inn.mp c_9).elim Or.inl (fun h => Or.inr (le3.mp h))))).symm, hA, fun _ _ => rfl⟩
    refine g_iconst C ic_m1 dX7_would_33 (n := 34) rfl ?_
    refine r_I C dX7_would_34 ?_
    exact hv
  · have hb0 := inn'.mp c_9
    have hb4 : x < 4 := by
      by_cases h : x < 4
      · exact h
      · exact absurd (le3.mpr h) hb0.2
    obtain ⟨t, ht, hxt⟩ := ix_of (n := 4) hb0.1 hb4 (by decide)
    refine g_iload2 C dX7_would_12 (n := 13) rfl ?_
    refine g_i2l C dX7_would_13 (n := 14) rfl ?_
    refine g_lconst C (v := Int32.toInt64 0) (by decide) dX7_would_14 (n := 15) rfl ?_
    refine g_ldc2 C kl_X7_95 dX7_would_15 (n := 18) rfl ?_
    refine kc_X7_50 C (ct_X7_in SH M y 0 2) ⟨Nat.le_of_ble_eq_true rfl, Nat.le_of_ble_eq_true rfl⟩ ⟨Nat.zero_le _, Nat.zero_le _⟩ (Nat.le_of_ble_eq_true rfl) dX7_would_18 (n := 21) rfl (fun r_18 M_18 h_18 => ?_)
    rw [h_18.1, h_18.2]
    refine g_if_eq C dX7_would_21 (t := 33) (by decide) (n := 24) rfl (fun c_21 => ?_) (fun c_21 => ?_)
    · have hv : (-1 : Int32) = opWould A x y ∧ absR M A ∧ fr79 M M := ⟨(if_pos (Or.inr ((inn.mp c_21).elim Or.inl (fun h => Or.inr (le2b.mp h))))).symm, hA, fun _ _ => rfl⟩
      refine g_iconst C ic_m1 dX7_would_33 (n := 34) rfl ?_
      refine r_I C dX7_would_34 ?_
      exact hv
    · have hb1 := inn'.mp c_21
      have hb3 : y < 3 := by
        by_cases h : y < 3
        · exact h
        · exact absurd (le2b.mpr h) hb1.2
      obtain ⟨r0, hr, hyr⟩ := ix_of (n := 3) hb1.1 hb3 (by decide)
      have hno : ¬ ((x < 0 ∨ ¬ x < 4) ∨ (y < 0 ∨ ¬ y < 3)) := by
        rintro ((h | h) | (h | h))
        · exact hb0.1 h
        · exact h hb4
        · exact hb1.1 h
        · exact h hb3
      refine g_aload0 C dX7_would_24 (n := 25) rfl ?_
      refine g_iload1 C dX7_would_25 (n := 26) rfl ?_
      refine g_iload2 C dX7_would_26 (n := 27) rfl ?_
      refine kc_X7_152 C (ct_X7_findLeast M (sTR A.2.2.1 t r0) _ _ (MR_of hsp) (sTR_wf hwS ht hr) hxt hyr) sh_80 ⟨Nat.le_of_ble_eq_true rfl, Nat.le_of_ble_eq_true rfl⟩ ⟨Nat.zero_le _, Nat.zero_le _⟩ (Nat.le_of_ble_eq_true rfl) dX7_would_27 (n := 30) rfl (fun r2 M2 h2 => ?_)
      have hv : r2 = opWould A x y ∧ absR M2 A ∧ fr79 M M2 := by
        refine ⟨?_, absR_ls hA h2.2.2⟩
        unfold opWould; rw [if_neg hno, hxt, hyr, tn_nI (by omega), tn_nI (by omega)]; exact h2.1
      refine g_goto C dX7_would_30 (t := 34) (by decide) ?_
      refine r_I C dX7_would_34 ?_
      exact hv
