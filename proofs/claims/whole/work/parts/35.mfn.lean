/-! the reference finds what is mended -/
theorem arr_f {S : Spt} {i d u : Nat} {L : List Int32} {ch : Nat → Nat} (h : i < spn S ∨ 0 < d ∨ 0 < u) : arr S ((i, d, u), L, ch) = false := by
  cases ha : arr S ((i, d, u), L, ch) with
  | false => rfl
  | true =>
    unfold arr at ha
    simp at ha
    omega
theorem arr_t {S : Spt} {i d u : Nat} {L : List Int32} {ch : Nat → Nat} (h1 : ¬ i < spn S) (h2 : ¬ 0 < d) (h3 : ¬ 0 < u) : arr S ((i, d, u), L, ch) = true := by
  unfold arr; simp; omega
theorem lt0 {x : Int32} {a : Nat} (h : x = nI a) (ha : a < 2 ^ 31) : (0 : Int32) < x ↔ 0 < a := qlt (show (0 : Int32) = nI 0 from rfl) h (by decide) ha
theorem m1_s {x : Int32} {a : Nat} (h : x = nI a) (ha : 1 ≤ a) : x + -1 = nI (a - 1) := by rw [h, show a = (a - 1) + 1 by omega]; exact pk_m1 _
theorem absR_fm {M M1 : Mem} {A : Abs} (h : absR M A) (hf : ∀ a, a ≠ 80 → a ≠ 90 → a ≠ 91 → a ≠ 92 → M1 a = M a) (hg : ∀ j, j ≠ 14 → M1 80 j = M 80 j) : absR M1 A ∧ fr79 M M1 := by
  obtain ⟨h1, h2, h3, h4, h5⟩ := h
  exact ⟨⟨by rw [hg 0 (by omega)]; exact h1, fun j hj => by rw [hf 81 (by omega) (by omega) (by omega) (by omega)]; exact h2 j hj, by rw [hf 82 (by omega) (by omega) (by omega) (by omega)]; exact h3, by rw [hg 4 (by omega)]; exact h4, fun i T hi => by rw [hf 83 (by omega) (by omega) (by omega) (by omega)]; exact h5 i T hi⟩, fun a ha => hf a (by omega) (by omega) (by omega) (by omega)⟩

set_option maxHeartbeats 4000000 in
set_option maxRecDepth 100000 in
theorem ct_X7_findMended {l : Launch} {D : va_G} {cI cO : ClassId} {z tP : Nat} {aK aV : Nat → Nat} (M : Mem) (S : Spt) (hMR : MR M S) (hs : wfS S) (ht : M 82 121 = nI (spt S)) (hr : M 82 122 = nI (spr S)) : Cm l D cI cO z tP aK aV yX7_findMended cX7_findMended 11 none 5 119 [.ref (z + 80)] SH M (pV (fun M1 => CT M1 90 S 0 ∧ WM M1 (mst S 1200) ∧ (∀ a, a ≠ 80 → a ≠ 90 → a ≠ 91 → a ≠ 92 → M1 a = M a) ∧ ∀ j, j ≠ 14 → M1 80 j = M 80 j)) := by
  refine cm_intro (lv0 := [some (.ref (z + 80)), none, none, none, none, none, none, none, none, none, none]) (by decide) rfl (Nat.le_of_ble_eq_true rfl) rfl (fun p e s m below meth c C => ?_)
  have hn := hs.1
  have hF_ : FAR = 1000000 := rfl
  refine g_aload0 C dX7_findMended_0 (n := 1) rfl ?_
  refine kg_X7_13 C sh_80 rfl dX7_findMended_1 (n := 4) rfl ?_
  refine g_bipush C bp_121 dX7_findMended_4 (n := 6) rfl ?_
  refine g_iald C (j := 121) sh_82 (by decide) (rfl) (by omega) dX7_findMended_6 (n := 7) rfl ?_
  refine g_istore1 C dX7_findMended_7 (n := 8) rfl ?_
  refine g_aload0 C dX7_findMended_8 (n := 9) rfl ?_
  refine kg_X7_13 C sh_80 rfl dX7_findMended_9 (n := 12) rfl ?_
  refine g_bipush C bp_122 dX7_findMended_12 (n := 14) rfl ?_
  refine g_iald C (j := 122) sh_82 (by decide) (rfl) (by omega) dX7_findMended_14 (n := 15) rfl ?_
  refine g_istore2 C dX7_findMended_15 (n := 16) rfl ?_
  refine g_aload0 C dX7_findMended_16 (n := 17) rfl ?_
  refine g_iload1 C dX7_findMended_17 (n := 18) rfl ?_
  refine g_iload2 C dX7_findMended_18 (n := 19) rfl ?_
  refine kc_X7_152 C (ct_X7_findLeast M S _ _ hMR hs ht hr) sh_80 ⟨Nat.le_of_ble_eq_true rfl, Nat.le_of_ble_eq_true rfl⟩ ⟨Nat.zero_le _, Nat.zero_le _⟩ (Nat.le_of_ble_eq_true rfl) dX7_findMended_19 (n := 22) rfl (fun r2 M2 h2 => ?_)
  obtain ⟨_, hC2, hF2⟩ := h2
  have hMR2 : MR M2 S := by unfold MR; rw [hF2 82 (by omega)]; exact hMR
  refine g_pop C rfl dX7_findMended_22 (n := 23) rfl ?_
  refine g_aload0 C dX7_findMended_23 (n := 24) rfl ?_
  refine g_iconst C ic_0 dX7_findMended_24 (n := 25) rfl ?_
  refine kp_X7_149 C sh_80 rfl dX7_findMended_25 (n := 28) rfl (fun Ma ea => ?_)
  refine g_aload0 C dX7_findMended_28 (n := 29) rfl ?_
  refine kg_X7_43 C sh_80 rfl dX7_findMended_29 (n := 32) rfl ?_
  refine g_iconst C ic_0 dX7_findMended_32 (n := 33) rfl ?_
  refine g_iconst C ic_0 dX7_findMended_33 (n := 34) rfl ?_
  refine g_iast C (j := 0) sh_92 (by decide) (nI_0.symm) (by omega) dX7_findMended_34 (n := 35) rfl (fun Mb eb => ?_)
  refine g_aload0 C dX7_findMended_35 (n := 36) rfl ?_
  refine kg_X7_43 C sh_80 rfl dX7_findMended_36 (n := 39) rfl ?_
  refine g_iconst C ic_1 dX7_findMended_39 (n := 40) rfl ?_
  refine g_iconst C ic_0 dX7_findMended_40 (n := 41) rfl ?_
  refine g_iast C (j := 1) sh_92 (by decide) (rfl) (by omega) dX7_findMended_41 (n := 42) rfl (fun Mc ec => ?_)
  refine g_aload0 C dX7_findMended_42 (n := 43) rfl ?_
  refine kg_X7_43 C sh_80 rfl dX7_findMended_43 (n := 46) rfl ?_
  refine g_iconst C ic_2 dX7_findMended_46 (n := 47) rfl ?_
  refine g_iconst C ic_0 dX7_findMended_47 (n := 48) rfl ?_
  refine g_iast C (j := 2) sh_92 (by decide) (rfl) (by omega) dX7_findMended_48 (n := 49) rfl (fun Md ed => ?_)
  have fd : frM M2 Md := ⟨fun a a1 a2 a3 => by rw [ed, up2_ne _ _ a3, ec, up2_ne _ _ a3, eb, up2_ne _ _ a3, ea, up2_ne _ _ a1], fun j hj => by rw [ed, up2_ne _ _ (by omega), ec, up2_ne _ _ (by omega), eb, up2_ne _ _ (by omega), ea]; simp [up2, hj]⟩
  have hWd : WM Md (mst S 0) := by
    refine ⟨by rw [ed, up2_ne _ _ (by omega), ec, up2_ne _ _ (by omega), eb, up2_ne _ _ (by omega), ea, up2_at]; rfl, fun j q hq => absurd hq (by show ¬ ([] : List Int32)[j]? = some q; simp), fun j hj => ?_⟩
    show Md 92 j = nI 0
    rw [ed, ec, eb]
    rcases (show j = 0 ∨ j = 1 ∨ j = 2 by omega) with rfl | rfl | rfl <;> simp [up2] <;> rfl
  refine g_iconst C ic_0 dX7_findMended_49 (n := 50) rfl ?_
  refine g_istore3 C dX7_findMended_50 (n := 51) rfl ?_
  refine g_iconst C ic_0 dX7_findMended_51 (n := 52) rfl ?_
  refine g_istore4 C dX7_findMended_52 (n := 54) rfl ?_
  refine g_iconst C ic_0 dX7_findMended_54 (n := 55) rfl ?_
  refine g_istore5 C dX7_findMended_55 (n := 57) rfl ?_
  have L_57 : ∀ (fu : Nat) (k : Nat) (yi yd yu : Int32) (M1 : Mem) (o6 o7 o8 o9 oa : Option Value), mu S (mst S k) < fu → (yi = nI (mst S k).1.1) → (yd = nI (mst S k).1.2.1) → (yu = nI (mst S k).1.2.2) → (WM M1 (mst S k)) → (frM M2 M1) → G p l e ({ frames := 5, cells := 0, slots := 0, locals := 119 }) s m ([.ref (z + 80)] : List Value).toArray below meth c D cI cO z 11 (QM below D cI cO z ([.ref (z + 80)] : List Value).toArray s SH (pV (fun M1 => CT M1 90 S 0 ∧ WM M1 (mst S 1200) ∧ (∀ a, a ≠ 80 → a ≠ 90 → a ≠ 91 → a ≠ 92 → M1 a = M a) ∧ ∀ j, j ≠ 14 → M1 80 j = M 80 j))) 0 0 SH M1 57 [some (.ref (z + 80)), some (.int (M 82 121)), some (.int (M 82 122)), some (.int yi), some (.int yd), some (.int yu), o6, o7, o8, o9, oa] [] := by
    intro fu_57
    induction fu_57 with
    | zero => intro k yi yd yu M1 o6 o7 o8 o9 oa hfu; exact absurd hfu (Nat.not_lt_zero _)
    | succ fu_57 ih_57 =>
      intro k yi yd yu M1 o6 o7 o8 o9 oa hfu_57 hyi hyd hyu hW0 hF
      obtain ⟨hV, hV2, _, _⟩ := mst_ok hs k
      obtain ⟨x0, hx0⟩ : ∃ x0, mst S k = x0 := ⟨_, rfl⟩
      obtain ⟨⟨i, d, u⟩, L, ch⟩ := x0
      rw [hx0] at hV hV2 hyi hyd hyu hW0 hfu_57
      replace hyi : yi = nI i := hyi
      replace hyd : yd = nI d := hyd
      replace hyu : yu = nI u := hyu
      have hi : i ≤ spn S := hV.1
      have hd : d ≤ 6 := hV.2.1
      have hu : u ≤ dmy (spr S) d := hV.2.2
      have hdu := dmy_le (spr S) d
      have hMR1 : MR M1 S := by unfold MR; rw [hF.1 82 (by omega) (by omega) (by omega)]; exact hMR2
      have hC1 : CT M1 90 S 0 := CT_cong hC2 (fun p _ => by rw [hF.1 90 (by omega) (by omega) (by omega)])
      have hC1i : CT M1 90 S (i + 1) := fun j _ h2 => hC1 j (Nat.zero_le _) h2
      have hcl := cS_lt hs hi hd hu
      have J_78 : (arr S ((i, d, u), L, ch) = false) → G p l e ({ frames := 5, cells := 0, slots := 0, locals := 119 }) s m ([.ref (z + 80)] : List Value).toArray below meth c D cI cO z 11 (QM below D cI cO z ([.ref (z + 80)] : List Value).toArray s SH (pV (fun M1 => CT M1 90 S 0 ∧ WM M1 (mst S 1200) ∧ (∀ a, a ≠ 80 → a ≠ 90 → a ≠ 91 → a ≠ 92 → M1 a = M a) ∧ ∀ j, j ≠ 14 → M1 80 j = M 80 j))) 0 0 SH M1 78 [some (.ref (z + 80)), some (.int (M 82 121)), some (.int (M 82 122)), some (.int yi), some (.int yd), some (.int yu), o6, o7, o8, o9, oa] [] := by
        intro hna
        have hms : mst S (k + 1) = mvS S ((i, d, u), L, ch) := by rw [mst_s, hx0, hna]; rfl
        have hdec : mu S (mst S (k + 1)) < mu S ((i, d, u), L, ch) := by rw [hms]; exact (mv_P hs hV hna).2.1
        have hL : L.length < 1200 := by
          have h9 : L.length + mu S ((i, d, u), L, ch) ≤ 1200 := hV2
          omega
        have m1 : M1 90 (49 * i + (7 * d + u)) = nI (cS S i d u) := hC1 i (Nat.zero_le _) hi d hd u hu
        have J_485 : ∀ (M9 : Mem) (y3 y4 y5 : Int32) (p6 p7 p8 p9 pa : Option Value), (y3 = nI (mst S (k + 1)).1.1) → (y4 = nI (mst S (k + 1)).1.2.1) → (y5 = nI (mst S (k + 1)).1.2.2) → (WM M9 (mst S (k + 1))) → (frM M2 M9) → G p l e ({ frames := 5, cells := 0, slots := 0, locals := 119 }) s m ([.ref (z + 80)] : List Value).toArray below meth c D cI cO z 11 (QM below D cI cO z ([.ref (z + 80)] : List Value).toArray s SH (pV (fun M1 => CT M1 90 S 0 ∧ WM M1 (mst S 1200) ∧ (∀ a, a ≠ 80 → a ≠ 90 → a ≠ 91 → a ≠ 92 → M1 a = M a) ∧ ∀ j, j ≠ 14 → M1 80 j = M 80 j))) 0 0 SH M9 485 [some (.ref (z + 80)), some (.int (M 82 121)), some (.int (M 82 122)), some (.int y3), some (.int y4), some (.int y5), p6, p7, p8, p9, pa] [] := by
          intro M9 y3 y4 y5 p6 p7 p8 p9 pa g3 g4 g5 gW gF
          refine g_goto C dX7_findMended_485 (t := 57) (by decide) ?_
          exact ih_57 (k + 1) y3 y4 y5 M9 _ _ _ _ _ (by omega) g3 g4 g5 gW gF
        have J_111 : ∀ (xs : Int32), (u ≠ 0 → xs = duS S d u) → G p l e ({ frames := 5, cells := 0, slots := 0, locals := 119 }) s m ([.ref (z + 80)] : List Value).toArray below meth c D cI cO z 11 (QM below D cI cO z ([.ref (z + 80)] : List Value).toArray s SH (pV (fun M1 => CT M1 90 S 0 ∧ WM M1 (mst S 1200) ∧ (∀ a, a ≠ 80 → a ≠ 90 → a ≠ 91 → a ≠ 92 → M1 a = M a) ∧ ∀ j, j ≠ 14 → M1 80 j = M 80 j))) 0 0 SH M1 111 [some (.ref (z + 80)), some (.int (M 82 121)), some (.int (M 82 122)), some (.int yi), some (.int yd), some (.int yu), some (.int (nI (cS S i d u))), o7, o8, o9, oa] [.int xs] := by
          intro xs hxs
          have J_129 : ∀ (be : Bool) (xb : Int32), (xb = bI be) → (be = true ↔ i = spn S) → G p l e ({ frames := 5, cells := 0, slots := 0, locals := 119 }) s m ([.ref (z + 80)] : List Value).toArray below meth c D cI cO z 11 (QM below D cI cO z ([.ref (z + 80)] : List Value).toArray s SH (pV (fun M1 => CT M1 90 S 0 ∧ WM M1 (mst S 1200) ∧ (∀ a, a ≠ 80 → a ≠ 90 → a ≠ 91 → a ≠ 92 → M1 a = M a) ∧ ∀ j, j ≠ 14 → M1 80 j = M 80 j))) 0 0 SH M1 129 [some (.ref (z + 80)), some (.int (M 82 121)), some (.int (M 82 122)), some (.int yi), some (.int yd), some (.int yu), some (.int (nI (cS S i d u))), some (.int xs), o8, o9, oa] [.int xb] := by
            intro be xb hxb hbe
            rw [hxb]
            have J_471 : (noW S i d u) → (u = 0) → (¬ (d < 6 ∧ spw S 0 + cS S i (d + 1) 0 = cS S i d 0)) → G p l e ({ frames := 5, cells := 0, slots := 0, locals := 119 }) s m ([.ref (z + 80)] : List Value).toArray below meth c D cI cO z 11 (QM below D cI cO z ([.ref (z + 80)] : List Value).toArray s SH (pV (fun M1 => CT M1 90 S 0 ∧ WM M1 (mst S 1200) ∧ (∀ a, a ≠ 80 → a ≠ 90 → a ≠ 91 → a ≠ 92 → M1 a = M a) ∧ ∀ j, j ≠ 14 → M1 80 j = M 80 j))) 0 0 SH M1 471 [some (.ref (z + 80)), some (.int (M 82 121)), some (.int (M 82 122)), some (.int yi), some (.int yd), some (.int yu), some (.int (nI (cS S i d u))), some (.int xs), some (.int (bI be)), o9, oa] [] := by
              intro hnw hu0 hcc
              obtain ⟨hd9, hmv⟩ : 1 ≤ d ∧ mvS S ((i, d, u), L, ch) = ((i, d - 1, 0), L ++ [cls (spt S) d], fun j => ch j + (if j = 0 then 1 else 0)) := by
                rw [hu0] at hnw hna ⊢
                exact mm_c (L := L) (ch := ch) hs hi hd hnw hna hcc
              refine g_aload0 C dX7_findMended_471 (n := 472) rfl ?_
              refine g_iload1 C dX7_findMended_472 (n := 473) rfl ?_
              refine g_iload4 C dX7_findMended_473 (n := 475) rfl ?_
              refine kc_X7_119 C (ct_X7_closer SH M1 (spt S) d _ _ ht hyd hs.2.2.1 (by omega)) ⟨Nat.le_of_ble_eq_true rfl, Nat.le_of_ble_eq_true rfl⟩ ⟨Nat.zero_le _, Nat.zero_le _⟩ (Nat.le_of_ble_eq_true rfl) dX7_findMended_475 (n := 478) rfl (fun r_475 M_475 h_475 => ?_)
              rw [h_475.1, h_475.2]
              refine g_iconst C ic_0 dX7_findMended_478 (n := 479) rfl ?_
              refine kc_X7_155 C (ct_X7_puts M1 L.length 0 _ _ hW0.1 (by omega) nI_0.symm (by decide)) sh_80 ⟨Nat.le_of_ble_eq_true rfl, Nat.le_of_ble_eq_true rfl⟩ ⟨Nat.zero_le _, Nat.zero_le _⟩ (Nat.le_of_ble_eq_true rfl) dX7_findMended_479 (n := 482) rfl (fun M3 h3 => ?_)
              have hmk : mst S (k + 1) = ((i, d - 1, 0), L ++ [cls (spt S) d], (fun j => ch j + (if j = 0 then 1 else 0))) := hms.trans hmv
              have hz3 : yi = nI (mst S (k + 1)).1.1 := by rw [hmk]; exact hyi
              have hz4 : yd + -1 = nI (mst S (k + 1)).1.2.1 := by rw [hmk]; exact (m1_s hyd hd9)
              have hz5 : yu = nI (mst S (k + 1)).1.2.2 := by rw [hmk]; exact (by rw [hyu, hu0])
              have hzW : WM M3 (mst S (k + 1)) := by rw [hmk]; exact WM_p hW0 h3
              have hzF : frM M2 M3 := frM_t hF h3.2.2.2
              refine g_iinc4 C (inc_m1 _) dX7_findMended_482 (n := 485) rfl ?_
              exact J_485 _ _ _ _ _ _ _ _ _ hz3 hz4 hz5 hzW hzF
            have J_402 : (i < spn S → stV S i d u ≠ cS S i d u) → (i < spn S → b0V S i d u ≠ cS S i d u) → (i < spn S → bpV S i d u ≠ cS S i d u) → (i < spn S → bmV S i d u ≠ cS S i d u) → (i < spn S → tkV S i d u ≠ cS S i d u) → G p l e ({ frames := 5, cells := 0, slots := 0, locals := 119 }) s m ([.ref (z + 80)] : List Value).toArray below meth c D cI cO z 11 (QM below D cI cO z ([.ref (z + 80)] : List Value).toArray s SH (pV (fun M1 => CT M1 90 S 0 ∧ WM M1 (mst S 1200) ∧ (∀ a, a ≠ 80 → a ≠ 90 → a ≠ 91 → a ≠ 92 → M1 a = M a) ∧ ∀ j, j ≠ 14 → M1 80 j = M 80 j))) 0 0 SH M1 402 [some (.ref (z + 80)), some (.int (M 82 121)), some (.int (M 82 122)), some (.int yi), some (.int yd), some (.int yu), some (.int (nI (cS S i d u))), some (.int xs), some (.int (bI be)), o9, oa] [] := by
              intro hA hB hP hM hT
              have hnw : noW S i d u := fun q => ⟨hA q, hB q, hP q, hM q, hT q⟩
              refine g_iload5 C dX7_findMended_402 (n := 404) rfl ?_
              refine g_if_le C dX7_findMended_404 (t := 420) (by decide) (n := 407) rfl (fun c_404 => ?_) (fun c_404 => ?_)
              · have hu0 : u = 0 := by
                  have : ¬ 0 < u := fun h => c_404 ((lt0 hyu (by omega)).mpr h)
                  omega
                refine g_iload4 C dX7_findMended_420 (n := 422) rfl ?_
                refine g_bipush C bp_6 dX7_findMended_422 (n := 424) rfl ?_
                refine g_icmp_ge C dX7_findMended_424 (t := 471) (by decide) (n := 427) rfl (fun c_424 => ?_) (fun c_424 => ?_)
                · have hcc : ¬ (d < 6 ∧ spw S 0 + cS S i (d + 1) 0 = cS S i d 0) := fun h => c_424 ((qlt hyd (show (6 : Int32) = nI 6 from rfl) (by omega) (by decide)).mpr h.1)
                  exact J_471 hnw hu0 hcc
                · have hd9 : d < 6 := (qlt hyd (show (6 : Int32) = nI 6 from rfl) (by omega) (by decide)).mp c_424
                  have m2 : M1 90 (49 * i + (7 * (d + 1) + 0)) = nI (cS S i (d + 1) 0) := hC1 i (Nat.zero_le _) hi (d + 1) (by omega) 0 (Nat.zero_le _)
                  have hcl2 := cS_lt hs hi (show d + 1 ≤ 6 by omega) (Nat.zero_le _)
                  have hw9 := (hs.2.2.2.2 0 (by decide)).2
                  refine g_aload0 C dX7_findMended_427 (n := 428) rfl ?_
                  refine kg_X7_13 C sh_80 rfl dX7_findMended_428 (n := 431) rfl ?_
                  refine g_bipush C bp_123 dX7_findMended_431 (n := 433) rfl ?_
                  refine g_iald C (j := 123) sh_82 (by decide) (rfl) (by omega) dX7_findMended_433 (n := 434) rfl ?_
                  refine g_aload0 C dX7_findMended_434 (n := 435) rfl ?_
                  refine kg_X7_37 C sh_80 rfl dX7_findMended_435 (n := 438) rfl ?_
                  refine g_iload3 C dX7_findMended_438 (n := 439) rfl ?_
                  refine g_iload4 C dX7_findMended_439 (n := 441) rfl ?_
                  refine g_iconst C ic_1 dX7_findMended_441 (n := 442) rfl ?_
                  refine g_iadd C dX7_findMended_442 (n := 443) rfl ?_
                  refine g_iconst C ic_0 dX7_findMended_443 (n := 444) rfl ?_
                  refine kc_X7_131 C (ct_X7_at SH M1 i (d + 1) 0 _ _ _ hyi (by rw [hyd, nI_1]) nI_0.symm) ⟨Nat.le_of_ble_eq_true rfl, Nat.le_of_ble_eq_true rfl⟩ ⟨Nat.zero_le _, Nat.zero_le _⟩ (Nat.le_of_ble_eq_true rfl) dX7_findMended_444 (n := 447) rfl (fun r_444 M_444 h_444 => ?_)
                  rw [h_444.1, h_444.2]
                  refine g_iald C (j := 49 * i + (7 * (d + 1) + 0)) sh_90 (by decide) (rfl) (by omega) dX7_findMended_447 (n := 448) rfl ?_
                  refine g_iadd C dX7_findMended_448 (n := 449) rfl ?_
                  refine g_iload6 C dX7_findMended_449 (n := 451) rfl ?_
                  refine g_icmp_ne C dX7_findMended_451 (t := 471) (by decide) (n := 454) rfl (fun c_451 => ?_) (fun c_451 => ?_)
                  · have hcc : ¬ (d < 6 ∧ spw S 0 + cS S i (d + 1) 0 = cS S i d 0) := fun h => c_451 (by rw [show M1 82 123 + M1 90 (49 * i + (7 * (d + 1) + 0)) = nI (spw S 0 + cS S i (d + 1) 0) from e_add (hMR1.2.2 0 (by decide)) m2, h.2, hu0])
                    exact J_471 hnw hu0 hcc
                  · have eV : spw S 0 + cS S i (d + 1) 0 = cS S i d 0 := by
                      have q := (qeq (e_add (hMR1.2.2 0 (by decide)) m2) rfl (by omega) (by omega)).mp c_451
                      rw [hu0] at q; exact q
                    have hmv : mvS S ((i, d, u), L, ch) = ((i, d + 1, 0), L ++ [opn (spt S) d], fun j => ch j + (if j = 0 then 1 else 0)) := by
                      rw [hu0] at hnw ⊢
                      exact mm_o (L := L) (ch := ch) hs hnw hd9 eV
                    refine g_aload0 C dX7_findMended_454 (n := 455) rfl ?_
                    refine g_iload1 C dX7_findMended_455 (n := 456) rfl ?_
                    refine g_iload4 C dX7_findMended_456 (n := 458) rfl ?_
                    refine kc_X7_62 C (ct_X7_opener SH M1 (spt S) d _ _ ht hyd hs.2.2.1 (by omega)) ⟨Nat.le_of_ble_eq_true rfl, Nat.le_of_ble_eq_true rfl⟩ ⟨Nat.zero_le _, Nat.zero_le _⟩ (Nat.le_of_ble_eq_true rfl) dX7_findMended_458 (n := 461) rfl (fun r_458 M_458 h_458 => ?_)
                    rw [h_458.1, h_458.2]
                    refine g_iconst C ic_0 dX7_findMended_461 (n := 462) rfl ?_
                    refine kc_X7_155 C (ct_X7_puts M1 L.length 0 _ _ hW0.1 (by omega) nI_0.symm (by decide)) sh_80 ⟨Nat.le_of_ble_eq_true rfl, Nat.le_of_ble_eq_true rfl⟩ ⟨Nat.zero_le _, Nat.zero_le _⟩ (Nat.le_of_ble_eq_true rfl) dX7_findMended_462 (n := 465) rfl (fun M3 h3 => ?_)
                    have hmk : mst S (k + 1) = ((i, d + 1, 0), L ++ [opn (spt S) d], (fun j => ch j + (if j = 0 then 1 else 0))) := hms.trans hmv
                    have hz3 : yi = nI (mst S (k + 1)).1.1 := by rw [hmk]; exact hyi
                    have hz4 : yd + 1 = nI (mst S (k + 1)).1.2.1 := by rw [hmk]; exact (by rw [hyd]; exact nI_1 _)
                    have hz5 : yu = nI (mst S (k + 1)).1.2.2 := by rw [hmk]; exact (by rw [hyu, hu0])
                    have hzW : WM M3 (mst S (k + 1)) := by rw [hmk]; exact WM_p hW0 h3
                    have hzF : frM M2 M3 := frM_t hF h3.2.2.2
                    refine g_iinc4 C (inc_1 _) dX7_findMended_465 (n := 468) rfl ?_
                    refine g_goto C dX7_findMended_468 (t := 485) (by decide) ?_
                    exact J_485 _ _ _ _ _ _ _ _ _ hz3 hz4 hz5 hzW hzF
              · have hu9 : u ≠ 0 := by have := (lt0 hyu (by omega)).mp c_404; omega
                have hmv := mm_u (L := L) (ch := ch) hs hi hd hu hnw hna hu9
                rw [← hxs hu9] at hmv
                refine g_aload0 C dX7_findMended_407 (n := 408) rfl ?_
                refine g_iload7 C dX7_findMended_408 (n := 410) rfl ?_
                refine g_iconst C ic_0 dX7_findMended_410 (n := 411) rfl ?_
                refine kc_X7_155 C (ct_X7_puts M1 L.length 0 _ _ hW0.1 (by omega) nI_0.symm (by decide)) sh_80 ⟨Nat.le_of_ble_eq_true rfl, Nat.le_of_ble_eq_true rfl⟩ ⟨Nat.zero_le _, Nat.zero_le _⟩ (Nat.le_of_ble_eq_true rfl) dX7_findMended_411 (n := 414) rfl (fun M3 h3 => ?_)
                have hmk : mst S (k + 1) = ((i, d, u - 1), L ++ [xs], (fun j => ch j + (if j = 0 then 1 else 0))) := hms.trans hmv
                have hz3 : yi = nI (mst S (k + 1)).1.1 := by rw [hmk]; exact hyi
                have hz4 : yd = nI (mst S (k + 1)).1.2.1 := by rw [hmk]; exact hyd
                have hz5 : yu + -1 = nI (mst S (k + 1)).1.2.2 := by rw [hmk]; exact (m1_s hyu (by omega))
                have hzW : WM M3 (mst S (k + 1)) := by rw [hmk]; exact WM_p hW0 h3
                have hzF : frM M2 M3 := frM_t hF h3.2.2.2
                refine g_iinc5 C (inc_m1 _) dX7_findMended_414 (n := 417) rfl ?_
                refine g_goto C dX7_findMended_417 (t := 485) (by decide) ?_
                exact J_485 _ _ _ _ _ _ _ _ _ hz3 hz4 hz5 hzW hzF
            have J_367 : (i < spn S → stV S i d u ≠ cS S i d u) → (i < spn S → b0V S i d u ≠ cS S i d u) → (i < spn S → bpV S i d u ≠ cS S i d u) → (i < spn S → bmV S i d u ≠ cS S i d u) → G p l e ({ frames := 5, cells := 0, slots := 0, locals := 119 }) s m ([.ref (z + 80)] : List Value).toArray below meth c D cI cO z 11 (QM below D cI cO z ([.ref (z + 80)] : List Value).toArray s SH (pV (fun M1 => CT M1 90 S 0 ∧ WM M1 (mst S 1200) ∧ (∀ a, a ≠ 80 → a ≠ 90 → a ≠ 91 → a ≠ 92 → M1 a = M a) ∧ ∀ j, j ≠ 14 → M1 80 j = M 80 j))) 0 0 SH M1 367 [some (.ref (z + 80)), some (.int (M 82 121)), some (.int (M 82 122)), some (.int yi), some (.int yd), some (.int yu), some (.int (nI (cS S i d u))), some (.int xs), some (.int (bI be)), o9, oa] [] := by
              intro hA hB hP hM
              refine g_iload8 C dX7_findMended_367 (n := 369) rfl ?_
              refine g_if_ne C dX7_findMended_369 (t := 402) (by decide) (n := 372) rfl (fun c_369 => ?_) (fun c_369 => ?_)
              · have hT : i < spn S → tkV S i d u ≠ cS S i d u := fun q => absurd (hbe.mp (bI_n.mp c_369)) (by omega)
                exact J_402 hA hB hP hM hT
              · have hin : i < spn S := by
                  have q : ¬ i = spn S := fun q => by have := hbe.mpr q; rw [bI_0.mp c_369] at this; cases this
                  omega
                have hbb := b_le hs hin hd hu
                have hbs := st_le hs hin hd hu
                have hMS : M1 82 i = spg S i := hMR1.2.1 i hin
                refine g_aload0 C dX7_findMended_372 (n := 373) rfl ?_
                refine g_iload3 C dX7_findMended_373 (n := 374) rfl ?_
                refine g_iload4 C dX7_findMended_374 (n := 376) rfl ?_
                refine g_iload5 C dX7_findMended_376 (n := 378) rfl ?_
                refine kc_X7_140 C (ct_X7_taken M1 S i d u _ _ _ hMR1 hs hC1i hyi hyd hyu hin hd hu) sh_80 ⟨Nat.le_of_ble_eq_true rfl, Nat.le_of_ble_eq_true rfl⟩ ⟨Nat.zero_le _, Nat.zero_le _⟩ (Nat.le_of_ble_eq_true rfl) dX7_findMended_378 (n := 381) rfl (fun r_378 M_378 h_378 => ?_)
                rw [h_378.1, h_378.2]
                refine g_iload6 C dX7_findMended_381 (n := 383) rfl ?_
                refine g_icmp_ne C dX7_findMended_383 (t := 402) (by decide) (n := 386) rfl (fun c_383 => ?_) (fun c_383 => ?_)
                · have hT : i < spn S → tkV S i d u ≠ cS S i d u := fun _ q => c_383 (by rw [q])
                  exact J_402 hA hB hP hM hT
                · have eV : tkV S i d u = cS S i d u := (nI_eq (by omega) (by omega)).mp c_383
                  have hmv := mm_t (L := L) (ch := ch) hs hin hd hu (hA hin) (hB hin) (hP hin) (hM hin) eV
                  refine g_aload0 C dX7_findMended_386 (n := 387) rfl ?_
                  refine kg_X7_43 C sh_80 rfl dX7_findMended_387 (n := 390) rfl ?_
                  refine g_iconst C ic_1 dX7_findMended_390 (n := 391) rfl ?_
                  refine g_dup2 C rfl rfl dX7_findMended_391 (n := 392) rfl ?_
                  refine g_iald C (j := 1) sh_92 (by decide) (rfl) (by omega) dX7_findMended_392 (n := 393) rfl ?_
                  refine g_iconst C ic_1 dX7_findMended_393 (n := 394) rfl ?_
                  refine g_iadd C dX7_findMended_394 (n := 395) rfl ?_
                  refine g_iast C (j := 1) sh_92 (by decide) (rfl) (by omega) dX7_findMended_395 (n := 396) rfl (fun M3 e3 => ?_)
                  have hf3 : frM M1 M3 := ⟨fun a a1 a2 a3 => by rw [e3, up2_ne _ _ a3], fun j hj => by rw [e3, up2_ne _ _ (by omega)]⟩
                  have hmk : mst S (k + 1) = ((i + 1, d, u), L, (fun j => ch j + (if j = 1 then 1 else 0))) := hms.trans hmv
                  have hz3 : yi + 1 = nI (mst S (k + 1)).1.1 := by rw [hmk]; exact (by rw [hyi]; exact nI_1 _)
                  have hz4 : yd = nI (mst S (k + 1)).1.2.1 := by rw [hmk]; exact hyd
                  have hz5 : yu = nI (mst S (k + 1)).1.2.2 := by rw [hmk]; exact hyu
                  have hzW : WM M3 (mst S (k + 1)) := by rw [hmk]; exact ⟨by rw [e3, up2_ne _ _ (by omega)]; exact hW0.1, fun j q hq => by rw [e3, up2_ne _ _ (by omega)]; exact hW0.2.1 j q hq, fun j hj => by
                    rw [e3]
                    have h5 := hW0.2.2 j hj
                    show up2 M1 92 1 (M1 92 1 + 1) 92 j = nI (ch j + (if j = 1 then 1 else 0))
                    by_cases hj1 : j = 1
                    · subst hj1; rw [up2_at, if_pos rfl, h5]; exact nI_1 _
                    · rw [if_neg hj1]; refine (show up2 M1 92 1 _ 92 j = M1 92 j by simp [up2, hj1]).trans ?_; exact h5⟩
                  have hzF : frM M2 M3 := frM_t hF hf3
                  refine g_iinc3 C (inc_1 _) dX7_findMended_396 (n := 399) rfl ?_
                  refine g_goto C dX7_findMended_399 (t := 485) (by decide) ?_
                  exact J_485 _ _ _ _ _ _ _ _ _ hz3 hz4 hz5 hzW hzF
            have J_327 : (i < spn S → stV S i d u ≠ cS S i d u) → (i < spn S → b0V S i d u ≠ cS S i d u) → (i < spn S → bpV S i d u ≠ cS S i d u) → G p l e ({ frames := 5, cells := 0, slots := 0, locals := 119 }) s m ([.ref (z + 80)] : List Value).toArray below meth c D cI cO z 11 (QM below D cI cO z ([.ref (z + 80)] : List Value).toArray s SH (pV (fun M1 => CT M1 90 S 0 ∧ WM M1 (mst S 1200) ∧ (∀ a, a ≠ 80 → a ≠ 90 → a ≠ 91 → a ≠ 92 → M1 a = M a) ∧ ∀ j, j ≠ 14 → M1 80 j = M 80 j))) 0 0 SH M1 327 [some (.ref (z + 80)), some (.int (M 82 121)), some (.int (M 82 122)), some (.int yi), some (.int yd), some (.int yu), some (.int (nI (cS S i d u))), some (.int xs), some (.int (bI be)), o9, oa] [] := by
              intro hA hB hP
              refine g_iload8 C dX7_findMended_327 (n := 329) rfl ?_
              refine g_if_ne C dX7_findMended_329 (t := 367) (by decide) (n := 332) rfl (fun c_329 => ?_) (fun c_329 => ?_)
              · have hM : i < spn S → bmV S i d u ≠ cS S i d u := fun q => absurd (hbe.mp (bI_n.mp c_329)) (by omega)
                exact J_367 hA hB hP hM
              · have hin : i < spn S := by
                  have q : ¬ i = spn S := fun q => by have := hbe.mpr q; rw [bI_0.mp c_329] at this; cases this
                  omega
                have hbb := b_le hs hin hd hu
                have hbs := st_le hs hin hd hu
                have hMS : M1 82 i = spg S i := hMR1.2.1 i hin
                refine g_aload0 C dX7_findMended_332 (n := 333) rfl ?_
                refine g_iload3 C dX7_findMended_333 (n := 334) rfl ?_
                refine g_iload4 C dX7_findMended_334 (n := 336) rfl ?_
                refine g_iload5 C dX7_findMended_336 (n := 338) rfl ?_
                refine g_iconst C ic_m1 dX7_findMended_338 (n := 339) rfl ?_
                refine kc_X7_146 C (ctm_X7_becomes M1 S i d u _ _ _ hMR1 hs hC1i hyi hyd hyu hin hd hu) sh_80 ⟨Nat.le_of_ble_eq_true rfl, Nat.le_of_ble_eq_true rfl⟩ ⟨Nat.zero_le _, Nat.zero_le _⟩ (Nat.le_of_ble_eq_true rfl) dX7_findMended_339 (n := 342) rfl (fun r_339 M_339 h_339 => ?_)
                rw [h_339.1, h_339.2]
                refine g_iload6 C dX7_findMended_342 (n := 344) rfl ?_
                refine g_icmp_ne C dX7_findMended_344 (t := 367) (by decide) (n := 347) rfl (fun c_344 => ?_) (fun c_344 => ?_)
                · have hM : i < spn S → bmV S i d u ≠ cS S i d u := fun _ q => c_344 (by rw [q])
                  exact J_367 hA hB hP hM
                · have eV : bmV S i d u = cS S i d u := (nI_eq (by omega) (by omega)).mp c_344
                  obtain ⟨hu9, hd9, hmv⟩ := mm_m (L := L) (ch := ch) hs hin hd hu (hA hin) (hB hin) (hP hin) eV
                  refine g_aload0 C dX7_findMended_347 (n := 348) rfl ?_
                  refine g_iload1 C dX7_findMended_348 (n := 349) rfl ?_
                  refine g_iload4 C dX7_findMended_349 (n := 351) rfl ?_
                  refine kc_X7_119 C (ct_X7_closer SH M1 (spt S) d _ _ ht hyd hs.2.2.1 (by omega)) ⟨Nat.le_of_ble_eq_true rfl, Nat.le_of_ble_eq_true rfl⟩ ⟨Nat.zero_le _, Nat.zero_le _⟩ (Nat.le_of_ble_eq_true rfl) dX7_findMended_351 (n := 354) rfl (fun r_351 M_351 h_351 => ?_)
                  rw [h_351.1, h_351.2]
                  refine g_iconst C ic_2 dX7_findMended_354 (n := 355) rfl ?_
                  refine kc_X7_155 C (ct_X7_puts M1 L.length 2 _ _ hW0.1 (by omega) rfl (by decide)) sh_80 ⟨Nat.le_of_ble_eq_true rfl, Nat.le_of_ble_eq_true rfl⟩ ⟨Nat.zero_le _, Nat.zero_le _⟩ (Nat.le_of_ble_eq_true rfl) dX7_findMended_355 (n := 358) rfl (fun M3 h3 => ?_)
                  have hmk : mst S (k + 1) = ((i + 1, d - 1, 0), L ++ [cls (spt S) d], (fun j => ch j + (if j = 2 then 1 else 0))) := hms.trans hmv
                  have hz3 : yi + 1 = nI (mst S (k + 1)).1.1 := by rw [hmk]; exact (by rw [hyi]; exact nI_1 _)
                  have hz4 : yd + -1 = nI (mst S (k + 1)).1.2.1 := by rw [hmk]; exact (m1_s hyd hd9)
                  have hz5 : yu = nI (mst S (k + 1)).1.2.2 := by rw [hmk]; exact (by rw [hyu, hu9])
                  have hzW : WM M3 (mst S (k + 1)) := by rw [hmk]; exact WM_p hW0 h3
                  have hzF : frM M2 M3 := frM_t hF h3.2.2.2
                  refine g_iinc4 C (inc_m1 _) dX7_findMended_358 (n := 361) rfl ?_
                  refine g_iinc3 C (inc_1 _) dX7_findMended_361 (n := 364) rfl ?_
                  refine g_goto C dX7_findMended_364 (t := 485) (by decide) ?_
                  exact J_485 _ _ _ _ _ _ _ _ _ hz3 hz4 hz5 hzW hzF
            have J_287 : (i < spn S → stV S i d u ≠ cS S i d u) → (i < spn S → b0V S i d u ≠ cS S i d u) → G p l e ({ frames := 5, cells := 0, slots := 0, locals := 119 }) s m ([.ref (z + 80)] : List Value).toArray below meth c D cI cO z 11 (QM below D cI cO z ([.ref (z + 80)] : List Value).toArray s SH (pV (fun M1 => CT M1 90 S 0 ∧ WM M1 (mst S 1200) ∧ (∀ a, a ≠ 80 → a ≠ 90 → a ≠ 91 → a ≠ 92 → M1 a = M a) ∧ ∀ j, j ≠ 14 → M1 80 j = M 80 j))) 0 0 SH M1 287 [some (.ref (z + 80)), some (.int (M 82 121)), some (.int (M 82 122)), some (.int yi), some (.int yd), some (.int yu), some (.int (nI (cS S i d u))), some (.int xs), some (.int (bI be)), o9, oa] [] := by
              intro hA hB
              refine g_iload8 C dX7_findMended_287 (n := 289) rfl ?_
              refine g_if_ne C dX7_findMended_289 (t := 327) (by decide) (n := 292) rfl (fun c_289 => ?_) (fun c_289 => ?_)
              · have hP : i < spn S → bpV S i d u ≠ cS S i d u := fun q => absurd (hbe.mp (bI_n.mp c_289)) (by omega)
                exact J_327 hA hB hP
              · have hin : i < spn S := by
                  have q : ¬ i = spn S := fun q => by have := hbe.mpr q; rw [bI_0.mp c_289] at this; cases this
                  omega
                have hbb := b_le hs hin hd hu
                have hbs := st_le hs hin hd hu
                have hMS : M1 82 i = spg S i := hMR1.2.1 i hin
                refine g_aload0 C dX7_findMended_292 (n := 293) rfl ?_
                refine g_iload3 C dX7_findMended_293 (n := 294) rfl ?_
                refine g_iload4 C dX7_findMended_294 (n := 296) rfl ?_
                refine g_iload5 C dX7_findMended_296 (n := 298) rfl ?_
                refine g_iconst C ic_1 dX7_findMended_298 (n := 299) rfl ?_
                refine kc_X7_146 C (ctp_X7_becomes M1 S i d u _ _ _ hMR1 hs hC1i hyi hyd hyu hin hd hu) sh_80 ⟨Nat.le_of_ble_eq_true rfl, Nat.le_of_ble_eq_true rfl⟩ ⟨Nat.zero_le _, Nat.zero_le _⟩ (Nat.le_of_ble_eq_true rfl) dX7_findMended_299 (n := 302) rfl (fun r_299 M_299 h_299 => ?_)
                rw [h_299.1, h_299.2]
                refine g_iload6 C dX7_findMended_302 (n := 304) rfl ?_
                refine g_icmp_ne C dX7_findMended_304 (t := 327) (by decide) (n := 307) rfl (fun c_304 => ?_) (fun c_304 => ?_)
                · have hP : i < spn S → bpV S i d u ≠ cS S i d u := fun _ q => c_304 (by rw [q])
                  exact J_327 hA hB hP
                · have eV : bpV S i d u = cS S i d u := (nI_eq (by omega) (by omega)).mp c_304
                  obtain ⟨hu9, hd9, hmv⟩ := mm_p (L := L) (ch := ch) hs hin hd hu (hA hin) eV
                  refine g_aload0 C dX7_findMended_307 (n := 308) rfl ?_
                  refine g_iload1 C dX7_findMended_308 (n := 309) rfl ?_
                  refine g_iload4 C dX7_findMended_309 (n := 311) rfl ?_
                  refine kc_X7_62 C (ct_X7_opener SH M1 (spt S) d _ _ ht hyd hs.2.2.1 (by omega)) ⟨Nat.le_of_ble_eq_true rfl, Nat.le_of_ble_eq_true rfl⟩ ⟨Nat.zero_le _, Nat.zero_le _⟩ (Nat.le_of_ble_eq_true rfl) dX7_findMended_311 (n := 314) rfl (fun r_311 M_311 h_311 => ?_)
                  rw [h_311.1, h_311.2]
                  refine g_iconst C ic_2 dX7_findMended_314 (n := 315) rfl ?_
                  refine kc_X7_155 C (ct_X7_puts M1 L.length 2 _ _ hW0.1 (by omega) rfl (by decide)) sh_80 ⟨Nat.le_of_ble_eq_true rfl, Nat.le_of_ble_eq_true rfl⟩ ⟨Nat.zero_le _, Nat.zero_le _⟩ (Nat.le_of_ble_eq_true rfl) dX7_findMended_315 (n := 318) rfl (fun M3 h3 => ?_)
                  have hmk : mst S (k + 1) = ((i + 1, d + 1, 0), L ++ [opn (spt S) d], (fun j => ch j + (if j = 2 then 1 else 0))) := hms.trans hmv
                  have hz3 : yi + 1 = nI (mst S (k + 1)).1.1 := by rw [hmk]; exact (by rw [hyi]; exact nI_1 _)
                  have hz4 : yd + 1 = nI (mst S (k + 1)).1.2.1 := by rw [hmk]; exact (by rw [hyd]; exact nI_1 _)
                  have hz5 : yu = nI (mst S (k + 1)).1.2.2 := by rw [hmk]; exact (by rw [hyu, hu9])
                  have hzW : WM M3 (mst S (k + 1)) := by rw [hmk]; exact WM_p hW0 h3
                  have hzF : frM M2 M3 := frM_t hF h3.2.2.2
                  refine g_iinc4 C (inc_1 _) dX7_findMended_318 (n := 321) rfl ?_
                  refine g_iinc3 C (inc_1 _) dX7_findMended_321 (n := 324) rfl ?_
                  refine g_goto C dX7_findMended_324 (t := 485) (by decide) ?_
                  exact J_485 _ _ _ _ _ _ _ _ _ hz3 hz4 hz5 hzW hzF
            have J_251 : (i < spn S → stV S i d u ≠ cS S i d u) → G p l e ({ frames := 5, cells := 0, slots := 0, locals := 119 }) s m ([.ref (z + 80)] : List Value).toArray below meth c D cI cO z 11 (QM below D cI cO z ([.ref (z + 80)] : List Value).toArray s SH (pV (fun M1 => CT M1 90 S 0 ∧ WM M1 (mst S 1200) ∧ (∀ a, a ≠ 80 → a ≠ 90 → a ≠ 91 → a ≠ 92 → M1 a = M a) ∧ ∀ j, j ≠ 14 → M1 80 j = M 80 j))) 0 0 SH M1 251 [some (.ref (z + 80)), some (.int (M 82 121)), some (.int (M 82 122)), some (.int yi), some (.int yd), some (.int yu), some (.int (nI (cS S i d u))), some (.int xs), some (.int (bI be)), o9, oa] [] := by
              intro hA
              refine g_iload8 C dX7_findMended_251 (n := 253) rfl ?_
              refine g_if_ne C dX7_findMended_253 (t := 287) (by decide) (n := 256) rfl (fun c_253 => ?_) (fun c_253 => ?_)
              · have hB : i < spn S → b0V S i d u ≠ cS S i d u := fun q => absurd (hbe.mp (bI_n.mp c_253)) (by omega)
                exact J_287 hA hB
              · have hin : i < spn S := by
                  have q : ¬ i = spn S := fun q => by have := hbe.mpr q; rw [bI_0.mp c_253] at this; cases this
                  omega
                have hbb := b_le hs hin hd hu
                have hbs := st_le hs hin hd hu
                have hMS : M1 82 i = spg S i := hMR1.2.1 i hin
                refine g_aload0 C dX7_findMended_256 (n := 257) rfl ?_
                refine g_iload3 C dX7_findMended_257 (n := 258) rfl ?_
                refine g_iload4 C dX7_findMended_258 (n := 260) rfl ?_
                refine g_iload5 C dX7_findMended_260 (n := 262) rfl ?_
                refine g_iconst C ic_0 dX7_findMended_262 (n := 263) rfl ?_
                refine kc_X7_146 C (ct0_X7_becomes M1 S i d u _ _ _ hMR1 hs hC1i hyi hyd hyu hin hd hu) sh_80 ⟨Nat.le_of_ble_eq_true rfl, Nat.le_of_ble_eq_true rfl⟩ ⟨Nat.zero_le _, Nat.zero_le _⟩ (Nat.le_of_ble_eq_true rfl) dX7_findMended_263 (n := 266) rfl (fun r_263 M_263 h_263 => ?_)
                rw [h_263.1, h_263.2]
                refine g_iload6 C dX7_findMended_266 (n := 268) rfl ?_
                refine g_icmp_ne C dX7_findMended_268 (t := 287) (by decide) (n := 271) rfl (fun c_268 => ?_) (fun c_268 => ?_)
                · have hB : i < spn S → b0V S i d u ≠ cS S i d u := fun _ q => c_268 (by rw [q])
                  exact J_287 hA hB
                · have eV : b0V S i d u = cS S i d u := (nI_eq (by omega) (by omega)).mp c_268
                  obtain ⟨hu9, hmv⟩ := mm_0 (L := L) (ch := ch) hs hin hd hu (hA hin) eV
                  rw [← hxs hu9] at hmv
                  refine g_aload0 C dX7_findMended_271 (n := 272) rfl ?_
                  refine g_iload7 C dX7_findMended_272 (n := 274) rfl ?_
                  refine g_iconst C ic_2 dX7_findMended_274 (n := 275) rfl ?_
                  refine kc_X7_155 C (ct_X7_puts M1 L.length 2 _ _ hW0.1 (by omega) rfl (by decide)) sh_80 ⟨Nat.le_of_ble_eq_true rfl, Nat.le_of_ble_eq_true rfl⟩ ⟨Nat.zero_le _, Nat.zero_le _⟩ (Nat.le_of_ble_eq_true rfl) dX7_findMended_275 (n := 278) rfl (fun M3 h3 => ?_)
                  have hmk : mst S (k + 1) = ((i + 1, d, u - 1), L ++ [xs], (fun j => ch j + (if j = 2 then 1 else 0))) := hms.trans hmv
                  have hz3 : yi + 1 = nI (mst S (k + 1)).1.1 := by rw [hmk]; exact (by rw [hyi]; exact nI_1 _)
                  have hz4 : yd = nI (mst S (k + 1)).1.2.1 := by rw [hmk]; exact hyd
                  have hz5 : yu + -1 = nI (mst S (k + 1)).1.2.2 := by rw [hmk]; exact (m1_s hyu (by omega))
                  have hzW : WM M3 (mst S (k + 1)) := by rw [hmk]; exact WM_p hW0 h3
                  have hzF : frM M2 M3 := frM_t hF h3.2.2.2
                  refine g_iinc5 C (inc_m1 _) dX7_findMended_278 (n := 281) rfl ?_
                  refine g_iinc3 C (inc_1 _) dX7_findMended_281 (n := 284) rfl ?_
                  refine g_goto C dX7_findMended_284 (t := 485) (by decide) ?_
                  exact J_485 _ _ _ _ _ _ _ _ _ hz3 hz4 hz5 hzW hzF
            refine g_istore8 C dX7_findMended_129 (n := 131) rfl ?_
            refine g_iload8 C dX7_findMended_131 (n := 133) rfl ?_
            refine g_if_ne C dX7_findMended_133 (t := 251) (by decide) (n := 136) rfl (fun c_133 => ?_) (fun c_133 => ?_)
            · have hA : i < spn S → stV S i d u ≠ cS S i d u := fun q => absurd (hbe.mp (bI_n.mp c_133)) (by omega)
              exact J_251 hA
            · have hin : i < spn S := by
                have q : ¬ i = spn S := fun q => by have := hbe.mpr q; rw [bI_0.mp c_133] at this; cases this
                omega
              have hbb := b_le hs hin hd hu
              have hbs := st_le hs hin hd hu
              have hMS : M1 82 i = spg S i := hMR1.2.1 i hin
              refine g_aload0 C dX7_findMended_136 (n := 137) rfl ?_
              refine g_iload3 C dX7_findMended_137 (n := 138) rfl ?_
              refine g_iload4 C dX7_findMended_138 (n := 140) rfl ?_
              refine g_iload5 C dX7_findMended_140 (n := 142) rfl ?_
              refine g_iload1 C dX7_findMended_142 (n := 143) rfl ?_
              refine g_iload2 C dX7_findMended_143 (n := 144) rfl ?_
              refine kc_X7_136 C (ct_X7_stays M1 S i d u _ _ _ _ _ hMR1 hs hC1i hyi hyd hyu hin hd hu ht hr) sh_80 ⟨Nat.le_of_ble_eq_true rfl, Nat.le_of_ble_eq_true rfl⟩ ⟨Nat.zero_le _, Nat.zero_le _⟩ (Nat.le_of_ble_eq_true rfl) dX7_findMended_144 (n := 147) rfl (fun r_144 M_144 h_144 => ?_)
              rw [h_144.1, h_144.2]
              refine g_iload6 C dX7_findMended_147 (n := 149) rfl ?_
              refine g_icmp_ne C dX7_findMended_149 (t := 251) (by decide) (n := 152) rfl (fun c_149 => ?_) (fun c_149 => ?_)
              · have hA : i < spn S → stV S i d u ≠ cS S i d u := fun _ q => c_149 (by rw [q])
                exact J_251 hA
              · have eV : stV S i d u = cS S i d u := (nI_eq (by omega) (by omega)).mp c_149
                obtain ⟨q, hq, hmv⟩ := mm_A (L := L) (ch := ch) hs hin hd hu eV
                have hk := nxt_ok hd hu hq
                refine g_aload0 C dX7_findMended_152 (n := 153) rfl ?_
                refine kg_X7_13 C sh_80 rfl dX7_findMended_153 (n := 156) rfl ?_
                refine g_iload3 C dX7_findMended_156 (n := 157) rfl ?_
                refine g_iald C (j := i) sh_82 (by decide) (hyi) (by omega) dX7_findMended_157 (n := 158) rfl ?_
                rw [hMS]
                refine g_istore9 C dX7_findMended_158 (n := 160) rfl ?_
                have J_205 : ∀ (xd1 : Int32), (xd1 = nI q.1) → G p l e ({ frames := 5, cells := 0, slots := 0, locals := 119 }) s m ([.ref (z + 80)] : List Value).toArray below meth c D cI cO z 11 (QM below D cI cO z ([.ref (z + 80)] : List Value).toArray s SH (pV (fun M1 => CT M1 90 S 0 ∧ WM M1 (mst S 1200) ∧ (∀ a, a ≠ 80 → a ≠ 90 → a ≠ 91 → a ≠ 92 → M1 a = M a) ∧ ∀ j, j ≠ 14 → M1 80 j = M 80 j))) 0 0 SH M1 205 [some (.ref (z + 80)), some (.int (M 82 121)), some (.int (M 82 122)), some (.int yi), some (.int yd), some (.int yu), some (.int (nI (cS S i d u))), some (.int xs), some (.int (bI be)), some (.int (spg S i)), some (.int yd)] [.int xd1] := by
                  intro xd1 hxd1
                  refine g_istore4 C dX7_findMended_205 (n := 207) rfl ?_
                  have J_236 : ∀ (xu1 : Int32), (xu1 = nI q.2) → G p l e ({ frames := 5, cells := 0, slots := 0, locals := 119 }) s m ([.ref (z + 80)] : List Value).toArray below meth c D cI cO z 11 (QM below D cI cO z ([.ref (z + 80)] : List Value).toArray s SH (pV (fun M1 => CT M1 90 S 0 ∧ WM M1 (mst S 1200) ∧ (∀ a, a ≠ 80 → a ≠ 90 → a ≠ 91 → a ≠ 92 → M1 a = M a) ∧ ∀ j, j ≠ 14 → M1 80 j = M 80 j))) 0 0 SH M1 236 [some (.ref (z + 80)), some (.int (M 82 121)), some (.int (M 82 122)), some (.int yi), some (.int xd1), some (.int yu), some (.int (nI (cS S i d u))), some (.int xs), some (.int (bI be)), some (.int (spg S i)), some (.int yd)] [.int xu1] := by
                    intro xu1 hxu1
                    refine g_istore5 C dX7_findMended_236 (n := 238) rfl ?_
                    refine g_aload0 C dX7_findMended_238 (n := 239) rfl ?_
                    refine g_iload9 C dX7_findMended_239 (n := 241) rfl ?_
                    refine g_iconst C ic_3 dX7_findMended_241 (n := 242) rfl ?_
                    refine kc_X7_155 C (ct_X7_puts M1 L.length 3 _ _ hW0.1 (by omega) rfl (by decide)) sh_80 ⟨Nat.le_of_ble_eq_true rfl, Nat.le_of_ble_eq_true rfl⟩ ⟨Nat.zero_le _, Nat.zero_le _⟩ (Nat.le_of_ble_eq_true rfl) dX7_findMended_242 (n := 245) rfl (fun M3 h3 => ?_)
                    have hmk : mst S (k + 1) = ((i + 1, q.1, q.2), L ++ [spg S i], ch) := hms.trans hmv
                    have hz3 : yi + 1 = nI (mst S (k + 1)).1.1 := by rw [hmk]; exact (by rw [hyi]; exact nI_1 _)
                    have hz4 : xd1 = nI (mst S (k + 1)).1.2.1 := by rw [hmk]; exact hxd1
                    have hz5 : xu1 = nI (mst S (k + 1)).1.2.2 := by rw [hmk]; exact hxu1
                    have hzW : WM M3 (mst S (k + 1)) := by rw [hmk]; exact WM_p3 hW0 h3
                    have hzF : frM M2 M3 := frM_t hF h3.2.2.2
                    refine g_iinc3 C (inc_1 _) dX7_findMended_245 (n := 248) rfl ?_
                    refine g_goto C dX7_findMended_248 (t := 485) (by decide) ?_
                    exact J_485 _ _ _ _ _ _ _ _ _ hz3 hz4 hz5 hzW hzF
                  refine g_iload5 C dX7_findMended_207 (n := 209) rfl ?_
                  refine g_if_le C dX7_findMended_209 (t := 219) (by decide) (n := 212) rfl (fun c_209 => ?_) (fun c_209 => ?_)
                  · have hu0 : u = 0 := by
                      have : ¬ 0 < u := fun h => c_209 ((lt0 hyu (by omega)).mpr h)
                      omega
                    have hq0 : nxt (spt S) (spr S) d 0 (spg S i) = some q := by have h := hq; rw [hu0] at h; exact h
                    refine g_iload9 C dX7_findMended_219 (n := 221) rfl ?_
                    refine g_bipush C bp_124 dX7_findMended_221 (n := 223) rfl ?_
                    refine g_icmp_ne C dX7_findMended_223 (t := 235) (by decide) (n := 226) rfl (fun c_223 => ?_) (fun c_223 => ?_)
                    · have hxu1 : (0 : Int32) = nI q.2 := by
                        by_cases hm : isMk (spg S i) = true
                        · rcases nx_mk hs.2.2.1 hm hq0 with ⟨_, _, e⟩ | ⟨_, e⟩ <;> rw [e] <;> rfl
                        · rw [nx_no (hs.2.1 i hin) hm hq0, if_neg c_223]; rfl
                      refine g_iconst C ic_0 dX7_findMended_235 (n := 236) rfl ?_
                      exact J_236 _ hxu1
                    · have hnm : ¬ isMk (spg S i) = true := fun h => (mk_ne h).2.2.1 c_223
                      refine g_iload2 C dX7_findMended_226 (n := 227) rfl ?_
                      refine g_iload10 C dX7_findMended_227 (n := 229) rfl ?_
                      refine kc_X7_116 C (ct_X7_dueMany SH M1 (spr S) d _ _ hr hyd hs.2.2.2.1 (by omega)) ⟨Nat.le_of_ble_eq_true rfl, Nat.le_of_ble_eq_true rfl⟩ ⟨Nat.zero_le _, Nat.zero_le _⟩ (Nat.le_of_ble_eq_true rfl) dX7_findMended_229 (n := 232) rfl (fun r_229 M_229 h_229 => ?_)
                      rw [h_229.1, h_229.2]
                      have hxu1 : nI (dmy (spr S) d) = nI q.2 := by rw [nx_no (hs.2.1 i hin) hnm hq0, if_pos c_223]
                      refine g_goto C dX7_findMended_232 (t := 236) (by decide) ?_
                      exact J_236 _ hxu1
                  · have hu9 : u ≠ 0 := by have := (lt0 hyu (by omega)).mp c_209; omega
                    have hxu1 : yu - 1 = nI q.2 := by rw [nx_du hu9 hq]; exact e_sub hyu (show (1 : Int32) = nI 1 from rfl) (by omega)
                    refine g_iload5 C dX7_findMended_212 (n := 214) rfl ?_
                    refine g_iconst C ic_1 dX7_findMended_214 (n := 215) rfl ?_
                    refine g_isub C dX7_findMended_215 (n := 216) rfl ?_
                    refine g_goto C dX7_findMended_216 (t := 236) (by decide) ?_
                    exact J_236 _ hxu1
                refine g_iload4 C dX7_findMended_160 (n := 162) rfl ?_
                refine g_istore10 C dX7_findMended_162 (n := 164) rfl ?_
                refine g_iload4 C dX7_findMended_164 (n := 166) rfl ?_
                refine g_iload5 C dX7_findMended_166 (n := 168) rfl ?_
                refine g_if_gt C dX7_findMended_168 (t := 179) (by decide) (n := 171) rfl (fun c_168 => ?_) (fun c_168 => ?_)
                · have hu9 : u ≠ 0 := by have := (lt0 hyu (by omega)).mp c_168; omega
                  have hxd1 : yd + 0 = nI q.1 := by
                    rw [Int32.add_zero, hyd]
                    first
                      | (have h9 := hu9; rw [nx_du h9 hq])
                      | (have h9 := hnm; rw [nx_no (hs.2.1 i hin) h9 hq0])
                  refine g_iconst C ic_0 dX7_findMended_179 (n := 180) rfl ?_
                  refine g_goto C dX7_findMended_180 (t := 204) (by decide) ?_
                  refine g_iadd C dX7_findMended_204 (n := 205) rfl ?_
                  exact J_205 _ hxd1
                · have hu0 : u = 0 := by
                    have : ¬ 0 < u := fun h => c_168 ((lt0 hyu (by omega)).mpr h)
                    omega
                  have hq0 : nxt (spt S) (spr S) d 0 (spg S i) = some q := by have h := hq; rw [hu0] at h; exact h
                  refine g_iload9 C dX7_findMended_171 (n := 173) rfl ?_
                  refine kc_X7_54 C (ct_X7_isMark SH M1 (spg S i)) ⟨Nat.le_of_ble_eq_true rfl, Nat.le_of_ble_eq_true rfl⟩ ⟨Nat.zero_le _, Nat.zero_le _⟩ (Nat.le_of_ble_eq_true rfl) dX7_findMended_173 (n := 176) rfl (fun r_173 M_173 h_173 => ?_)
                  rw [h_173.1, h_173.2]
                  refine g_if_ne C dX7_findMended_176 (t := 183) (by decide) (n := 179) rfl (fun c_176 => ?_) (fun c_176 => ?_)
                  · have hm := bI_n.mp c_176
                    have hqm := nx_mk hs.2.2.1 hm hq0
                    refine g_iload4 C dX7_findMended_183 (n := 185) rfl ?_
                    refine g_if_le C dX7_findMended_185 (t := 203) (by decide) (n := 188) rfl (fun c_185 => ?_) (fun c_185 => ?_)
                    · have hncl : ¬ (1 ≤ d ∧ spg S i = cls (spt S) d) := fun h => c_185 ((lt0 hyd (by omega)).mpr h.1)
                      have hxd1 : yd + 1 = nI q.1 := by
                        rcases hqm with ⟨h1, h2, _⟩ | ⟨_, e⟩
                        · exact absurd ⟨h1, h2⟩ hncl
                        · rw [e, hyd]; exact nI_1 _
                      refine g_iconst C ic_1 dX7_findMended_203 (n := 204) rfl ?_
                      refine g_iadd C dX7_findMended_204 (n := 205) rfl ?_
                      exact J_205 _ hxd1
                    · have hd1 : 1 ≤ d := (lt0 hyd (by omega)).mp c_185
                      refine g_iload9 C dX7_findMended_188 (n := 190) rfl ?_
                      refine g_iload1 C dX7_findMended_190 (n := 191) rfl ?_
                      refine g_iload4 C dX7_findMended_191 (n := 193) rfl ?_
                      refine kc_X7_119 C (ct_X7_closer SH M1 (spt S) d _ _ ht hyd hs.2.2.1 (by omega)) ⟨Nat.le_of_ble_eq_true rfl, Nat.le_of_ble_eq_true rfl⟩ ⟨Nat.zero_le _, Nat.zero_le _⟩ (Nat.le_of_ble_eq_true rfl) dX7_findMended_193 (n := 196) rfl (fun r_193 M_193 h_193 => ?_)
                      rw [h_193.1, h_193.2]
                      refine g_icmp_ne C dX7_findMended_196 (t := 203) (by decide) (n := 199) rfl (fun c_196 => ?_) (fun c_196 => ?_)
                      · have hncl : ¬ (1 ≤ d ∧ spg S i = cls (spt S) d) := fun h => c_196 h.2
                        have hxd1 : yd + 1 = nI q.1 := by
                          rcases hqm with ⟨h1, h2, _⟩ | ⟨_, e⟩
                          · exact absurd ⟨h1, h2⟩ hncl
                          · rw [e, hyd]; exact nI_1 _
                        refine g_iconst C ic_1 dX7_findMended_203 (n := 204) rfl ?_
                        refine g_iadd C dX7_findMended_204 (n := 205) rfl ?_
                        exact J_205 _ hxd1
                      · have _u := True.intro
                        have hxd1 : yd + -1 = nI q.1 := by
                          rcases hqm with ⟨_, _, e⟩ | ⟨h, _⟩
                          · rw [e]; exact m1_s hyd hd1
                          · exact absurd ⟨hd1, c_196⟩ h
                        refine g_iconst C ic_m1 dX7_findMended_199 (n := 200) rfl ?_
                        refine g_goto C dX7_findMended_200 (t := 204) (by decide) ?_
                        refine g_iadd C dX7_findMended_204 (n := 205) rfl ?_
                        exact J_205 _ hxd1
                  · have hnm : ¬ isMk (spg S i) = true := fun h => c_176 |> fun q => by rw [h] at q; exact absurd q (by decide)
                    have hxd1 : yd + 0 = nI q.1 := by
                      rw [Int32.add_zero, hyd]
                      first
                        | (have h9 := hu9; rw [nx_du h9 hq])
                        | (have h9 := hnm; rw [nx_no (hs.2.1 i hin) h9 hq0])
                    refine g_iconst C ic_0 dX7_findMended_179 (n := 180) rfl ?_
                    refine g_goto C dX7_findMended_180 (t := 204) (by decide) ?_
                    refine g_iadd C dX7_findMended_204 (n := 205) rfl ?_
                    exact J_205 _ hxd1
          refine g_istore7 C dX7_findMended_111 (n := 113) rfl ?_
          refine g_iload3 C dX7_findMended_113 (n := 114) rfl ?_
          refine g_aload0 C dX7_findMended_114 (n := 115) rfl ?_
          refine kg_X7_13 C sh_80 rfl dX7_findMended_115 (n := 118) rfl ?_
          refine g_bipush C bp_120 dX7_findMended_118 (n := 120) rfl ?_
          refine g_iald C (j := 120) sh_82 (by decide) (rfl) (by omega) dX7_findMended_120 (n := 121) rfl ?_
          refine g_icmp_ne C dX7_findMended_121 (t := 128) (by decide) (n := 124) rfl (fun c_121 => ?_) (fun c_121 => ?_)
          · have hb : (0 : Int32) = bI false ∧ (false = true ↔ i = spn S) := ⟨rfl, fun h => Bool.noConfusion h, fun h => absurd ((qeq hyi hMR1.1 (by omega) (by omega)).mpr h) c_121⟩
            refine g_iconst C ic_0 dX7_findMended_128 (n := 129) rfl ?_
            exact J_129 _ _ hb.1 hb.2
          · have hb : (1 : Int32) = bI true ∧ (true = true ↔ i = spn S) := ⟨rfl, fun _ => (qeq hyi hMR1.1 (by omega) (by omega)).mp c_121, fun _ => rfl⟩
            refine g_iconst C ic_1 dX7_findMended_124 (n := 125) rfl ?_
            refine g_goto C dX7_findMended_125 (t := 129) (by decide) ?_
            exact J_129 _ _ hb.1 hb.2
        refine g_aload0 C dX7_findMended_78 (n := 79) rfl ?_
        refine kg_X7_37 C sh_80 rfl dX7_findMended_79 (n := 82) rfl ?_
        refine g_iload3 C dX7_findMended_82 (n := 83) rfl ?_
        refine g_iload4 C dX7_findMended_83 (n := 85) rfl ?_
        refine g_iload5 C dX7_findMended_85 (n := 87) rfl ?_
        refine kc_X7_131 C (ct_X7_at SH M1 i d u _ _ _ hyi hyd hyu) ⟨Nat.le_of_ble_eq_true rfl, Nat.le_of_ble_eq_true rfl⟩ ⟨Nat.zero_le _, Nat.zero_le _⟩ (Nat.le_of_ble_eq_true rfl) dX7_findMended_87 (n := 90) rfl (fun r_87 M_87 h_87 => ?_)
        rw [h_87.1, h_87.2]
        refine g_iald C (j := 49 * i + (7 * d + u)) sh_90 (by decide) (rfl) (by omega) dX7_findMended_90 (n := 91) rfl ?_
        rw [m1]
        refine g_istore6 C dX7_findMended_91 (n := 93) rfl ?_
        refine g_iload5 C dX7_findMended_93 (n := 95) rfl ?_
        refine g_if_le C dX7_findMended_95 (t := 110) (by decide) (n := 98) rfl (fun c_95 => ?_) (fun c_95 => ?_)
        · have hxs : u ≠ 0 → (0 : Int32) = duS S d u := fun h => absurd ((lt0 hyu (by omega)).mpr (by omega)) c_95
          refine g_iconst C ic_0 dX7_findMended_110 (n := 111) rfl ?_
          exact J_111 _ hxs
        · have hu1 : 1 ≤ u := (lt0 hyu (by omega)).mp c_95
          refine g_iload1 C dX7_findMended_98 (n := 99) rfl ?_
          refine g_iload2 C dX7_findMended_99 (n := 100) rfl ?_
          refine g_iload4 C dX7_findMended_100 (n := 102) rfl ?_
          refine g_iload5 C dX7_findMended_102 (n := 104) rfl ?_
          refine kc_X7_108 C (ct_X7_dueSign SH M1 (spt S) (spr S) d u _ _ _ _ ht hr hyd hyu hs.2.2.1 hs.2.2.2.1 (by omega) hu1 hu) ⟨Nat.le_of_ble_eq_true rfl, Nat.le_of_ble_eq_true rfl⟩ ⟨Nat.zero_le _, Nat.zero_le _⟩ (Nat.le_of_ble_eq_true rfl) dX7_findMended_104 (n := 107) rfl (fun r_104 M_104 h_104 => ?_)
          rw [h_104.1, h_104.2]
          have hxs : u ≠ 0 → opn (spt S) (dmy (spr S) d - u) = duS S d u := fun _ => rfl
          refine g_goto C dX7_findMended_107 (t := 111) (by decide) ?_
          exact J_111 _ hxs
      refine g_iload3 C dX7_findMended_57 (n := 58) rfl ?_
      refine g_aload0 C dX7_findMended_58 (n := 59) rfl ?_
      refine kg_X7_13 C sh_80 rfl dX7_findMended_59 (n := 62) rfl ?_
      refine g_bipush C bp_120 dX7_findMended_62 (n := 64) rfl ?_
      refine g_iald C (j := 120) sh_82 (by decide) (rfl) (by omega) dX7_findMended_64 (n := 65) rfl ?_
      refine g_icmp_lt C dX7_findMended_65 (t := 78) (by decide) (n := 68) rfl (fun c_65 => ?_) (fun c_65 => ?_)
      · have w65 : i < spn S := (qlt hyi hMR1.1 (by omega) (by omega)).mp c_65
        have hna : arr S ((i, d, u), L, ch) = false := arr_f (Or.inl w65)
        exact J_78 hna
      · have w65 : ¬ i < spn S := fun h => c_65 ((qlt hyi hMR1.1 (by omega) (by omega)).mpr h)
        refine g_iload4 C dX7_findMended_68 (n := 70) rfl ?_
        refine g_if_gt C dX7_findMended_70 (t := 78) (by decide) (n := 73) rfl (fun c_70 => ?_) (fun c_70 => ?_)
        · have hna : arr S ((i, d, u), L, ch) = false := arr_f (Or.inr (Or.inl ((lt0 hyd (by omega)).mp c_70)))
          exact J_78 hna
        · have _u := True.intro
          refine g_iload5 C dX7_findMended_73 (n := 75) rfl ?_
          refine g_if_le C dX7_findMended_75 (t := 488) (by decide) (n := 78) rfl (fun c_75 => ?_) (fun c_75 => ?_)
          · have harr : arr S ((i, d, u), L, ch) = true := arr_t w65 (fun h => c_70 ((lt0 hyd (by omega)).mpr h)) (fun h => c_75 ((lt0 hyu (by omega)).mpr h))
            refine r_V C dX7_findMended_488 ?_
            refine ⟨hC1, ?_, fun a a1 a2 a3 a4 => by rw [hF.1 a a1 a3 a4]; exact hF2 a a2, fun j hj => by rw [hF.2 j hj, hF2 80 (by omega)]⟩
            rw [← mst_end hs (k := k) (Or.inl (by rw [hx0]; exact harr)), hx0]; exact hW0
          · have hna : arr S ((i, d, u), L, ch) = false := arr_f (Or.inr (Or.inr ((lt0 hyu (by omega)).mp c_75)))
            exact J_78 hna
  exact L_57 (mu S (mst S 0) + 1) 0 0 0 0 Md none none none none none (by omega) nI_0.symm nI_0.symm nI_0.symm hWd fd
set_option maxHeartbeats 4000000 in
set_option maxRecDepth 100000 in
theorem ct_X7_changes {l : Launch} {D : va_G} {cI cO : ClassId} {z tP : Nat} {aK aV : Nat → Nat} (M : Mem) (A : Abs) (x : Int32) (hA : absR M A) (hw : wfA A) : Cm l D cI cO z tP aK aV yX7_changes cX7_changes 2 (some .int) 6 149 [.ref (z + 80), .int x] SH M (pI (fun r M1 => r = opChanges A x ∧ absR M1 A ∧ fr79 M M1)) := by
  refine cm_intro (lv0 := [some (.ref (z + 80)), some (.int x)]) (by decide) rfl (Nat.le_of_ble_eq_true rfl) rfl (fun p e s m below meth c C => ?_)
  have hwS := hw.2.1
  have hn120 := hwS.1
  have hsp := hA.2.2.1
  have hl6 := hw.2.2.1
  have htl := hw.1
  refine g_iload1 C dX7_changes_0 (n := 1) rfl ?_
  refine g_i2l C dX7_changes_1 (n := 2) rfl ?_
  refine g_lconst C (v := Int32.toInt64 0) (by decide) dX7_changes_2 (n := 3) rfl ?_
  refine g_ldc2 C kl_X7_95 dX7_changes_3 (n := 6) rfl ?_
  refine kc_X7_50 C (ct_X7_in SH M x 0 2) ⟨Nat.le_of_ble_eq_true rfl, Nat.le_of_ble_eq_true rfl⟩ ⟨Nat.zero_le _, Nat.zero_le _⟩ (Nat.le_of_ble_eq_true rfl) dX7_changes_6 (n := 9) rfl (fun r_6 M_6 h_6 => ?_)
  rw [h_6.1, h_6.2]
  refine g_if_ne C dX7_changes_9 (t := 14) (by decide) (n := 12) rfl (fun c_9 => ?_) (fun c_9 => ?_)
  · have hb0 := inn'.mp c_9
    have hb3 : x < 3 := by
      by_cases h : x < 3
      · exact h
      · exact absurd (le2b.mpr h) hb0.2
    have hno : ¬ (x < 0 ∨ ¬ x < 3) := fun h => h.elim hb0.1 (fun q => q hb3)
    obtain ⟨i0, hi3, hi⟩ := ix_of (n := 3) hb0.1 hb3 (by decide)
    refine g_aload0 C dX7_changes_14 (n := 15) rfl ?_
    refine kc_X7_158 C (ct_X7_findMended M A.2.2.1 (MR_of (t := spt A.2.2.1) (r := spr A.2.2.1) hsp) hwS hsp.2.2.1 hsp.2.2.2.1) sh_80 ⟨Nat.le_of_ble_eq_true rfl, Nat.le_of_ble_eq_true rfl⟩ ⟨Nat.zero_le _, Nat.zero_le _⟩ (Nat.le_of_ble_eq_true rfl) dX7_changes_15 (n := 18) rfl (fun M2 h2 => ?_)
    have hab := absR_fm hA h2.2.2.1 h2.2.2.2
    have hml := (mdS_ok hwS).1
    have hq1 : M2 80 14 = nI (mdS A.2.2.1).length := h2.2.1.1
    have hq2 : ∀ (j : Nat) q, (mdS A.2.2.1)[j]? = some q → M2 91 j = q := h2.2.1.2.1
    have hq3 : ∀ j, j < 3 → M2 92 j = nI (mdC A.2.2.1 j) := h2.2.1.2.2
    refine g_aload0 C dX7_changes_18 (n := 19) rfl ?_
    refine kg_X7_43 C sh_80 rfl dX7_changes_19 (n := 22) rfl ?_
    refine g_iload1 C dX7_changes_22 (n := 23) rfl ?_
    refine g_iald C (j := i0) sh_92 (by decide) (hi) (by omega) dX7_changes_23 (n := 24) rfl ?_
    refine r_I C dX7_changes_24 ?_
    exact ⟨by unfold opChanges; rw [if_neg hno, hi, tn_nI (by omega)]; exact hq3 i0 hi3, hab⟩
  · have hb : x < 0 ∨ ¬ x < 3 := (inn.mp c_9).elim Or.inl (fun h => Or.inr (le2b.mp h))
    refine g_iconst C ic_m1 dX7_changes_12 (n := 13) rfl ?_
    refine r_I C dX7_changes_13 ?_
    exact ⟨(if_pos hb).symm, hA, fun _ _ => rfl⟩
set_option maxHeartbeats 4000000 in
set_option maxRecDepth 100000 in
theorem ct_X7_mended {l : Launch} {D : va_G} {cI cO : ClassId} {z tP : Nat} {aK aV : Nat → Nat} (M : Mem) (A : Abs) (x : Int32) (hA : absR M A) (hw : wfA A) : Cm l D cI cO z tP aK aV yX7_mended cX7_mended 2 (some .int) 6 149 [.ref (z + 80), .int x] SH M (pI (fun r M1 => r = opMended A x ∧ absR M1 A ∧ fr79 M M1)) := by
  refine cm_intro (lv0 := [some (.ref (z + 80)), some (.int x)]) (by decide) rfl (Nat.le_of_ble_eq_true rfl) rfl (fun p e s m below meth c C => ?_)
  have hwS := hw.2.1
  have hn120 := hwS.1
  have hsp := hA.2.2.1
  have hl6 := hw.2.2.1
  have htl := hw.1
  refine g_iload1 C dX7_mended_0 (n := 1) rfl ?_
  refine g_iconst C ic_m1 dX7_mended_1 (n := 2) rfl ?_
  refine g_icmp_ge C dX7_mended_2 (t := 7) (by decide) (n := 5) rfl (fun c_2 => ?_) (fun c_2 => ?_)
  · have _u := True.intro
    refine g_aload0 C dX7_mended_7 (n := 8) rfl ?_
    refine kc_X7_158 C (ct_X7_findMended M A.2.2.1 (MR_of (t := spt A.2.2.1) (r := spr A.2.2.1) hsp) hwS hsp.2.2.1 hsp.2.2.2.1) sh_80 ⟨Nat.le_of_ble_eq_true rfl, Nat.le_of_ble_eq_true rfl⟩ ⟨Nat.zero_le _, Nat.zero_le _⟩ (Nat.le_of_ble_eq_true rfl) dX7_mended_8 (n := 11) rfl (fun M2 h2 => ?_)
    have hab := absR_fm hA h2.2.2.1 h2.2.2.2
    have hml := (mdS_ok hwS).1
    have hq1 : M2 80 14 = nI (mdS A.2.2.1).length := h2.2.1.1
    have hq2 : ∀ (j : Nat) q, (mdS A.2.2.1)[j]? = some q → M2 91 j = q := h2.2.1.2.1
    have hq3 : ∀ j, j < 3 → M2 92 j = nI (mdC A.2.2.1 j) := h2.2.1.2.2
    refine g_iload1 C dX7_mended_11 (n := 12) rfl ?_
    refine g_if_ge C dX7_mended_12 (t := 22) (by decide) (n := 15) rfl (fun c_12 => ?_) (fun c_12 => ?_)
    · obtain ⟨q, hq, hxq⟩ := nI_of c_12
      have hxne : ¬ x = -1 := fun h => c_12 (ltm1_0 h)
      have htn : tn x = q := by rw [hxq, tn_nI hq]
      refine g_iload1 C dX7_mended_22 (n := 23) rfl ?_
      refine g_aload0 C dX7_mended_23 (n := 24) rfl ?_
      refine kg_X7_149 C sh_80 rfl dX7_mended_24 (n := 27) rfl ?_
      refine g_icmp_ge C dX7_mended_27 (t := 39) (by decide) (n := 30) rfl (fun c_27 => ?_) (fun c_27 => ?_)
      · have hge : ¬ q < (mdS A.2.2.1).length := fun h => c_27 ((qlt hxq hq1 hq (by omega)).mpr h)
        have hv : (-4 : Int32) = opMended A x := by unfold opMended; rw [if_neg c_2, if_neg hxne, htn, List.getElem?_eq_none (by omega)]
        refine g_bipush C bp_m4 dX7_mended_39 (n := 41) rfl ?_
        refine r_I C dX7_mended_41 ?_
        exact ⟨hv, hab⟩
      · have hlt : q < (mdS A.2.2.1).length := (qlt hxq hq1 hq (by omega)).mp c_27
        refine g_aload0 C dX7_mended_30 (n := 31) rfl ?_
        refine kg_X7_40 C sh_80 rfl dX7_mended_31 (n := 34) rfl ?_
        refine g_iload1 C dX7_mended_34 (n := 35) rfl ?_
        refine g_iald C (j := q) sh_91 (by decide) (hxq) (by omega) dX7_mended_35 (n := 36) rfl ?_
        have hv : M2 91 q = opMended A x := by unfold opMended; rw [if_neg c_2, if_neg hxne, htn, List.getElem?_eq_getElem hlt]; exact hq2 q _ (List.getElem?_eq_getElem hlt)
        refine g_goto C dX7_mended_36 (t := 41) (by decide) ?_
        refine r_I C dX7_mended_41 ?_
        exact ⟨hv, hab⟩
    · have hxm : x = -1 := by
        rcases m1_cases c_2 with h | ⟨q, hq, h⟩
        · exact h
        · exact absurd c_12 (by rw [h]; exact nI_pos hq)
      have hv : M2 80 14 = opMended A x := by unfold opMended; rw [if_neg c_2, if_pos hxm]; exact hq1
      refine g_aload0 C dX7_mended_15 (n := 16) rfl ?_
      refine kg_X7_149 C sh_80 rfl dX7_mended_16 (n := 19) rfl ?_
      refine g_goto C dX7_mended_19 (t := 41) (by decide) ?_
      refine r_I C dX7_mended_41 ?_
      exact ⟨hv, hab⟩
  · have _u := True.intro
    refine g_iconst C ic_m1 dX7_mended_5 (n := 6) rfl ?_
    refine r_I C dX7_mended_6 ?_
    exact ⟨(if_pos c_2).symm, hA, fun _ _ => rfl⟩
set_option maxHeartbeats 4000000 in
set_option maxRecDepth 100000 in
theorem ct_X7_mend {l : Launch} {D : va_G} {cI cO : ClassId} {z tP : Nat} {aK aV : Nat → Nat} (M : Mem) (A : Abs) (hA : absR M A) (hw : wfA A) : Cm l D cI cO z tP aK aV yX7_mend cX7_mend 3 (some .int) 6 149 [.ref (z + 80)] SH M (pI (fun r M1 => r = (opMend A).1 ∧ absR M1 (opMend A).2 ∧ fr79 M M1)) := by
  refine cm_intro (lv0 := [some (.ref (z + 80)), none, none]) (by decide) rfl (Nat.le_of_ble_eq_true rfl) rfl (fun p e s m below meth c C => ?_)
  have hwS := hw.2.1
  have hn120 := hwS.1
  have hsp := hA.2.2.1
  have hl6 := hw.2.2.1
  have htl := hw.1
  have hwl := wlE_len hn120
  have hml := (mdS_ok hwS).1
  refine g_aload0 C dX7_mend_0 (n := 1) rfl ?_
  refine kc_X7_126 C (ct_X7_read M A.2.2.1 hsp hwS) sh_80 ⟨Nat.le_of_ble_eq_true rfl, Nat.le_of_ble_eq_true rfl⟩ ⟨Nat.zero_le _, Nat.zero_le _⟩ (Nat.le_of_ble_eq_true rfl) dX7_mend_1 (n := 4) rfl (fun M1 h1 => ?_)
  have hab1 := absR_rd hA h1.2.2.2.2.2
  refine g_aload0 C dX7_mend_4 (n := 5) rfl ?_
  refine kg_X7_102 C sh_80 rfl dX7_mend_5 (n := 8) rfl ?_
  refine g_if_ne C dX7_mend_8 (t := 14) (by decide) (n := 11) rfl (fun c_8 => ?_) (fun c_8 => ?_)
  · have hz : ¬ (wlE A.2.2.1).length = 0 := fun h => c_8 (by rw [h1.1.1, h]; rfl)
    refine g_aload0 C dX7_mend_14 (n := 15) rfl ?_
    refine kc_X7_158 C (ct_X7_findMended M1 A.2.2.1 (MR_of (t := spt A.2.2.1) (r := spr A.2.2.1) hab1.1.2.2.1) hwS hab1.1.2.2.1.2.2.1 hab1.1.2.2.1.2.2.2.1) sh_80 ⟨Nat.le_of_ble_eq_true rfl, Nat.le_of_ble_eq_true rfl⟩ ⟨Nat.zero_le _, Nat.zero_le _⟩ (Nat.le_of_ble_eq_true rfl) dX7_mend_15 (n := 18) rfl (fun M2 h2 => ?_)
    have hab := absR_fm hab1.1 h2.2.2.1 h2.2.2.2
    have hq1 : M2 80 14 = nI (mdS A.2.2.1).length := h2.2.1.1
    have hq2 : ∀ (j : Nat) q, (mdS A.2.2.1)[j]? = some q → M2 91 j = q := h2.2.1.2.1
    refine g_aload0 C dX7_mend_18 (n := 19) rfl ?_
    refine kg_X7_149 C sh_80 rfl dX7_mend_19 (n := 22) rfl ?_
    refine g_bipush C bp_120 dX7_mend_22 (n := 24) rfl ?_
    refine g_icmp_le C dX7_mend_24 (t := 30) (by decide) (n := 27) rfl (fun c_24 => ?_) (fun c_24 => ?_)
    · have hlt : ¬ 120 < (mdS A.2.2.1).length := fun h => c_24 ((qlt (show (120 : Int32) = nI 120 from rfl) hq1 (by decide) (by omega)).mpr h)
      refine g_aload0 C dX7_mend_30 (n := 31) rfl ?_
      refine kg_X7_37 C sh_80 rfl dX7_mend_31 (n := 34) rfl ?_
      refine g_iconst C ic_0 dX7_mend_34 (n := 35) rfl ?_
      refine g_iald C (j := 0) sh_90 (by decide) (nI_0.symm) (by omega) dX7_mend_35 (n := 36) rfl ?_
      have hls : M2 90 0 = nI (cS A.2.2.1 0 0 0) := h2.1 0 (Nat.le_refl _) (Nat.zero_le _) 0 (Nat.zero_le _) 0 (Nat.zero_le _)
      refine g_istore1 C dX7_mend_36 (n := 37) rfl ?_
      refine g_aload0 C dX7_mend_37 (n := 38) rfl ?_
      refine kc_X7_86 C (ct2_X7_note M2 A hab.1 hw) sh_80 ⟨Nat.le_of_ble_eq_true rfl, Nat.le_of_ble_eq_true rfl⟩ ⟨Nat.zero_le _, Nat.zero_le _⟩ (Nat.le_of_ble_eq_true rfl) dX7_mend_38 (n := 41) rfl (fun M3 h3 => ?_)
      have hs3 : spR (M3 82) A.2.2.1 := h3.1.1.2.2.1
      have hr1 : M3 80 14 = nI (mdS A.2.2.1).length := by rw [h3.2.2 14 (by omega)]; exact hq1
      have hr2 : ∀ (j : Nat) q, (mdS A.2.2.1)[j]? = some q → M3 91 j = q := fun j q hq => by rw [h3.2.1 91 (by omega) (by omega)]; exact hq2 j q hq
      refine g_iconst C ic_0 dX7_mend_41 (n := 42) rfl ?_
      refine g_istore2 C dX7_mend_42 (n := 43) rfl ?_
      have L_43 : ∀ (fu : Nat) (v : Nat) (y : Int32) (M4 : Mem), (mdS A.2.2.1).length - v < fu → (y = nI v) → (v ≤ (mdS A.2.2.1).length) → (∀ j, j < v → M4 82 j = (mdS A.2.2.1).getD j 0) → (∀ a, a ≠ 82 → M4 a = M3 a) → (∀ j, 120 ≤ j → M4 82 j = M3 82 j) → G p l e ({ frames := 6, cells := 0, slots := 0, locals := 149 }) s m ([.ref (z + 80)] : List Value).toArray below meth c D cI cO z 3 (QM below D cI cO z ([.ref (z + 80)] : List Value).toArray s SH (pI (fun r M1 => r = (opMend A).1 ∧ absR M1 (opMend A).2 ∧ fr79 M M1))) 0 0 SH M4 43 [some (.ref (z + 80)), some (.int (M2 90 0)), some (.int y)] [] := by
        intro fu_43
        induction fu_43 with
        | zero => intro v y M4 hfu; exact absurd hfu (Nat.not_lt_zero _)
        | succ fu_43 ih_43 =>
          intro v y M4 hfu_43 hy hv hB hF hT
          refine g_iload2 C dX7_mend_43 (n := 44) rfl ?_
          refine g_aload0 C dX7_mend_44 (n := 45) rfl ?_
          refine kg_X7_149 C sh_80 rfl dX7_mend_45 (n := 48) rfl ?_
          refine g_icmp_ge C dX7_mend_48 (t := 69) (by decide) (n := 51) rfl (fun c_48 => ?_) (fun c_48 => ?_)
          · have w48 : ¬ v < (mdS A.2.2.1).length := fun h => c_48 ((qlt hy (show M4 80 14 = nI (mdS A.2.2.1).length by rw [hF 80 (by omega)]; exact hr1) (by omega) (by omega)).mpr h)
            refine g_aload0 C dX7_mend_69 (n := 70) rfl ?_
            refine kg_X7_13 C sh_80 rfl dX7_mend_70 (n := 73) rfl ?_
            refine g_bipush C bp_120 dX7_mend_73 (n := 75) rfl ?_
            refine g_aload0 C dX7_mend_75 (n := 76) rfl ?_
            refine kg_X7_149 C sh_80 rfl dX7_mend_76 (n := 79) rfl ?_
            refine g_iast C (j := 120) sh_82 (by decide) (rfl) (by omega) dX7_mend_79 (n := 80) rfl (fun M5 e5 => ?_)
            refine g_iload1 C dX7_mend_80 (n := 81) rfl ?_
            refine r_I C dX7_mend_81 ?_
            rw [show opMend A = (nI (cS A.2.2.1 0 0 0), chg A (sMend A.2.2.1)) by unfold opMend; rw [if_neg hz, if_neg hlt]]
            have f5 : ∀ a, a ≠ 82 → M5 a = M3 a := fun a a1 => by rw [e5, up2_ne _ _ a1]; exact hF a a1
            have r5 : M5 82 = upd (M4 82) 120 (M4 80 14) := by rw [e5]; exact up2_row _ _ _ _
            have hS5 : spR (M5 82) (sMend A.2.2.1) := by
              rw [r5]
              refine ⟨by rw [pk_us, hF 80 (by omega)]; exact hr1, fun j hj => ?_, by rw [pk_un (by omega), hT 121 (by omega)]; exact hs3.2.2.1, by rw [pk_un (by omega), hT 122 (by omega)]; exact hs3.2.2.2.1, fun j hj => by rw [pk_un (by omega), hT (123 + j) (by omega)]; exact hs3.2.2.2.2 j hj⟩
              have hj2 : j < (mdS A.2.2.1).length := hj
              rw [pk_un (by omega)]; exact hB j (by omega)
            obtain ⟨a1, a2, a3, a4, a5⟩ := h3.1.1
            refine ⟨hls, ⟨by rw [f5 80 (by omega)]; exact a1, fun j hj => by rw [f5 81 (by omega)]; exact a2 j hj, hS5, by rw [f5 80 (by omega)]; exact a4, fun i T hi => by rw [f5 83 (by omega)]; exact a5 i T hi⟩, fun a ha => by rw [f5 a (by omega), h3.1.2.2 a ha, hab.2 a ha]; exact hab1.2 a ha⟩
          · have w48 : v < (mdS A.2.2.1).length := (qlt hy (show M4 80 14 = nI (mdS A.2.2.1).length by rw [hF 80 (by omega)]; exact hr1) (by omega) (by omega)).mp c_48
            refine g_aload0 C dX7_mend_51 (n := 52) rfl ?_
            refine kg_X7_13 C sh_80 rfl dX7_mend_52 (n := 55) rfl ?_
            refine g_iload2 C dX7_mend_55 (n := 56) rfl ?_
            refine g_aload0 C dX7_mend_56 (n := 57) rfl ?_
            refine kg_X7_40 C sh_80 rfl dX7_mend_57 (n := 60) rfl ?_
            refine g_iload2 C dX7_mend_60 (n := 61) rfl ?_
            refine g_iald C (j := v) sh_91 (by decide) (hy) (by omega) dX7_mend_61 (n := 62) rfl ?_
            refine g_iast C (j := v) sh_82 (by decide) (hy) (by omega) dX7_mend_62 (n := 63) rfl (fun M5 e5 => ?_)
            refine g_iinc2 C (inc_1 _) dX7_mend_63 (n := 66) rfl ?_
            refine g_goto C dX7_mend_66 (t := 43) (by decide) ?_
            exact ih_43 (v + 1) (y + 1) M5 (by omega) (by rw [hy, nI_1]) (by omega) (fun j hj => by
              rw [e5]
              by_cases hjv : j = v
              · rw [hjv, up2_at, hF 91 (by omega), List.getD_eq_getElem?_getD, List.getElem?_eq_getElem w48]
                exact hr2 v _ (List.getElem?_eq_getElem w48)
              · refine (show up2 M4 82 v _ 82 j = M4 82 j by simp [up2, hjv]).trans ?_
                exact hB j (by omega)) (fun a ha => by rw [e5, up2_ne _ _ ha]; exact hF a ha) (fun j hj => by
              rw [e5]
              refine (show up2 M4 82 v _ 82 j = M4 82 j by simp [up2]; omega).trans ?_
              exact hT j hj)
      exact L_43 ((mdS A.2.2.1).length + 1) 0 0 M3 (by omega) nI_0.symm (by omega) (fun j hj => absurd hj (Nat.not_lt_zero _)) (fun _ _ => rfl) (fun _ _ => rfl)
    · have hlt : 120 < (mdS A.2.2.1).length := (qlt (show (120 : Int32) = nI 120 from rfl) hq1 (by decide) (by omega)).mp c_24
      refine g_bipush C bp_m3 dX7_mend_27 (n := 29) rfl ?_
      refine r_I C dX7_mend_29 ?_
      rw [show opMend A = (-3, A) by unfold opMend; rw [if_neg hz, if_pos hlt]]
      exact ⟨rfl, hab.1, fun a ha => by rw [hab.2 a ha]; exact hab1.2 a ha⟩
  · have hz : (wlE A.2.2.1).length = 0 := (qeq h1.1.1 nI_0.symm (by omega) (by decide)).mp c_8
    refine g_bipush C bp_m2 dX7_mend_11 (n := 13) rfl ?_
    refine r_I C dX7_mend_13 ?_
    rw [show opMend A = (-2, A) from if_pos hz]
    exact ⟨rfl, hab1⟩
