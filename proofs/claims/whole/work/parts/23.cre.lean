/-! the class reads: due, free, whole -/
def nvS (S : Spt) (i : Nat) : Int32 := if kd S i = 6 then -1 else nI (7 * (nxK S i).1 + (nxK S i).2)
theorem nv_eq {S : Spt} {i : Nat} (h : kd S i ≠ 5) : stI (nxt (spt S) (spr S) (rD S i) 0 (spg S i)) = nvS S i := by
  rw [nx_n5 h]; unfold nvS; split <;> rfl
theorem nxK_b (S : Spt) (i : Nat) : 7 * (nxK S i).1 + (nxK S i).2 < 100 := by
  rw [← rDU_s]
  have := rD_le S (i + 1)
  have := rU_lt S (i + 1)
  omega
theorem nv_6 {S : Spt} {i : Nat} : nvS S i = -1 ↔ kd S i = 6 := by
  unfold nvS
  constructor
  · intro h
    by_cases h6 : kd S i = 6
    · exact h6
    · rw [if_neg h6] at h
      exact absurd h (nI_neg (by have := nxK_b S i; omega) (by decide))
  · intro h; rw [if_pos h]
theorem nx_uS {S : Spt} {d u : Nat} {c : Int32} (h : u ≠ 0) : nxt (spt S) (spr S) d u c = if c = duS S d u then some (d, u - 1) else none := nx_u h
/-- a sign that is kept as what it is and no more -/
theorem RC_k {M M' : Mem} {S : Spt} {i st : Nat} {L : List (Nat × Nat)} {v : Int32} (h : RC M S i L st) (e : M' = up2 M 47 i v) (hv : v = nI (kd S i)) (hk : kd S i = 1 ∨ kd S i = 6) : RC M' S (i + 1) L st := by
  obtain ⟨q1, q2, q3, q4, q5, q6, q7, q8, q9, q10, q11⟩ := h
  have f : ∀ a, a ≠ 47 → M' a = M a := fun a ha => by rw [e, up2_ne _ _ ha]
  have f40 : M' 40 = M 40 := f 40 (by omega)
  refine ⟨WRc_cong q1 (by rw [f40]) (f _ (by omega)), KDc_s q2 (by rw [e]; exact up2_row _ _ _ _) hv, PTc_n q3 (f _ (by omega)) (by omega) (by omega), LVc_n q4 (f _ (by omega)) (by omega) (by omega) (by omega), QTc_n q5 (by omega) (by omega) (by rw [f40]) (fun q o hq w hw => ?_), OQc_n q6 (f _ (by omega)) (by omega) (by omega), PGc_n q7 (f _ (by omega)) (by rw [f40]) (by omega) (by omega) (by omega), LTc_n q8 (f _ (by omega)) (by omega), by rw [f40, mxD_n (by omega)]; exact q9, by rw [f40]; exact q10, GRc_cong q11 (f _ (by omega)) (f _ (by omega)) (f _ (by omega))⟩
  rw [f 57 (by omega), qsel_4 (by omega) (by omega) (by omega), if_neg (by simp)]
  exact (Int32.add_zero _).symm
theorem RC_0 {M M' : Mem} {S : Spt} {i st pc : Nat} {L : List (Nat × Nat)} {v : Int32} (h : RC M S i L st) (hk : kd S i = 0) (hpc : pc = ctn (kdIs S 2) i) (e47 : M' 47 = upd (M 47) i v) (hv : v = 0) (e61 : M' 61 = upd (M 61) (rD S i) (M 61 (rD S i) + 1)) (e59 : M' 59 = upd (M 59) (3 * pc + 1) (M 59 (3 * pc + 1) + 1))
    (e57 : ∀ q o, isQ S i q o → ∀ w, w < 7 → M' 57 (7 * q + w) = M 57 (7 * q + w) + (if 3 ≤ w ∧ clo S i o = none ∧ qsel S o w i = true then 1 else 0)) (f : ∀ a, a ≠ 47 → a ≠ 57 → a ≠ 59 → a ≠ 61 → M' a = M a) : RC M' S (i + 1) L st := by
  obtain ⟨q1, q2, q3, q4, q5, q6, q7, q8, q9, q10, q11⟩ := h
  have f40 : M' 40 = M 40 := f 40 (by omega) (by omega) (by omega) (by omega)
  subst hpc
  exact ⟨WRc_cong q1 (by rw [f40]) (f _ (by omega) (by omega) (by omega) (by omega)), KDc_s q2 e47 (by rw [hv, hk]; rfl), PTc_n q3 (f _ (by omega) (by omega) (by omega) (by omega)) (by omega) (by omega), LVc_n q4 (f _ (by omega) (by omega) (by omega) (by omega)) (by omega) (by omega) (by omega), QTc_n q5 (by omega) (by omega) (by rw [f40]) e57, OQc_n q6 (f _ (by omega) (by omega) (by omega) (by omega)) (by omega) (by omega), PGc_c q7 (Or.inl ⟨hk, rfl⟩) e59 (by rw [f40]), LTc_c q8 hk e61, by rw [f40, mxD_n (by omega)]; exact q9, by rw [f40]; exact q10, GRc_cong q11 (f _ (by omega) (by omega) (by omega) (by omega)) (f _ (by omega) (by omega) (by omega) (by omega)) (f _ (by omega) (by omega) (by omega) (by omega))⟩
theorem RC_2 {M M' : Mem} {S : Spt} {i st : Nat} {L : List (Nat × Nat)} {v : Int32} (h : RC M S i L st) (hk : kd S i = 2) (e47 : M' 47 = upd (M 47) i v) (hv : v = 2)
    (e59 : ∀ x, M' 59 x = if x = 3 * (ctn (kdIs S 2) i + 1) then nI (rD S i) else if x = 3 * (ctn (kdIs S 2) i + 1) + 1 ∨ x = 3 * (ctn (kdIs S 2) i + 1) + 2 then 0 else M 59 x) (e10 : M' 40 10 = nI (ctn (kdIs S 2) i + 1 + 1))
    (e57 : ∀ q o, isQ S i q o → ∀ w, w < 7 → M' 57 (7 * q + w) = M 57 (7 * q + w) + (if w = 5 ∧ clo S i o = none then 1 else 0)) (f : ∀ a, a ≠ 40 → a ≠ 47 → a ≠ 57 → a ≠ 59 → M' a = M a) (g : ∀ j, j ≠ 10 → M' 40 j = M 40 j) : RC M' S (i + 1) L st := by
  obtain ⟨q1, q2, q3, q4, q5, q6, q7, q8, q9, q10, q11⟩ := h
  refine ⟨WRc_cong q1 (g _ (by omega)) (f _ (by omega) (by omega) (by omega) (by omega)), KDc_s q2 e47 (by rw [hv, hk]; rfl), PTc_n q3 (f _ (by omega) (by omega) (by omega) (by omega)) (by omega) (by omega), LVc_n q4 (f _ (by omega) (by omega) (by omega) (by omega)) (by omega) (by omega) (by omega), QTc_n q5 (by omega) (by omega) (g _ (by omega)) (fun q o hq w hw => ?_), OQc_n q6 (f _ (by omega) (by omega) (by omega) (by omega)) (by omega) (by omega), PGc_b q7 hk e59 e10, LTc_n q8 (f _ (by omega) (by omega) (by omega) (by omega)) (by omega), by rw [g _ (by omega), mxD_n (by omega)]; exact q9, by rw [g _ (by omega)]; exact q10, GRc_cong q11 (f _ (by omega) (by omega) (by omega) (by omega)) (f _ (by omega) (by omega) (by omega) (by omega)) (f _ (by omega) (by omega) (by omega) (by omega))⟩
  rw [e57 q o hq w hw]
  congr 1
  by_cases h5 : w = 5
  · subst h5
    have hs : qsel S o 5 i = true := by unfold qsel; simp [hk]
    by_cases hc : clo S i o = none
    · rw [if_pos ⟨rfl, hc⟩, if_pos ⟨by omega, hc, hs⟩]
    · rw [if_neg (fun z => hc z.2), if_neg (fun z => hc z.2.1)]
  · have hs : qsel S o w i = false := by
      unfold qsel
      split
      · simp [hk]
      · split
        · simp [hk]
        · first | rw [if_neg h5] | skip
          simp [hk]
    rw [if_neg (fun z => h5 z.1), if_neg (fun z => by rw [hs] at z; exact Bool.noConfusion z.2.2)]
theorem RC_5 {M M' : Mem} {S : Spt} {i st st' : Nat} {L : List (Nat × Nat)} {v y : Int32} (h : RC M S i L st) (hk : kd S i = 5) (e47 : M' 47 = upd (M 47) i v) (hv : v = 5) (e53 : M' 53 = upd (M 53) i y) (hy : y = nI (levS S i)) (e59 : M' 59 = upd (M 59) (3 * ctn (kdIs S 2) i + 2) (M 59 (3 * ctn (kdIs S 2) i + 2) + 1)) (e14 : M' 40 14 = nI st') (f : ∀ a, a ≠ 40 → a ≠ 47 → a ≠ 53 → a ≠ 59 → M' a = M a) (g : ∀ j, j ≠ 14 → M' 40 j = M 40 j) : RC M' S (i + 1) L st' := by
  obtain ⟨q1, q2, q3, q4, q5, q6, q7, q8, q9, q10, q11⟩ := h
  refine ⟨WRc_cong q1 (g _ (by omega)) (f _ (by omega) (by omega) (by omega) (by omega)), KDc_s q2 e47 (by rw [hv, hk]; rfl), PTc_n q3 (f _ (by omega) (by omega) (by omega) (by omega)) (by omega) (by omega), LVc_s q4 e53 hy, QTc_n q5 (by omega) (by omega) (g _ (by omega)) (fun q o hq w hw => ?_), OQc_n q6 (f _ (by omega) (by omega) (by omega) (by omega)) (by omega) (by omega), PGc_c q7 (Or.inr ⟨hk, rfl⟩) e59 (g _ (by omega)), LTc_n q8 (f _ (by omega) (by omega) (by omega) (by omega)) (by omega), by rw [g _ (by omega), mxD_n (by omega)]; exact q9, e14, GRc_cong q11 (f _ (by omega) (by omega) (by omega) (by omega)) (f _ (by omega) (by omega) (by omega) (by omega)) (f _ (by omega) (by omega) (by omega) (by omega))⟩
  rw [f 57 (by omega) (by omega) (by omega) (by omega), qsel_4 (by omega) (by omega) (by omega), if_neg (by simp)]
  exact (Int32.add_zero _).symm
theorem DPc_s {M M' : Mem} {S : Spt} {i : Nat} {v : Int32} (h : DPc M S i) (e : M' 49 = upd (M 49) i v) (hv : v = nI (rD S (i + 1))) : DPc M' S (i + 1) := fun k hk => by
  rw [e]
  by_cases hki : k = i
  · rw [hki, pk_us]; exact hv
  · rw [pk_un hki]; exact h k (by omega)
theorem RC_cong {M M' : Mem} {S : Spt} {i st : Nat} {L : List (Nat × Nat)} (h : RC M S i L st) (f : ∀ a, a ≠ 49 → M' a = M a) : RC M' S i L st := by
  unfold RC WRc KDc PTc LVc QTc OQc PGc LTc GRc at *
  rw [f 40 (by omega), f 55 (by omega), f 47 (by omega), f 51 (by omega), f 53 (by omega), f 57 (by omega), f 63 (by omega), f 59 (by omega), f 61 (by omega), f 41 (by omega)]
  obtain ⟨q1, q2, q3, q4, q5, q6, q7, q8, q9, q10, q11, q12⟩ := h
  exact ⟨q1, q2, q3, q4, q5, q6, q7, q8, q9, q10, GOK_cong (f 43 (by omega)) (f 45 (by omega)) q11, q12⟩
theorem RC_Rd {M : Mem} {S : Spt} (h : RC M S (spn S) (wlE S) (7 * rD S (spn S) + rU S (spn S))) (hD : DPc M S (spn S)) : RdOK M S := by
  obtain ⟨q1, q2, q3, q4, q5, q6, q7, q8, q9, q10, q11⟩ := h
  refine ⟨q1, fun i hi => ⟨q2 i hi, hD i hi, (q3 i hi).1, fun h4 => ?_, q4 i hi⟩, q5, q7, q8, q9, q10⟩
  obtain ⟨o, h1, h2⟩ := (q3 i hi).2 h4
  exact ⟨o, by rw [List.head?_eq_getElem?]; exact h1, h2⟩

set_option maxHeartbeats 4000000 in
set_option maxRecDepth 100000 in
theorem ct_X3_renews {l : Launch} {D : va_G} {cI cO : ClassId} {z tP : Nat} {aK aV : Nat → Nat} (M : Mem) (S : Spt) (i : Nat) (x c0 : Int32) (hR : RC M S i (wrL S i) (7 * rD S i + rU S i)) (hx : x = nI i) (hi : i < 120) (hc : c0 = spg S i) (hc0 : c0 ≠ 0) (ht : spt S < 4) (hr : spr S < 3) : Cm l D cI cO z tP aK aV yX3_renews cX3_renews 4 (some .boolean) 3 66 [.ref (z + 40), .int x, .int c0] SH M (pI (fun r M1 => ((r = 1 ∧ kd S i = 5 ∧ RC M1 S (i + 1) (wrL S (i + 1)) (7 * rD S (i + 1) + rU S (i + 1))) ∨ (r = 0 ∧ kd S i ≠ 5 ∧ RC M1 S i (wr3 S i) (7 * rD S i))) ∧ M1 49 = M 49 ∧ frR M M1)) := by
  refine cm_intro (lv0 := [some (.ref (z + 40)), some (.int x), some (.int c0), none]) (by decide) rfl (Nat.le_of_ble_eq_true rfl) rfl (fun p e s m below meth c C => ?_)
  have hd6 := rD_le S i
  have hu7 := rU_lt S i
  have hul := rU_le S i
  have hR0 := hR
  obtain ⟨hW, hK, hPT, hLV, hQ, hO, hPG, hLT, h13, hst, hGR⟩ := hR0
  have hct := ctn_le (kdIs S 2) i
  refine g_aload0 C dX3_renews_0 (n := 1) rfl ?_
  refine kg_X3_51 C sh_40 rfl dX3_renews_1 (n := 4) rfl ?_
  refine kc_X3_93 C (ct_X0_leftDue SH M (rD S i) (rU S i) _ hst hd6 hu7) ⟨Nat.le_of_ble_eq_true rfl, Nat.le_of_ble_eq_true rfl⟩ ⟨Nat.zero_le _, Nat.zero_le _⟩ (Nat.le_of_ble_eq_true rfl) dX3_renews_4 (n := 7) rfl (fun r_4 M_4 h_4 => ?_)
  rw [h_4.1, h_4.2]
  refine g_istore3 C dX3_renews_7 (n := 8) rfl ?_
  refine g_iload3 C dX3_renews_8 (n := 9) rfl ?_
  refine g_if_ne C dX3_renews_9 (t := 14) (by decide) (n := 12) rfl (fun c_9 => ?_) (fun c_9 => ?_)
  · have w9 : ¬ rU S i = 0 := fun h => c_9 ((qeq (rfl : nI (rU S i) = _) nI_0.symm (by omega) (by decide)).mpr h)
    refine g_aload0 C dX3_renews_14 (n := 15) rfl ?_
    refine kg_X3_12 C sh_40 rfl dX3_renews_15 (n := 18) rfl ?_
    refine g_aload0 C dX3_renews_18 (n := 19) rfl ?_
    refine kg_X3_51 C sh_40 rfl dX3_renews_19 (n := 22) rfl ?_
    refine g_iload2 C dX3_renews_22 (n := 23) rfl ?_
    refine kc_X3_117 C (ct_X0_step SH M 41 (spt S) (spr S) (rD S i) (rU S i) _ c0 grammar_41 hGR.1 hGR.2.2 ht hr hst hd6 hul hc0) sh_41 ⟨Nat.le_of_ble_eq_true rfl, Nat.le_of_ble_eq_true rfl⟩ ⟨Nat.zero_le _, Nat.zero_le _⟩ (Nat.le_of_ble_eq_true rfl) dX3_renews_23 (n := 26) rfl (fun r_23 M_23 h_23 => ?_)
    rw [h_23.1, h_23.2, nx_uS w9]
    refine g_iconst C ic_m1 dX3_renews_26 (n := 27) rfl ?_
    refine g_icmp_ne C dX3_renews_27 (t := 48) (by decide) (n := 30) rfl (fun c_27 => ?_) (fun c_27 => ?_)
    · have hdu : spg S i = duS S (rD S i) (rU S i) := by
        by_cases h : spg S i = duS S (rD S i) (rU S i)
        · exact h
        · rw [if_neg (fun q => h (hc.symm.trans q))] at c_27
          exact absurd rfl c_27
      have hk5 := kd_5 w9 hdu
      refine g_aload0 C dX3_renews_48 (n := 49) rfl ?_
      refine kg_X3_23 C sh_40 rfl dX3_renews_49 (n := 52) rfl ?_
      refine g_iload1 C dX3_renews_52 (n := 53) rfl ?_
      refine g_iconst C ic_5 dX3_renews_53 (n := 54) rfl ?_
      refine kc_X3_90 C (ct_X4_set SH M 46 120 i _ 5 row_46 hx hi) sh_46 ⟨Nat.le_of_ble_eq_true rfl, Nat.le_of_ble_eq_true rfl⟩ ⟨Nat.zero_le _, Nat.zero_le _⟩ (Nat.le_of_ble_eq_true rfl) dX3_renews_54 (n := 57) rfl (fun M2 e2 => ?_)
      refine g_aload0 C dX3_renews_57 (n := 58) rfl ?_
      refine kg_X3_33 C sh_40 rfl dX3_renews_58 (n := 61) rfl ?_
      refine g_iload1 C dX3_renews_61 (n := 62) rfl ?_
      refine g_aload0 C dX3_renews_62 (n := 63) rfl ?_
      refine kg_X3_12 C sh_40 rfl dX3_renews_63 (n := 66) rfl ?_
      refine g_aload0 C dX3_renews_66 (n := 67) rfl ?_
      refine kg_X3_51 C sh_40 rfl dX3_renews_67 (n := 70) rfl ?_
      refine kc_X3_121 C (ct_X0_firstDue SH M2 41 (spr S) (rD S i) (rU S i) _ grammar_41 (by rw [e2, up2_ne _ _ (by omega)]; exact hGR.2.2) hr (by rw [e2, up2_ne _ _ (by omega)]; exact hst) hd6 hu7 hul) sh_41 ⟨Nat.le_of_ble_eq_true rfl, Nat.le_of_ble_eq_true rfl⟩ ⟨Nat.zero_le _, Nat.zero_le _⟩ (Nat.le_of_ble_eq_true rfl) dX3_renews_70 (n := 73) rfl (fun r_70 M_70 h_70 => ?_)
      rw [h_70.1, h_70.2]
      refine kc_X3_90 C (ct_X4_set SH M2 52 120 i _ _ row_52 hx hi) sh_52 ⟨Nat.le_of_ble_eq_true rfl, Nat.le_of_ble_eq_true rfl⟩ ⟨Nat.zero_le _, Nat.zero_le _⟩ (Nat.le_of_ble_eq_true rfl) dX3_renews_73 (n := 76) rfl (fun M3 e3 => ?_)
      refine g_aload0 C dX3_renews_76 (n := 77) rfl ?_
      refine g_iconst C ic_2 dX3_renews_77 (n := 78) rfl ?_
      refine kc_X3_124 C (ct_X3_addToParagraph M3 (ctn (kdIs S 2) i) 2 2 (by rw [e3, up2_ne _ _ (by omega), e2, up2_ne _ _ (by omega)]; exact hPG.1) (by omega) rfl (by decide)) sh_40 ⟨Nat.le_of_ble_eq_true rfl, Nat.le_of_ble_eq_true rfl⟩ ⟨Nat.zero_le _, Nat.zero_le _⟩ (Nat.le_of_ble_eq_true rfl) dX3_renews_78 (n := 81) rfl (fun M4 e4 => ?_)
      refine g_aload0 C dX3_renews_81 (n := 82) rfl ?_
      refine g_dup C rfl dX3_renews_82 (n := 83) rfl ?_
      refine kg_X3_51 C sh_40 rfl dX3_renews_83 (n := 86) rfl ?_
      refine g_iconst C ic_1 dX3_renews_86 (n := 87) rfl ?_
      refine g_isub C dX3_renews_87 (n := 88) rfl ?_
      refine kp_X3_51 C sh_40 rfl dX3_renews_88 (n := 91) rfl (fun M5 e5 => ?_)
      refine g_iconst C ic_1 dX3_renews_91 (n := 92) rfl ?_
      refine r_Z C dX3_renews_92 rfl ?_
      have f : ∀ a, a ≠ 40 → a ≠ 47 → a ≠ 53 → a ≠ 59 → M5 a = M a := fun a a1 a2 a3 a4 => by rw [e5, up2_ne _ _ a1, e4, up2_ne _ _ a4, e3, up2_ne _ _ a3, e2, up2_ne _ _ a2]
      have f4 : M4 40 = M 40 := by rw [e4, up2_ne _ _ (by omega), e3, up2_ne _ _ (by omega), e2, up2_ne _ _ (by omega)]
      have hpos := kd5_pos hk5
      refine ⟨Or.inl ⟨rfl, hk5, ?_⟩, f 49 (by omega) (by omega) (by omega) (by omega), fun a ha => f a (by omega) (by omega) (by omega) (by omega)⟩
      rw [rDU_s, show nxK S i = (rD S i, rU S i - 1) by unfold nxK; rw [if_pos hk5], wr_s, w3_n (Or.inr hdu), hk5]
      simp
      refine RC_5 (v := 5) (y := nI (dmy (spr S) (rD S i) - rU S i)) hR hk5 ?_ rfl ?_ (by unfold levS; rw [if_pos hk5]) ?_ ?_ f (fun j hj => by rw [e5]; simp [up2, hj]; rw [f4])
      · rw [e5, up2_ne _ _ (by omega), e4, up2_ne _ _ (by omega), e3, up2_ne _ _ (by omega), e2]; exact up2_row _ _ _ _
      · rw [e5, up2_ne _ _ (by omega), e4, up2_ne _ _ (by omega), e3]; refine (up2_row _ _ _ _).trans ?_; rw [e2, up2_ne _ _ (by omega)]
      · rw [e5, up2_ne _ _ (by omega), e4]; refine (up2_row _ _ _ _).trans ?_; rw [e3, up2_ne _ _ (by omega), e2, up2_ne _ _ (by omega)]
      · rw [e5, up2_at, f4, e_sub hst (show (1 : Int32) = nI 1 from rfl) (by omega), Nat.add_sub_assoc hpos]
    · have hdu : spg S i ≠ duS S (rD S i) (rU S i) := fun h => by
        rw [if_pos (hc.trans h)] at c_27
        exact absurd c_27 (nI_neg (by show 7 * rD S i + (rU S i - 1) < 2 ^ 31; omega) (by decide))
      refine g_aload0 C dX3_renews_30 (n := 31) rfl ?_
      refine g_iload1 C dX3_renews_31 (n := 32) rfl ?_
      refine g_iconst C ic_3 dX3_renews_32 (n := 33) rfl ?_
      refine kc_X3_96 C (ct_X3_addWrong M (wrL S i) i 3 x 3 hW (by have := wr_len S i; omega) hx rfl) sh_40 ⟨Nat.le_of_ble_eq_true rfl, Nat.le_of_ble_eq_true rfl⟩ ⟨Nat.zero_le _, Nat.zero_le _⟩ (Nat.le_of_ble_eq_true rfl) dX3_renews_33 (n := 36) rfl (fun M2 h2 => ?_)
      refine g_aload0 C dX3_renews_36 (n := 37) rfl ?_
      refine g_dup C rfl dX3_renews_37 (n := 38) rfl ?_
      refine kg_X3_51 C sh_40 rfl dX3_renews_38 (n := 41) rfl ?_
      refine g_iload3 C dX3_renews_41 (n := 42) rfl ?_
      refine g_isub C dX3_renews_42 (n := 43) rfl ?_
      refine kp_X3_51 C sh_40 rfl dX3_renews_43 (n := 46) rfl (fun M3 e3 => ?_)
      refine g_iconst C ic_0 dX3_renews_46 (n := 47) rfl ?_
      refine r_Z C dX3_renews_47 rfl ?_
      have hR2 : RC M2 S i (wr3 S i) (7 * rD S i + rU S i) := RC_wr hR (by unfold wr3; rw [w3_y w9 hdu]; exact h2.1) h2.2.1 h2.2.2
      refine ⟨Or.inr ⟨rfl, kd_5n (Or.inr hdu), RC_st hR2 e3 (by rw [h2.2.2 14 (by omega), e_sub hst (rfl : nI (rU S i) = _) (by omega), Nat.add_sub_cancel])⟩, by rw [e3, up2_ne _ _ (by omega)]; exact h2.2.1 49 (by omega) (by omega), fun a ha => by rw [e3, up2_ne _ _ (by omega)]; exact h2.2.1 a (by omega) (by omega)⟩
  · have w9 : rU S i = 0 := (qeq (rfl : nI (rU S i) = _) nI_0.symm (by omega) (by decide)).mp c_9
    refine g_iconst C ic_0 dX3_renews_12 (n := 13) rfl ?_
    refine r_Z C dX3_renews_13 rfl ?_
    exact ⟨Or.inr ⟨rfl, kd_5n (Or.inl w9), by unfold wr3; rw [w3_n (Or.inl w9)]; simp; rw [w9] at hR; exact hR⟩, rfl, fun _ _ => rfl⟩
set_option maxHeartbeats 4000000 in
set_option maxRecDepth 100000 in
theorem ct_X3_readWithNothingDue {l : Launch} {D : va_G} {cI cO : ClassId} {z tP : Nat} {aK aV : Nat → Nat} (M : Mem) (S : Spt) (i : Nat) (x c0 : Int32) (hR : RC M S i (wr3 S i) (7 * rD S i)) (hk : kd S i ≠ 5) (hx : x = nI i) (hi : i < 120) (hc : c0 = spg S i) (hc0 : c0 ≠ 0) (ht : spt S < 4) (hr : spr S < 3) : Cm l D cI cO z tP aK aV yX3_readWithNothingDue cX3_readWithNothingDue 4 none 3 69 [.ref (z + 40), .int x, .int c0] SH M (pV (fun M1 => RC M1 S (i + 1) (wrL S (i + 1)) (7 * rD S (i + 1) + rU S (i + 1)) ∧ M1 49 = M 49 ∧ frR M M1)) := by
  refine cm_intro (lv0 := [some (.ref (z + 40)), some (.int x), some (.int c0), none]) (by decide) rfl (Nat.le_of_ble_eq_true rfl) rfl (fun p e s m below meth c C => ?_)
  have hd6 := rD_le S i
  have hu7 := rU_lt S i
  have hul := rU_le S i
  have hR0 := hR
  obtain ⟨hW, hK, hPT, hLV, hQ, hO, hPG, hLT, h13, hst, hGR⟩ := hR0
  have hct := ctn_le (kdIs S 2) i
  have hkn := kd_n5 hk
  rw [← hc] at hkn
  have hnx := nv_eq hk
  rw [← hc] at hnx
  have hwr : kd S i ≠ 6 → wrL S (i + 1) = wr3 S i := fun h6 => by rw [wr_s, if_neg h6, List.append_nil]; rfl
  have J_141 : ∀ (M9 : Mem), (RC M9 S (i + 1) (wrL S (i + 1)) (7 * rD S i)) → (M9 49 = M 49) → (frR M M9) → G p l e ({ frames := 3, cells := 0, slots := 0, locals := 69 }) s m ([.ref (z + 40), .int x, .int c0] : List Value).toArray below meth c D cI cO z 4 (QM below D cI cO z ([.ref (z + 40), .int x, .int c0] : List Value).toArray s SH (pV (fun M1 => RC M1 S (i + 1) (wrL S (i + 1)) (7 * rD S (i + 1) + rU S (i + 1)) ∧ M1 49 = M 49 ∧ frR M M1))) 0 0 SH M9 141 [some (.ref (z + 40)), some (.int x), some (.int c0), some (.int (nvS S i))] [] := by
    intro M9 hRC h49 hfr
    refine g_iload3 C dX3_readWithNothingDue_141 (n := 142) rfl ?_
    refine g_iconst C ic_m1 dX3_readWithNothingDue_142 (n := 143) rfl ?_
    refine g_icmp_eq C dX3_readWithNothingDue_143 (t := 151) (by decide) (n := 146) rfl (fun c_143 => ?_) (fun c_143 => ?_)
    · have hk6 := nv_6.mp c_143
      have hfin : RC M9 S (i + 1) (wrL S (i + 1)) (7 * rD S (i + 1) + rU S (i + 1)) ∧ M9 49 = M 49 ∧ frR M M9 := by
        rw [rDU_s, show nxK S i = (rD S i, 0) by unfold nxK; rw [if_neg (by omega), if_neg (by omega), if_neg (by omega), if_neg (by omega)]]
        exact ⟨hRC, h49, hfr⟩
      refine r_V C dX3_readWithNothingDue_151 ?_
      exact hfin
    · have hn6 : ¬ kd S i = 6 := fun h => c_143 (nv_6.mpr h)
      refine g_aload0 C dX3_readWithNothingDue_146 (n := 147) rfl ?_
      refine g_iload3 C dX3_readWithNothingDue_147 (n := 148) rfl ?_
      refine kp_X3_51 C sh_40 rfl dX3_readWithNothingDue_148 (n := 151) rfl (fun M8 e8 => ?_)
      have hfin : RC M8 S (i + 1) (wrL S (i + 1)) (7 * rD S (i + 1) + rU S (i + 1)) ∧ M8 49 = M 49 ∧ frR M M8 := by
        rw [rDU_s]
        exact ⟨RC_st hRC e8 (by unfold nvS; rw [if_neg hn6]), by rw [e8, up2_ne _ _ (by omega)]; exact h49, fun a ha => by rw [e8, up2_ne _ _ (by omega)]; exact hfr a ha⟩
      refine r_V C dX3_readWithNothingDue_151 ?_
      exact hfin
  refine g_aload0 C dX3_readWithNothingDue_0 (n := 1) rfl ?_
  refine kg_X3_12 C sh_40 rfl dX3_readWithNothingDue_1 (n := 4) rfl ?_
  refine g_aload0 C dX3_readWithNothingDue_4 (n := 5) rfl ?_
  refine kg_X3_51 C sh_40 rfl dX3_readWithNothingDue_5 (n := 8) rfl ?_
  refine g_iload2 C dX3_readWithNothingDue_8 (n := 9) rfl ?_
  refine kc_X3_117 C (ct_X0_step SH M 41 (spt S) (spr S) (rD S i) 0 _ c0 grammar_41 hGR.1 hGR.2.2 ht hr hst hd6 (Nat.zero_le _) hc0) sh_41 ⟨Nat.le_of_ble_eq_true rfl, Nat.le_of_ble_eq_true rfl⟩ ⟨Nat.zero_le _, Nat.zero_le _⟩ (Nat.le_of_ble_eq_true rfl) dX3_readWithNothingDue_9 (n := 12) rfl (fun r_9 M_9 h_9 => ?_)
  rw [h_9.1, h_9.2, hnx]
  refine g_istore3 C dX3_readWithNothingDue_12 (n := 13) rfl ?_
  refine g_iload2 C dX3_readWithNothingDue_13 (n := 14) rfl ?_
  refine kc_X3_127 C (ct_X6_isLetter SH M c0) ⟨Nat.le_of_ble_eq_true rfl, Nat.le_of_ble_eq_true rfl⟩ ⟨Nat.zero_le _, Nat.zero_le _⟩ (Nat.le_of_ble_eq_true rfl) dX3_readWithNothingDue_14 (n := 17) rfl (fun r_14 M_14 h_14 => ?_)
  rw [h_14.1, h_14.2]
  refine g_if_eq C dX3_readWithNothingDue_17 (t := 36) (by decide) (n := 20) rfl (fun c_17 => ?_) (fun c_17 => ?_)
  · have hl := bI_0.mp c_17
    refine g_iload2 C dX3_readWithNothingDue_36 (n := 37) rfl ?_
    refine g_bipush C bp_32 dX3_readWithNothingDue_37 (n := 39) rfl ?_
    refine g_icmp_ne C dX3_readWithNothingDue_39 (t := 54) (by decide) (n := 42) rfl (fun c_39 => ?_) (fun c_39 => ?_)
    · have _u := True.intro
      refine g_iload2 C dX3_readWithNothingDue_54 (n := 55) rfl ?_
      refine g_bipush C bp_124 dX3_readWithNothingDue_55 (n := 57) rfl ?_
      refine g_icmp_ne C dX3_readWithNothingDue_57 (t := 81) (by decide) (n := 60) rfl (fun c_57 => ?_) (fun c_57 => ?_)
      · have hk346 : kd S i = 3 ∨ kd S i = 4 ∨ kd S i = 6 := by
          rcases hkn with h | h | h | h
          · have q := h.1; rw [hl] at q; cases q
          · exact absurd h.2.1 c_39
          · exact absurd h.2.2.1 c_57
          · exact h.2.2.2
        refine g_iload3 C dX3_readWithNothingDue_81 (n := 82) rfl ?_
        refine g_iconst C ic_m1 dX3_readWithNothingDue_82 (n := 83) rfl ?_
        refine g_icmp_ne C dX3_readWithNothingDue_83 (t := 120) (by decide) (n := 86) rfl (fun c_83 => ?_) (fun c_83 => ?_)
        · have hk34 : kd S i = 3 ∨ kd S i = 4 := by
            rcases hk346 with h | h | h
            · exact Or.inl h
            · exact Or.inr h
            · exact absurd (nv_6.mpr h) c_83
          refine g_iload3 C dX3_readWithNothingDue_120 (n := 121) rfl ?_
          refine g_aload0 C dX3_readWithNothingDue_121 (n := 122) rfl ?_
          refine kg_X3_51 C sh_40 rfl dX3_readWithNothingDue_122 (n := 125) rfl ?_
          refine g_icmp_le C dX3_readWithNothingDue_125 (t := 136) (by decide) (n := 128) rfl (fun c_125 => ?_) (fun c_125 => ?_)
          · have hk4 : kd S i = 4 := by
              rcases hk34 with h | h
              · have h6 := kd3_lt h
                refine absurd ((qlt hst (show nvS S i = nI (7 * (rD S i + 1) + 0) by unfold nvS nxK; rw [if_neg (by omega), if_neg (by omega), if_neg (by omega), if_pos h]) (by omega) (by omega)).mpr (by omega)) c_125
              · exact h
            refine g_aload0 C dX3_readWithNothingDue_136 (n := 137) rfl ?_
            refine g_iload1 C dX3_readWithNothingDue_137 (n := 138) rfl ?_
            refine kc_X3_143 C (ct_X3_closeQuote M S i (wr3 S i) x hR hx hi hk4) sh_40 ⟨Nat.le_of_ble_eq_true rfl, Nat.le_of_ble_eq_true rfl⟩ ⟨Nat.zero_le _, Nat.zero_le _⟩ (Nat.le_of_ble_eq_true rfl) dX3_readWithNothingDue_138 (n := 141) rfl (fun M2 h2 => ?_)
            have hRC : RC M2 S (i + 1) (wrL S (i + 1)) (7 * rD S i) := by
              rw [hwr (by omega)]; exact h2.1
            have h49 := h2.2.1
            have hfr := h2.2.2
            exact J_141 _ hRC h49 hfr
          · have hk3 : kd S i = 3 := by
              rcases hk34 with h | h
              · exact h
              · have h9 := (qlt hst (show nvS S i = nI (7 * (rD S i - 1) + 0) by unfold nvS nxK; rw [if_neg (by omega), if_neg (by omega), if_neg (by omega), if_neg (by omega), if_pos h]) (by omega) (by omega)).mp c_125
                omega
            refine g_aload0 C dX3_readWithNothingDue_128 (n := 129) rfl ?_
            refine g_iload1 C dX3_readWithNothingDue_129 (n := 130) rfl ?_
            refine kc_X3_140 C (ct_X3_openQuote M S i (wr3 S i) x hR hx hi hk3) sh_40 ⟨Nat.le_of_ble_eq_true rfl, Nat.le_of_ble_eq_true rfl⟩ ⟨Nat.zero_le _, Nat.zero_le _⟩ (Nat.le_of_ble_eq_true rfl) dX3_readWithNothingDue_130 (n := 133) rfl (fun M2 h2 => ?_)
            have hRC : RC M2 S (i + 1) (wrL S (i + 1)) (7 * rD S i) := by
              rw [hwr (by omega)]; exact h2.1
            have h49 := h2.2.1
            have hfr := h2.2.2
            refine g_goto C dX3_readWithNothingDue_133 (t := 141) (by decide) ?_
            exact J_141 _ hRC h49 hfr
        · have hk6 := nv_6.mp c_83
          refine g_aload0 C dX3_readWithNothingDue_86 (n := 87) rfl ?_
          refine kg_X3_23 C sh_40 rfl dX3_readWithNothingDue_87 (n := 90) rfl ?_
          refine g_iload1 C dX3_readWithNothingDue_90 (n := 91) rfl ?_
          refine g_bipush C bp_6 dX3_readWithNothingDue_91 (n := 93) rfl ?_
          refine kc_X3_90 C (ct_X4_set SH M 46 120 i _ 6 row_46 hx hi) sh_46 ⟨Nat.le_of_ble_eq_true rfl, Nat.le_of_ble_eq_true rfl⟩ ⟨Nat.zero_le _, Nat.zero_le _⟩ (Nat.le_of_ble_eq_true rfl) dX3_readWithNothingDue_93 (n := 96) rfl (fun M2 e2 => ?_)
          have f2 : ∀ a, a ≠ 47 → M2 a = M a := fun a ha => by rw [e2, up2_ne _ _ ha]
          have hR2 : RC M2 S (i + 1) (wr3 S i) (7 * rD S i) := RC_k hR e2 (by rw [hk6]; rfl) (Or.inr hk6)
          refine g_aload0 C dX3_readWithNothingDue_96 (n := 97) rfl ?_
          refine g_iload1 C dX3_readWithNothingDue_97 (n := 98) rfl ?_
          refine g_aload0 C dX3_readWithNothingDue_98 (n := 99) rfl ?_
          refine kg_X3_12 C sh_40 rfl dX3_readWithNothingDue_99 (n := 102) rfl ?_
          refine g_iload2 C dX3_readWithNothingDue_102 (n := 103) rfl ?_
          refine kc_X3_137 C (ct_X0_owns SH M2 41 (spt S) c0 grammar_41 (by rw [f2 41 (by omega)]; exact hGR.2.1) ht) sh_41 ⟨Nat.le_of_ble_eq_true rfl, Nat.le_of_ble_eq_true rfl⟩ ⟨Nat.zero_le _, Nat.zero_le _⟩ (Nat.le_of_ble_eq_true rfl) dX3_readWithNothingDue_103 (n := 106) rfl (fun r_103 M_103 h_103 => ?_)
          rw [h_103.1, h_103.2]
          refine g_if_eq C dX3_readWithNothingDue_106 (t := 113) (by decide) (n := 109) rfl (fun c_106 => ?_) (fun c_106 => ?_)
          · have hown := bI_0.mp c_106
            refine g_iconst C ic_2 dX3_readWithNothingDue_113 (n := 114) rfl ?_
            refine kc_X3_96 C (ct_X3_addWrong M2 (wr3 S i) i (if ownS (spt S) c0 then 1 else 2) x _ hR2.1 (by have := wr3_len S i; omega) hx (by rw [hown]; rfl)) sh_40 ⟨Nat.le_of_ble_eq_true rfl, Nat.le_of_ble_eq_true rfl⟩ ⟨Nat.zero_le _, Nat.zero_le _⟩ (Nat.le_of_ble_eq_true rfl) dX3_readWithNothingDue_114 (n := 117) rfl (fun M3 h3 => ?_)
            have hRC : RC M3 S (i + 1) (wrL S (i + 1)) (7 * rD S i) := by
              rw [wr_s, if_pos hk6, ← hc]
              exact RC_wr hR2 h3.1 h3.2.1 h3.2.2
            have h49 : M3 49 = M 49 := by rw [h3.2.1 49 (by omega) (by omega)]; exact f2 49 (by omega)
            have hfr : frR M M3 := fun a ha => by rw [h3.2.1 a (by omega) (by omega)]; exact f2 a (by omega)
            refine g_goto C dX3_readWithNothingDue_117 (t := 141) (by decide) ?_
            exact J_141 _ hRC h49 hfr
          · have hown := bI_n.mp c_106
            refine g_iconst C ic_1 dX3_readWithNothingDue_109 (n := 110) rfl ?_
            refine g_goto C dX3_readWithNothingDue_110 (t := 114) (by decide) ?_
            refine kc_X3_96 C (ct_X3_addWrong M2 (wr3 S i) i (if ownS (spt S) c0 then 1 else 2) x _ hR2.1 (by have := wr3_len S i; omega) hx (by rw [hown]; rfl)) sh_40 ⟨Nat.le_of_ble_eq_true rfl, Nat.le_of_ble_eq_true rfl⟩ ⟨Nat.zero_le _, Nat.zero_le _⟩ (Nat.le_of_ble_eq_true rfl) dX3_readWithNothingDue_114 (n := 117) rfl (fun M3 h3 => ?_)
            have hRC : RC M3 S (i + 1) (wrL S (i + 1)) (7 * rD S i) := by
              rw [wr_s, if_pos hk6, ← hc]
              exact RC_wr hR2 h3.1 h3.2.1 h3.2.2
            have h49 : M3 49 = M 49 := by rw [h3.2.1 49 (by omega) (by omega)]; exact f2 49 (by omega)
            have hfr : frR M M3 := fun a ha => by rw [h3.2.1 a (by omega) (by omega)]; exact f2 a (by omega)
            refine g_goto C dX3_readWithNothingDue_117 (t := 141) (by decide) ?_
            exact J_141 _ hRC h49 hfr
      · have hk2 : kd S i = 2 := by
          rcases hkn with h | h | h | h
          · have q := h.1; rw [hl] at q; cases q
          · exact absurd h.2.1 c_39
          · exact h.2.2.2
          · exact absurd c_57 h.2.2.1
        refine g_aload0 C dX3_readWithNothingDue_60 (n := 61) rfl ?_
        refine kg_X3_23 C sh_40 rfl dX3_readWithNothingDue_61 (n := 64) rfl ?_
        refine g_iload1 C dX3_readWithNothingDue_64 (n := 65) rfl ?_
        refine g_iconst C ic_2 dX3_readWithNothingDue_65 (n := 66) rfl ?_
        refine kc_X3_90 C (ct_X4_set SH M 46 120 i _ 2 row_46 hx hi) sh_46 ⟨Nat.le_of_ble_eq_true rfl, Nat.le_of_ble_eq_true rfl⟩ ⟨Nat.zero_le _, Nat.zero_le _⟩ (Nat.le_of_ble_eq_true rfl) dX3_readWithNothingDue_66 (n := 69) rfl (fun M2 e2 => ?_)
        have f2 : ∀ a, a ≠ 47 → M2 a = M a := fun a ha => by rw [e2, up2_ne _ _ ha]
        refine g_aload0 C dX3_readWithNothingDue_69 (n := 70) rfl ?_
        refine g_iconst C ic_5 dX3_readWithNothingDue_70 (n := 71) rfl ?_
        refine kc_X3_134 C (ct_X3_addToOpenQuotes M2 S i 0 5 5 (by rw [f2 40 (by omega)]; exact hst) (by decide) (by unfold OQc; rw [f2 63 (by omega)]; exact hO) (by omega) rfl (by decide)) sh_40 ⟨Nat.le_of_ble_eq_true rfl, Nat.le_of_ble_eq_true rfl⟩ ⟨Nat.zero_le _, Nat.zero_le _⟩ (Nat.le_of_ble_eq_true rfl) dX3_readWithNothingDue_71 (n := 74) rfl (fun M3 h3 => ?_)
        have f3 : ∀ a, a ≠ 47 → a ≠ 57 → M3 a = M a := fun a a1 a2 => by rw [h3.2 a a2]; exact f2 a a1
        refine g_aload0 C dX3_readWithNothingDue_74 (n := 75) rfl ?_
        refine kc_X3_114 C (ct_X3_beginParagraph M3 (rD S i) 0 (ctn (kdIs S 2) i + 1) (by rw [f3 40 (by omega) (by omega)]; exact hst) hd6 (by decide) (by rw [f3 40 (by omega) (by omega)]; exact hPG.1) (by omega)) sh_40 ⟨Nat.le_of_ble_eq_true rfl, Nat.le_of_ble_eq_true rfl⟩ ⟨Nat.zero_le _, Nat.zero_le _⟩ (Nat.le_of_ble_eq_true rfl) dX3_readWithNothingDue_75 (n := 78) rfl (fun M4 h4 => ?_)
        have hRC : RC M4 S (i + 1) (wrL S (i + 1)) (7 * rD S i) := by
          rw [hwr (by omega)]
          refine RC_2 (v := 2) hR hk2 ?_ rfl (fun x => by rw [h4.1 x, f3 59 (by omega) (by omega)]) h4.2.1 (fun q o hq w hw => by rw [h4.2.2.1 57 (by omega) (by omega), h3.1 q o hq w hw, f2 57 (by omega)]) (fun a a1 a2 a3 a4 => by rw [h4.2.2.1 a a1 a4]; exact f3 a a2 a3) (fun j hj => by rw [h4.2.2.2 j hj, f3 40 (by omega) (by omega)])
          rw [h4.2.2.1 47 (by omega) (by omega), h3.2 47 (by omega), e2]; exact up2_row _ _ _ _
        have h49 : M4 49 = M 49 := by rw [h4.2.2.1 49 (by omega) (by omega)]; exact f3 49 (by omega) (by omega)
        have hfr : frR M M4 := fun a ha => by rw [h4.2.2.1 a (by omega) (by omega)]; exact f3 a (by omega) (by omega)
        refine g_goto C dX3_readWithNothingDue_78 (t := 141) (by decide) ?_
        exact J_141 _ hRC h49 hfr
    · have hk1 : kd S i = 1 := by
        rcases hkn with h | h | h | h
        · have q := h.1; rw [hl] at q; cases q
        · exact h.2.2
        all_goals exact absurd c_39 h.2.1
      refine g_aload0 C dX3_readWithNothingDue_42 (n := 43) rfl ?_
      refine kg_X3_23 C sh_40 rfl dX3_readWithNothingDue_43 (n := 46) rfl ?_
      refine g_iload1 C dX3_readWithNothingDue_46 (n := 47) rfl ?_
      refine g_iconst C ic_1 dX3_readWithNothingDue_47 (n := 48) rfl ?_
      refine kc_X3_90 C (ct_X4_set SH M 46 120 i _ 1 row_46 hx hi) sh_46 ⟨Nat.le_of_ble_eq_true rfl, Nat.le_of_ble_eq_true rfl⟩ ⟨Nat.zero_le _, Nat.zero_le _⟩ (Nat.le_of_ble_eq_true rfl) dX3_readWithNothingDue_48 (n := 51) rfl (fun M2 e2 => ?_)
      have f2 : ∀ a, a ≠ 47 → M2 a = M a := fun a ha => by rw [e2, up2_ne _ _ ha]
      have hRC : RC M2 S (i + 1) (wrL S (i + 1)) (7 * rD S i) := by
        rw [hwr (by omega)]
        exact RC_k hR e2 (by rw [hk1]; rfl) (Or.inl hk1)
      have h49 : M2 49 = M 49 := f2 49 (by omega)
      have hfr : frR M M2 := fun a ha => f2 a (by omega)
      refine g_goto C dX3_readWithNothingDue_51 (t := 141) (by decide) ?_
      exact J_141 _ hRC h49 hfr
  · have hl := bI_n.mp c_17
    have hk0 : kd S i = 0 := by
      rcases hkn with h | h | h | h
      · exact h.2
      all_goals (have q := h.1; rw [hl] at q; cases q)
    refine g_aload0 C dX3_readWithNothingDue_20 (n := 21) rfl ?_
    refine kg_X3_23 C sh_40 rfl dX3_readWithNothingDue_21 (n := 24) rfl ?_
    refine g_iload1 C dX3_readWithNothingDue_24 (n := 25) rfl ?_
    refine g_iconst C ic_0 dX3_readWithNothingDue_25 (n := 26) rfl ?_
    refine kc_X3_90 C (ct_X4_set SH M 46 120 i _ 0 row_46 hx hi) sh_46 ⟨Nat.le_of_ble_eq_true rfl, Nat.le_of_ble_eq_true rfl⟩ ⟨Nat.zero_le _, Nat.zero_le _⟩ (Nat.le_of_ble_eq_true rfl) dX3_readWithNothingDue_26 (n := 29) rfl (fun M2 e2 => ?_)
    have f2 : ∀ a, a ≠ 47 → M2 a = M a := fun a ha => by rw [e2, up2_ne _ _ ha]
    refine g_aload0 C dX3_readWithNothingDue_29 (n := 30) rfl ?_
    refine kc_X3_131 C (ct_X3_countLetter M2 S i (ctn (kdIs S 2) i) (by rw [f2 40 (by omega)]; exact hst) (by unfold OQc; rw [f2 63 (by omega)]; exact hO) (by omega) hk0 (by rw [f2 40 (by omega)]; exact hPG.1) (by omega)) sh_40 ⟨Nat.le_of_ble_eq_true rfl, Nat.le_of_ble_eq_true rfl⟩ ⟨Nat.zero_le _, Nat.zero_le _⟩ (Nat.le_of_ble_eq_true rfl) dX3_readWithNothingDue_30 (n := 33) rfl (fun M3 h3 => ?_)
    have hRC : RC M3 S (i + 1) (wrL S (i + 1)) (7 * rD S i) := by
      rw [hwr (by omega)]
      refine RC_0 (v := 0) hR hk0 rfl ?_ rfl (by rw [h3.1, f2 61 (by omega)]) (by rw [h3.2.1, f2 59 (by omega)]) (fun q o hq w hw => by rw [h3.2.2.1 q o hq w hw, f2 57 (by omega)]) (fun a a1 a2 a3 a4 => by rw [h3.2.2.2 a a2 a3 a4]; exact f2 a a1)
      rw [h3.2.2.2 47 (by omega) (by omega) (by omega), e2]; exact up2_row _ _ _ _
    have h49 : M3 49 = M 49 := by rw [h3.2.2.2 49 (by omega) (by omega) (by omega)]; exact f2 49 (by omega)
    have hfr : frR M M3 := fun a ha => by rw [h3.2.2.2 a (by omega) (by omega) (by omega)]; exact f2 a (by omega)
    refine g_goto C dX3_readWithNothingDue_33 (t := 141) (by decide) ?_
    exact J_141 _ hRC h49 hfr
set_option maxHeartbeats 4000000 in
set_option maxRecDepth 100000 in
theorem ct_X3_begin {l : Launch} {D : va_G} {cI cO : ClassId} {z tP : Nat} {aK aV : Nat → Nat} (M : Mem) (S : Spt) (hG : GRc M S) : Cm l D cI cO z tP aK aV yX3_begin cX3_begin 1 none 2 43 [.ref (z + 40)] SH M (pV (fun M1 => RC M1 S 0 [] 0 ∧ ∀ c, c ≠ 40 → c ≠ 59 → c ≠ 61 → M1 c = M c)) := by
  refine cm_intro (lv0 := [some (.ref (z + 40))]) (by decide) rfl (Nat.le_of_ble_eq_true rfl) rfl (fun p e s m below meth c C => ?_)
  refine g_aload0 C dX3_begin_0 (n := 1) rfl ?_
  refine g_iconst C ic_0 dX3_begin_1 (n := 2) rfl ?_
  refine kp_X3_51 C sh_40 rfl dX3_begin_2 (n := 5) rfl (fun M2 e2 => ?_)
  refine g_aload0 C dX3_begin_5 (n := 6) rfl ?_
  refine g_iconst C ic_0 dX3_begin_6 (n := 7) rfl ?_
  refine kp_X3_99 C sh_40 rfl dX3_begin_7 (n := 10) rfl (fun M3 e3 => ?_)
  refine g_aload0 C dX3_begin_10 (n := 11) rfl ?_
  refine g_iconst C ic_0 dX3_begin_11 (n := 12) rfl ?_
  refine kp_X3_102 C sh_40 rfl dX3_begin_12 (n := 15) rfl (fun M4 e4 => ?_)
  refine g_aload0 C dX3_begin_15 (n := 16) rfl ?_
  refine g_iconst C ic_0 dX3_begin_16 (n := 17) rfl ?_
  refine kp_X3_105 C sh_40 rfl dX3_begin_17 (n := 20) rfl (fun M5 e5 => ?_)
  refine g_aload0 C dX3_begin_20 (n := 21) rfl ?_
  refine g_iconst C ic_0 dX3_begin_21 (n := 22) rfl ?_
  refine kp_X3_108 C sh_40 rfl dX3_begin_22 (n := 25) rfl (fun M6 e6 => ?_)
  refine g_aload0 C dX3_begin_25 (n := 26) rfl ?_
  refine kg_X3_45 C sh_40 rfl dX3_begin_26 (n := 29) rfl ?_
  refine g_iconst C ic_0 dX3_begin_29 (n := 30) rfl ?_
  refine kc_X3_111 C (ct_X4_fill SH M6 60 7 0 row_60) sh_60 ⟨Nat.le_of_ble_eq_true rfl, Nat.le_of_ble_eq_true rfl⟩ ⟨Nat.zero_le _, Nat.zero_le _⟩ (Nat.le_of_ble_eq_true rfl) dX3_begin_30 (n := 33) rfl (fun M7 e7 => ?_)
  have f6 : ∀ a, a ≠ 40 → M6 a = M a := fun a ha => by rw [e6, up2_ne _ _ ha, e5, up2_ne _ _ ha, e4, up2_ne _ _ ha, e3, up2_ne _ _ ha, e2, up2_ne _ _ ha]
  have f7 : ∀ a, a ≠ 61 → M7 a = M6 a := fun a ha => by rw [e7]; funext j; simp [fil, ha]
  have g6 : M7 40 6 = 0 ∧ M7 40 8 = 0 ∧ M7 40 10 = 0 ∧ M7 40 13 = 0 ∧ M7 40 14 = 0 := by
    rw [f7 40 (by omega), e6, e5, e4, e3, e2]; simp [up2]
  refine g_aload0 C dX3_begin_33 (n := 34) rfl ?_
  refine kc_X3_114 C (ct_X3_beginParagraph M7 0 0 0 (g6.2.2.2.2.trans nI_0.symm) (by decide) (by decide) (g6.2.2.1.trans nI_0.symm) (by decide)) sh_40 ⟨Nat.le_of_ble_eq_true rfl, Nat.le_of_ble_eq_true rfl⟩ ⟨Nat.zero_le _, Nat.zero_le _⟩ (Nat.le_of_ble_eq_true rfl) dX3_begin_34 (n := 37) rfl (fun M8 h8 => ?_)
  refine r_V C dX3_begin_37 ?_
  have f : ∀ c, c ≠ 40 → c ≠ 59 → c ≠ 61 → M8 c = M c := fun c c1 c2 c3 => by rw [h8.2.2.1 c c1 c2, f7 c c3]; exact f6 c c1
  refine ⟨⟨⟨?_, fun j q hq => by simp at hq⟩, fun k hk => absurd hk (Nat.not_lt_zero _), fun k hk => absurd hk (Nat.not_lt_zero _), fun k hk => absurd hk (Nat.not_lt_zero _), ⟨?_, fun q o hq => absurd hq.1 (Nat.not_lt_zero _)⟩, fun p o hp => by simp [sk] at hp, ⟨h8.2.1, fun q hq w hw => ?_⟩, fun d hd => ?_, ?_, ?_, GRc_cong hG (f _ (by omega) (by omega) (by omega)) (f _ (by omega) (by omega) (by omega)) (f _ (by omega) (by omega) (by omega))⟩, f⟩
  · rw [h8.2.2.2 6 (by omega)]; exact g6.1
  · rw [h8.2.2.2 8 (by omega)]; exact g6.2.1
  · have hq0 : q = 0 := by have : ctn (kdIs S 2) 0 = 0 := rfl; omega
    subst hq0
    rw [h8.1]
    unfold pfS
    rcases (show w = 0 ∨ w = 1 ∨ w = 2 by omega) with rfl | rfl | rfl
    · rw [if_pos rfl, if_pos rfl]; exact Or.inl ⟨rfl, rfl⟩
    · rw [if_neg (by decide), if_pos rfl, if_neg (by decide), if_pos (by decide)]; rfl
    · rw [if_neg (by decide), if_neg (by decide), if_neg (by decide), if_pos (by decide)]; rfl
  · rw [h8.2.2.1 61 (by omega) (by omega), e7]; simp [fil]; rw [if_pos (by omega)]; rfl
  · rw [h8.2.2.2 13 (by omega)]; exact g6.2.2.2.1
  · rw [h8.2.2.2 14 (by omega)]; exact g6.2.2.2.2
set_option maxHeartbeats 4000000 in
set_option maxRecDepth 100000 in
theorem ct_X3_readWhole {l : Launch} {D : va_G} {cI cO : ClassId} {z tP : Nat} {aK aV : Nat → Nat} (M : Mem) (S : Spt) (hsp : spC M 3 S) (hwS : wfS S) (hI : gI M 41) : Cm l D cI cO z tP aK aV yX3_readWhole cX3_readWhole 4 none 4 94 [.ref (z + 40), .ref (z + 3)] SH M (pV (fun M1 => RdOK M1 S ∧ GRc M1 S ∧ frR M M1)) := by
  refine cm_intro (lv0 := [some (.ref (z + 40)), some (.ref (z + 3)), none, none]) (by decide) rfl (Nat.le_of_ble_eq_true rfl) rfl (fun p e s m below meth c C => ?_)
  have ht := hwS.2.2.1
  have hr := hwS.2.2.2.1
  have hn := hwS.1
  have hd6 := rD_le S (spn S)
  have hu7 := rU_lt S (spn S)
  refine g_aload0 C dX3_readWhole_0 (n := 1) rfl ?_
  refine kg_X3_12 C sh_40 rfl dX3_readWhole_1 (n := 4) rfl ?_
  refine g_aload1 C dX3_readWhole_4 (n := 5) rfl ?_
  refine kg_X3_55 C sh_3 rfl dX3_readWhole_5 (n := 8) rfl ?_
  refine g_aload1 C dX3_readWhole_8 (n := 9) rfl ?_
  refine kg_X3_60 C sh_3 rfl dX3_readWhole_9 (n := 12) rfl ?_
  refine kc_X3_63 C (ct_X0_speakAs SH M 41 (spt S) (spr S) _ _ grammar_41 hsp.2.2.1 hsp.2.2.2.1 ht hr hI) sh_41 ⟨Nat.le_of_ble_eq_true rfl, Nat.le_of_ble_eq_true rfl⟩ ⟨Nat.zero_le _, Nat.zero_le _⟩ (Nat.le_of_ble_eq_true rfl) dX3_readWhole_12 (n := 15) rfl (fun M2 h2 => ?_)
  refine g_aload0 C dX3_readWhole_15 (n := 16) rfl ?_
  refine kc_X3_67 C (ct_X3_begin M2 S ⟨h2.1, h2.2.1, h2.2.2.1⟩) sh_40 ⟨Nat.le_of_ble_eq_true rfl, Nat.le_of_ble_eq_true rfl⟩ ⟨Nat.zero_le _, Nat.zero_le _⟩ (Nat.le_of_ble_eq_true rfl) dX3_readWhole_16 (n := 19) rfl (fun M3 h3 => ?_)
  refine g_iconst C ic_0 dX3_readWhole_19 (n := 20) rfl ?_
  refine g_istore2 C dX3_readWhole_20 (n := 21) rfl ?_
  have L_21 : ∀ (fu : Nat) (v : Nat) (y : Int32) (M1 : Mem) (o3 : Option Value), spn S - v < fu → (y = nI v) → (v ≤ spn S) → (RC M1 S v (wrL S v) (7 * rD S v + rU S v)) → (DPc M1 S v) → (frR M M1) → G p l e ({ frames := 4, cells := 0, slots := 0, locals := 94 }) s m ([.ref (z + 40), .ref (z + 3)] : List Value).toArray below meth c D cI cO z 4 (QM below D cI cO z ([.ref (z + 40), .ref (z + 3)] : List Value).toArray s SH (pV (fun M1 => RdOK M1 S ∧ GRc M1 S ∧ frR M M1))) 0 0 SH M1 21 [some (.ref (z + 40)), some (.ref (z + 3)), some (.int y), o3] [] := by
    intro fu_21
    induction fu_21 with
    | zero => intro v y M1 o3 hfu; exact absurd hfu (Nat.not_lt_zero _)
    | succ fu_21 ih_21 =>
      intro v y M1 o3 hfu_21 hy hv hR hD hF
      refine g_iload2 C dX3_readWhole_21 (n := 22) rfl ?_
      refine g_aload1 C dX3_readWhole_22 (n := 23) rfl ?_
      refine kg_X3_70 C sh_3 rfl dX3_readWhole_23 (n := 26) rfl ?_
      refine g_icmp_ge C dX3_readWhole_26 (t := 74) (by decide) (n := 29) rfl (fun c_26 => ?_) (fun c_26 => ?_)
      · have w26 : ¬ v < spn S := fun h => c_26 ((qlt hy (show M1 3 1 = nI (spn S) by rw [hF 3 (by omega)]; exact hsp.1) (by omega) (by omega)).mpr h)
        have hve : v = spn S := by omega
        subst hve
        have J_93 : ∀ (M9 : Mem), (RC M9 S (spn S) (wrL S (spn S) ++ (if rU S (spn S) ≠ 0 then [(spn S, 3)] else [])) (7 * rD S (spn S) + rU S (spn S))) → (DPc M9 S (spn S)) → (frR M M9) → G p l e ({ frames := 4, cells := 0, slots := 0, locals := 94 }) s m ([.ref (z + 40), .ref (z + 3)] : List Value).toArray below meth c D cI cO z 4 (QM below D cI cO z ([.ref (z + 40), .ref (z + 3)] : List Value).toArray s SH (pV (fun M1 => RdOK M1 S ∧ GRc M1 S ∧ frR M M1))) 0 0 SH M9 93 [some (.ref (z + 40)), some (.ref (z + 3)), some (.int y), o3] [] := by
          intro M9 hRC hDP hfr
          refine g_aload0 C dX3_readWhole_93 (n := 94) rfl ?_
          refine kg_X3_51 C sh_40 rfl dX3_readWhole_94 (n := 97) rfl ?_
          refine kc_X3_87 C (ct_X0_depthOf SH M9 (rD S (spn S)) (rU S (spn S)) _ hRC.2.2.2.2.2.2.2.2.2.1 hd6 hu7) ⟨Nat.le_of_ble_eq_true rfl, Nat.le_of_ble_eq_true rfl⟩ ⟨Nat.zero_le _, Nat.zero_le _⟩ (Nat.le_of_ble_eq_true rfl) dX3_readWhole_97 (n := 100) rfl (fun r_97 M_97 h_97 => ?_)
          rw [h_97.1, h_97.2]
          refine g_if_le C dX3_readWhole_100 (t := 112) (by decide) (n := 103) rfl (fun c_100 => ?_) (fun c_100 => ?_)
          · have hz : rD S (spn S) = 0 := by
              by_cases h : rD S (spn S) = 0
              · exact h
              · exact absurd ((qlt (show (0 : Int32) = nI 0 from rfl) rfl (by decide) (by omega)).mpr (by omega)) c_100
            have hfin : RdOK M9 S ∧ GRc M9 S ∧ frR M M9 := ⟨RC_Rd (by unfold wlE; rw [if_neg (show ¬ rD S (spn S) ≠ 0 by omega), List.append_nil]; exact hRC) hDP, hRC.2.2.2.2.2.2.2.2.2.2, hfr⟩
            refine r_V C dX3_readWhole_112 ?_
            exact hfin
          · have hz : 0 < rD S (spn S) := (qlt (show (0 : Int32) = nI 0 from rfl) rfl (by decide) (by omega)).mp c_100
            refine g_aload0 C dX3_readWhole_103 (n := 104) rfl ?_
            refine g_aload1 C dX3_readWhole_104 (n := 105) rfl ?_
            refine kg_X3_70 C sh_3 rfl dX3_readWhole_105 (n := 108) rfl ?_
            refine g_iconst C ic_4 dX3_readWhole_108 (n := 109) rfl ?_
            refine kc_X3_96 C (ct_X3_addWrong M9 _ (spn S) 4 _ 4 hRC.1 (by have := wr_len S (spn S); rw [List.length_append]; split <;> simp <;> omega) (by rw [hfr 3 (by omega)]; exact hsp.1) rfl) sh_40 ⟨Nat.le_of_ble_eq_true rfl, Nat.le_of_ble_eq_true rfl⟩ ⟨Nat.zero_le _, Nat.zero_le _⟩ (Nat.le_of_ble_eq_true rfl) dX3_readWhole_109 (n := 112) rfl (fun M2 h2 => ?_)
            have hR9 := RC_wr hRC h2.1 h2.2.1 h2.2.2
            have hfin : RdOK M2 S ∧ GRc M2 S ∧ frR M M2 := ⟨RC_Rd (by unfold wlE; rw [if_pos (show rD S (spn S) ≠ 0 by omega)]; exact hR9) (by unfold DPc; rw [h2.2.1 49 (by omega) (by omega)]; exact hDP), hR9.2.2.2.2.2.2.2.2.2.2, fun a ha => by rw [h2.2.1 a (by omega) (by omega)]; exact hfr a ha⟩
            refine r_V C dX3_readWhole_112 ?_
            exact hfin
        refine g_aload0 C dX3_readWhole_74 (n := 75) rfl ?_
        refine kg_X3_51 C sh_40 rfl dX3_readWhole_75 (n := 78) rfl ?_
        refine kc_X3_93 C (ct_X0_leftDue SH M1 (rD S (spn S)) (rU S (spn S)) _ hR.2.2.2.2.2.2.2.2.2.1 hd6 hu7) ⟨Nat.le_of_ble_eq_true rfl, Nat.le_of_ble_eq_true rfl⟩ ⟨Nat.zero_le _, Nat.zero_le _⟩ (Nat.le_of_ble_eq_true rfl) dX3_readWhole_78 (n := 81) rfl (fun r_78 M_78 h_78 => ?_)
        rw [h_78.1, h_78.2]
        refine g_if_le C dX3_readWhole_81 (t := 93) (by decide) (n := 84) rfl (fun c_81 => ?_) (fun c_81 => ?_)
        · have hz : rU S (spn S) = 0 := by
            by_cases h : rU S (spn S) = 0
            · exact h
            · exact absurd ((qlt (show (0 : Int32) = nI 0 from rfl) rfl (by decide) (by omega)).mpr (by omega)) c_81
          have hRC : RC M1 S (spn S) (wrL S (spn S) ++ (if rU S (spn S) ≠ 0 then [(spn S, 3)] else [])) (7 * rD S (spn S) + rU S (spn S)) := by rw [if_neg (fun h => h hz), List.append_nil]; exact hR
          have hDP := hD
          have hfr := hF
          exact J_93 _ hRC hDP hfr
        · have hz : 0 < rU S (spn S) := (qlt (show (0 : Int32) = nI 0 from rfl) rfl (by decide) (by omega)).mp c_81
          refine g_aload0 C dX3_readWhole_84 (n := 85) rfl ?_
          refine g_aload1 C dX3_readWhole_85 (n := 86) rfl ?_
          refine kg_X3_70 C sh_3 rfl dX3_readWhole_86 (n := 89) rfl ?_
          refine g_iconst C ic_3 dX3_readWhole_89 (n := 90) rfl ?_
          refine kc_X3_96 C (ct_X3_addWrong M1 (wrL S (spn S)) (spn S) 3 _ 3 hR.1 (by have := wr_len S (spn S); omega) (by rw [hF 3 (by omega)]; exact hsp.1) rfl) sh_40 ⟨Nat.le_of_ble_eq_true rfl, Nat.le_of_ble_eq_true rfl⟩ ⟨Nat.zero_le _, Nat.zero_le _⟩ (Nat.le_of_ble_eq_true rfl) dX3_readWhole_90 (n := 93) rfl (fun M2 h2 => ?_)
          have hRC : RC M2 S (spn S) (wrL S (spn S) ++ (if rU S (spn S) ≠ 0 then [(spn S, 3)] else [])) (7 * rD S (spn S) + rU S (spn S)) := by rw [if_pos (by omega)]; exact RC_wr hR h2.1 h2.2.1 h2.2.2
          have hDP : DPc M2 S (spn S) := by unfold DPc; rw [h2.2.1 49 (by omega) (by omega)]; exact hD
          have hfr : frR M M2 := fun a ha => by rw [h2.2.1 a (by omega) (by omega)]; exact hF a ha
          exact J_93 _ hRC hDP hfr
      · have w26 : v < spn S := (qlt hy (show M1 3 1 = nI (spn S) by rw [hF 3 (by omega)]; exact hsp.1) (by omega) (by omega)).mp c_26
        have hsg := hwS.2.1 v w26
        have hM5 : M1 5 v = spg S v := by rw [hF 5 (by omega)]; exact hsp.2.1 v w26
        have hdv := rD_le S (v + 1)
        have huv := rU_lt S (v + 1)
        have J_53 : ∀ (M9 : Mem), (RC M9 S (v + 1) (wrL S (v + 1)) (7 * rD S (v + 1) + rU S (v + 1))) → (M9 49 = M1 49) → (frR M M9) → G p l e ({ frames := 4, cells := 0, slots := 0, locals := 94 }) s m ([.ref (z + 40), .ref (z + 3)] : List Value).toArray below meth c D cI cO z 4 (QM below D cI cO z ([.ref (z + 40), .ref (z + 3)] : List Value).toArray s SH (pV (fun M1 => RdOK M1 S ∧ GRc M1 S ∧ frR M M1))) 0 0 SH M9 53 [some (.ref (z + 40)), some (.ref (z + 3)), some (.int y), some (.int (spg S v))] [] := by
          intro M9 hRC h49 hfr
          refine g_aload0 C dX3_readWhole_53 (n := 54) rfl ?_
          refine kg_X3_27 C sh_40 rfl dX3_readWhole_54 (n := 57) rfl ?_
          refine g_iload2 C dX3_readWhole_57 (n := 58) rfl ?_
          refine g_aload0 C dX3_readWhole_58 (n := 59) rfl ?_
          refine kg_X3_51 C sh_40 rfl dX3_readWhole_59 (n := 62) rfl ?_
          refine kc_X3_87 C (ct_X0_depthOf SH M9 (rD S (v + 1)) (rU S (v + 1)) _ hRC.2.2.2.2.2.2.2.2.2.1 hdv huv) ⟨Nat.le_of_ble_eq_true rfl, Nat.le_of_ble_eq_true rfl⟩ ⟨Nat.zero_le _, Nat.zero_le _⟩ (Nat.le_of_ble_eq_true rfl) dX3_readWhole_62 (n := 65) rfl (fun r_62 M_62 h_62 => ?_)
          rw [h_62.1, h_62.2]
          refine kc_X3_90 C (ct_X4_set SH M9 48 120 v _ _ row_48 hy (by omega)) sh_48 ⟨Nat.le_of_ble_eq_true rfl, Nat.le_of_ble_eq_true rfl⟩ ⟨Nat.zero_le _, Nat.zero_le _⟩ (Nat.le_of_ble_eq_true rfl) dX3_readWhole_65 (n := 68) rfl (fun M8 e8 => ?_)
          refine g_iinc2 C (inc_1 _) dX3_readWhole_68 (n := 71) rfl ?_
          refine g_goto C dX3_readWhole_71 (t := 21) (by decide) ?_
          exact ih_21 (v + 1) (y + 1) M8 _ (by omega) (by rw [hy, nI_1]) (by omega) (RC_cong hRC (fun a ha => by rw [e8, up2_ne _ _ ha])) (DPc_s (v := nI (rD S (v + 1))) hD (by rw [e8]; refine (up2_row _ _ _ _).trans ?_; rw [h49]) rfl) (fun a ha => by rw [e8, up2_ne _ _ (by omega)]; exact hfr a ha)
        refine g_aload1 C dX3_readWhole_29 (n := 30) rfl ?_
        refine kg_X3_73 C sh_3 rfl dX3_readWhole_30 (n := 33) rfl ?_
        refine g_iload2 C dX3_readWhole_33 (n := 34) rfl ?_
        refine kc_X3_76 C (ct_X4_at SH M1 4 120 v _ row_4 hy (by omega)) sh_4 ⟨Nat.le_of_ble_eq_true rfl, Nat.le_of_ble_eq_true rfl⟩ ⟨Nat.zero_le _, Nat.zero_le _⟩ (Nat.le_of_ble_eq_true rfl) dX3_readWhole_34 (n := 37) rfl (fun r_34 M_34 h_34 => ?_)
        rw [h_34.2, h_34.1, show M1 (4 + 1) v = spg S v from hM5]
        refine g_istore3 C dX3_readWhole_37 (n := 38) rfl ?_
        refine g_aload0 C dX3_readWhole_38 (n := 39) rfl ?_
        refine g_iload2 C dX3_readWhole_39 (n := 40) rfl ?_
        refine g_iload3 C dX3_readWhole_40 (n := 41) rfl ?_
        refine kc_X3_80 C (ct_X3_renews M1 S v y (spg S v) hR hy (by omega) rfl (sg_ne0 hsg) ht hr) sh_40 ⟨Nat.le_of_ble_eq_true rfl, Nat.le_of_ble_eq_true rfl⟩ ⟨Nat.zero_le _, Nat.zero_le _⟩ (Nat.le_of_ble_eq_true rfl) dX3_readWhole_41 (n := 44) rfl (fun r2 M2 h2 => ?_)
        obtain ⟨hx2, h249, h2f⟩ := h2
        refine g_if_ne C dX3_readWhole_44 (t := 53) (by decide) (n := 47) rfl (fun c_44 => ?_) (fun c_44 => ?_)
        · have hRC : RC M2 S (v + 1) (wrL S (v + 1)) (7 * rD S (v + 1) + rU S (v + 1)) := by
            rcases hx2 with h | h
            · exact h.2.2
            · exact absurd h.1 c_44
          have h49 := h249
          have hfr : frR M M2 := fun a ha => by rw [h2f a ha]; exact hF a ha
          exact J_53 _ hRC h49 hfr
        · have hRn : kd S v ≠ 5 ∧ RC M2 S v (wr3 S v) (7 * rD S v) := by
            rcases hx2 with h | h
            · exact absurd (h.1.symm.trans c_44) (by decide)
            · exact h.2
          refine g_aload0 C dX3_readWhole_47 (n := 48) rfl ?_
          refine g_iload2 C dX3_readWhole_48 (n := 49) rfl ?_
          refine g_iload3 C dX3_readWhole_49 (n := 50) rfl ?_
          refine kc_X3_84 C (ct_X3_readWithNothingDue M2 S v y (spg S v) hRn.2 hRn.1 hy (by omega) rfl (sg_ne0 hsg) ht hr) sh_40 ⟨Nat.le_of_ble_eq_true rfl, Nat.le_of_ble_eq_true rfl⟩ ⟨Nat.zero_le _, Nat.zero_le _⟩ (Nat.le_of_ble_eq_true rfl) dX3_readWhole_50 (n := 53) rfl (fun M4 h4 => ?_)
          have hRC := h4.1
          have h49 : M4 49 = M1 49 := h4.2.1.trans h249
          have hfr : frR M M4 := fun a ha => by rw [h4.2.2 a ha, h2f a ha]; exact hF a ha
          exact J_53 _ hRC h49 hfr
  exact L_21 (spn S + 1) 0 0 M3 none (by omega) nI_0.symm (by omega) h3.1 (fun k hk => absurd hk (Nat.not_lt_zero _)) (fun a ha => by rw [h3.2 a (by omega) (by omega) (by omega)]; exact h2.2.2.2 a (by omega) (by omega) (by omega))
