theorem inn {x a b : Int32} : bI (!decide (x < a) && !decide (b < x)) = 0 ↔ x < a ∨ b < x := by
  by_cases h : x < a <;> by_cases h2 : b < x <;> simp [bI, h, h2]
theorem inn' {x a b : Int32} : ¬ bI (!decide (x < a) && !decide (b < x)) = 0 ↔ ¬ x < a ∧ ¬ b < x := by
  by_cases h : x < a <;> by_cases h2 : b < x <;> simp [bI, h, h2]
theorem le2 {x : Int32} : (2 : Int32) < x ↔ ¬ x < 3 := by
  rw [Int32.lt_iff_toInt_lt, Int32.lt_iff_toInt_lt]
  have e0 : (2 : Int32).toInt = 2 := by decide
  have e1 : (3 : Int32).toInt = 3 := by decide
  omega
theorem absR_tx {M M1 : Mem} {A : Abs} {n : Nat} {g : Nat → Int32} (h : absR M A) (h1 : M1 80 0 = nI n) (h2 : ∀ j, j < n → M1 81 j = g j) (h4 : M1 80 4 = M 80 4) (hf : ∀ a, a ≠ 80 → a ≠ 81 → M1 a = M a) : absR M1 (n, g, A.2.2) := by
  obtain ⟨_, _, q3, q4, q5⟩ := h
  exact ⟨h1, h2, by rw [hf 82 (by omega) (by omega)]; exact q3, by rw [h4]; exact q4, fun i T hi => by rw [hf 83 (by omega) (by omega)]; exact q5 i T hi⟩
theorem bp_121 : (Int8.ofInt 121).toInt32 = 121 := by decide
set_option maxHeartbeats 4000000 in
set_option maxRecDepth 100000 in
theorem ct_X7_write {l : Launch} {D : va_G} {cI cO : ClassId} {z tP : Nat} {aK aV : Nat → Nat} (M : Mem) (A : Abs) (x : Int32) (hA : absR M A) (hw : wfA A) : Cm l D cI cO z tP aK aV yX7_write cX7_write 2 (some .int) 1 25 [.ref (z + 80), .int x] SH M (pI (fun r M1 => r = (opWrite A x).1 ∧ absR M1 (opWrite A x).2 ∧ fr79 M M1)) := by
  refine cm_intro (lv0 := [some (.ref (z + 80)), some (.int x)]) (by decide) rfl (Nat.le_of_ble_eq_true rfl) rfl (fun p e s m below meth c C => ?_)
  have hwS := hw.2.1
  have hn120 := hwS.1
  have hsp := hA.2.2.1
  have hl6 := hw.2.2.1
  have htl := hw.1
  refine g_iload1 C dX7_write_0 (n := 1) rfl ?_
  refine g_i2l C dX7_write_1 (n := 2) rfl ?_
  refine g_ldc2 C kl_X7_65 dX7_write_2 (n := 5) rfl ?_
  refine g_ldc2 C kl_X7_67 dX7_write_5 (n := 8) rfl ?_
  refine kc_X7_50 C (ct_X7_in SH M x 32 126) ⟨Nat.le_of_ble_eq_true rfl, Nat.le_of_ble_eq_true rfl⟩ ⟨Nat.zero_le _, Nat.zero_le _⟩ (Nat.le_of_ble_eq_true rfl) dX7_write_8 (n := 11) rfl (fun r_8 M_8 h_8 => ?_)
  rw [h_8.1, h_8.2]
  refine g_if_ne C dX7_write_11 (t := 16) (by decide) (n := 14) rfl (fun c_11 => ?_) (fun c_11 => ?_)
  · have hb := inn'.mp c_11
    have hno : ¬ (x < 32 ∨ 126 < x) := fun h => h.elim hb.1 hb.2
    refine g_aload0 C dX7_write_16 (n := 17) rfl ?_
    refine kg_X7_69 C sh_80 rfl dX7_write_17 (n := 20) rfl ?_
    refine g_sipush C sp_200 dX7_write_20 (n := 23) rfl ?_
    refine g_icmp_ne C dX7_write_23 (t := 29) (by decide) (n := 26) rfl (fun c_23 => ?_) (fun c_23 => ?_)
    · have w23 : ¬ A.1 = 200 := fun h => c_23 ((qeq hA.1 (show (200 : Int32) = nI 200 from rfl) (by omega) (by decide)).mpr h)
      refine g_aload0 C dX7_write_29 (n := 30) rfl ?_
      refine kg_X7_7 C sh_80 rfl dX7_write_30 (n := 33) rfl ?_
      refine g_aload0 C dX7_write_33 (n := 34) rfl ?_
      refine kg_X7_69 C sh_80 rfl dX7_write_34 (n := 37) rfl ?_
      refine g_iload1 C dX7_write_37 (n := 38) rfl ?_
      refine g_iast C (j := A.1) sh_81 (by decide) (hA.1) (by omega) dX7_write_38 (n := 39) rfl (fun M2 h2e => ?_)
      have e20 : M2 80 = M 80 := by rw [h2e, up2_ne _ _ (by omega)]
      refine g_aload0 C dX7_write_39 (n := 40) rfl ?_
      refine g_dup C rfl dX7_write_40 (n := 41) rfl ?_
      refine kg_X7_69 C sh_80 rfl dX7_write_41 (n := 44) rfl ?_
      refine g_iconst C ic_1 dX7_write_44 (n := 45) rfl ?_
      refine g_iadd C dX7_write_45 (n := 46) rfl ?_
      refine kp_X7_69 C sh_80 rfl dX7_write_46 (n := 49) rfl (fun M3 e3 => ?_)
      refine g_aload0 C dX7_write_49 (n := 50) rfl ?_
      refine kg_X7_69 C sh_80 rfl dX7_write_50 (n := 53) rfl ?_
      refine r_I C dX7_write_53 ?_
      have v3 : M3 80 0 = nI (A.1 + 1) := by rw [e3]; simp [up2]; rw [e20, hA.1, nI_1]
      rw [show opWrite A x = (nI (A.1 + 1), (A.1 + 1, fun j => if j = A.1 then x else A.2.1 j, A.2.2)) by unfold opWrite; rw [if_neg hno, if_neg (by omega)]]
      refine ⟨v3, absR_tx hA v3 (fun j hj => ?_) (by rw [e3]; simp [up2]; rw [e20]) (fun a h0 h2 => by rw [e3, up2_ne _ _ h0, h2e, up2_ne _ _ h2]), fun a ha => by rw [e3, up2_ne _ _ (by omega), h2e, up2_ne _ _ (by omega)]⟩
      rw [e3, up2_ne _ _ (by omega), h2e]
      by_cases hj2 : j = A.1
      · rw [hj2, if_pos rfl]; exact up2_at _ _ _ _
      · rw [if_neg hj2]
        refine (show up2 M 81 A.1 x 81 j = M 81 j by simp [up2, hj2]).trans ?_
        exact hA.2.1 j (by omega)
    · have w23 : A.1 = 200 := (qeq hA.1 (show (200 : Int32) = nI 200 from rfl) (by omega) (by decide)).mp c_23
      refine g_bipush C bp_m3 dX7_write_26 (n := 28) rfl ?_
      refine r_I C dX7_write_28 ?_
      rw [show opWrite A x = (-3, A) by unfold opWrite; rw [if_neg hno, if_pos w23]]
      exact ⟨rfl, hA, fun _ _ => rfl⟩
  · have hb := inn.mp c_11
    refine g_iconst C ic_m1 dX7_write_14 (n := 15) rfl ?_
    refine r_I C dX7_write_15 ?_
    rw [show opWrite A x = (-1, A) from if_pos hb]
    exact ⟨rfl, hA, fun _ _ => rfl⟩
set_option maxHeartbeats 4000000 in
set_option maxRecDepth 100000 in
theorem ct_X7_wipe {l : Launch} {D : va_G} {cI cO : ClassId} {z tP : Nat} {aK aV : Nat → Nat} (M : Mem) (A : Abs) (hA : absR M A) (hw : wfA A) : Cm l D cI cO z tP aK aV yX7_wipe cX7_wipe 2 (some .int) 0 0 [.ref (z + 80)] SH M (pI (fun r M1 => r = (opWipe A).1 ∧ absR M1 (opWipe A).2 ∧ fr79 M M1)) := by
  refine cm_intro (lv0 := [some (.ref (z + 80)), none]) (by decide) rfl (Nat.le_of_ble_eq_true rfl) rfl (fun p e s m below meth c C => ?_)
  refine g_aload0 C dX7_wipe_0 (n := 1) rfl ?_
  refine kg_X7_69 C sh_80 rfl dX7_wipe_1 (n := 4) rfl ?_
  refine g_istore1 C dX7_wipe_4 (n := 5) rfl ?_
  refine g_aload0 C dX7_wipe_5 (n := 6) rfl ?_
  refine g_iconst C ic_0 dX7_wipe_6 (n := 7) rfl ?_
  refine kp_X7_69 C sh_80 rfl dX7_wipe_7 (n := 10) rfl (fun M_7 e_7 => ?_)
  refine g_iload1 C dX7_wipe_10 (n := 11) rfl ?_
  refine r_I C dX7_wipe_11 ?_
  exact ⟨hA.1, absR_tx hA (by rw [e_7]; simp [up2]; rfl) (fun j hj => absurd hj (Nat.not_lt_zero _)) (by rw [e_7]; simp [up2]) (fun a h0 h2 => by rw [e_7, up2_ne _ _ h0]), fun a ha => by rw [e_7, up2_ne _ _ (by omega)]⟩
set_option maxHeartbeats 4000000 in
set_option maxRecDepth 100000 in
theorem ct_X7_fault {l : Launch} {D : va_G} {cI cO : ClassId} {z tP : Nat} {aK aV : Nat → Nat} (M : Mem) (A : Abs) (hA : absR M A) (hw : wfA A) : Cm l D cI cO z tP aK aV yX7_fault cX7_fault 2 (some .int) 2 45 [.ref (z + 80)] SH M (pI (fun r M1 => fltS A r ∧ M1 = M)) := by
  refine cm_intro (lv0 := [some (.ref (z + 80)), none]) (by decide) rfl (Nat.le_of_ble_eq_true rfl) rfl (fun p e s m below meth c C => ?_)
  have hwS := hw.2.1
  have hn120 := hwS.1
  have hsp := hA.2.2.1
  have hl6 := hw.2.2.1
  have htl := hw.1
  refine g_iconst C ic_0 dX7_fault_0 (n := 1) rfl ?_
  refine g_istore1 C dX7_fault_1 (n := 2) rfl ?_
  have L_2 : ∀ (fu : Nat) (v : Nat) (y : Int32), A.1 - v < fu → (y = nI v) → (v ≤ A.1) → (∀ i, i < v → okT A i) → G p l e ({ frames := 2, cells := 0, slots := 0, locals := 45 }) s m ([.ref (z + 80)] : List Value).toArray below meth c D cI cO z 2 (QM below D cI cO z ([.ref (z + 80)] : List Value).toArray s SH (pI (fun r M1 => fltS A r ∧ M1 = M))) 0 0 SH M 2 [some (.ref (z + 80)), some (.int y)] [] := by
    intro fu_2
    induction fu_2 with
    | zero => intro v y hfu; exact absurd hfu (Nat.not_lt_zero _)
    | succ fu_2 ih_2 =>
      intro v y hfu_2 hy hv2 hB
      refine g_iload1 C dX7_fault_2 (n := 3) rfl ?_
      refine g_aload0 C dX7_fault_3 (n := 4) rfl ?_
      refine kg_X7_69 C sh_80 rfl dX7_fault_4 (n := 7) rfl ?_
      refine g_icmp_ge C dX7_fault_7 (t := 36) (by decide) (n := 10) rfl (fun c_7 => ?_) (fun c_7 => ?_)
      · have w7 : ¬ v < A.1 := fun h => c_7 ((qlt hy hA.1 (by omega) (by omega)).mpr h)
        refine g_bipush C bp_m4 dX7_fault_36 (n := 38) rfl ?_
        refine r_I C dX7_fault_38 ?_
        exact ⟨Or.inr ⟨rfl, fun i hi => hB i (by omega)⟩, rfl⟩
      · have w7 : v < A.1 := (qlt hy hA.1 (by omega) (by omega)).mp c_7
        refine g_iload1 C dX7_fault_10 (n := 11) rfl ?_
        refine g_bipush C bp_120 dX7_fault_11 (n := 13) rfl ?_
        refine g_icmp_eq C dX7_fault_13 (t := 28) (by decide) (n := 16) rfl (fun c_13 => ?_) (fun c_13 => ?_)
        · have w13 : v = 120 := (qeq hy (show (120 : Int32) = nI 120 from rfl) (by omega) (by decide)).mp c_13
          have hbad : ¬ okT A v := fun h => by have := h.1; omega
          refine g_iload1 C dX7_fault_28 (n := 29) rfl ?_
          refine r_I C dX7_fault_29 ?_
          exact ⟨Or.inl ⟨v, w7, hy, hbad, hB⟩, rfl⟩
        · have w13 : ¬ v = 120 := fun h => c_13 ((qeq hy (show (120 : Int32) = nI 120 from rfl) (by omega) (by decide)).mpr h)
          have h12 : v < 120 := by
            rcases Nat.eq_zero_or_pos v with h | h
            · omega
            · have := (hB (v - 1) (by omega)).1
              omega
          refine g_aload0 C dX7_fault_16 (n := 17) rfl ?_
          refine kg_X7_7 C sh_80 rfl dX7_fault_17 (n := 20) rfl ?_
          refine g_iload1 C dX7_fault_20 (n := 21) rfl ?_
          refine g_iald C (j := v) sh_81 (by decide) (hy) (by omega) dX7_fault_21 (n := 22) rfl ?_
          rw [hA.2.1 v w7]
          refine kc_X7_73 C (ct_X7_isSign SH M (A.2.1 v)) ⟨Nat.le_of_ble_eq_true rfl, Nat.le_of_ble_eq_true rfl⟩ ⟨Nat.zero_le _, Nat.zero_le _⟩ (Nat.le_of_ble_eq_true rfl) dX7_fault_22 (n := 25) rfl (fun r_22 M_22 h_22 => ?_)
          rw [h_22.1, h_22.2]
          refine g_if_ne C dX7_fault_25 (t := 30) (by decide) (n := 28) rfl (fun c_25 => ?_) (fun c_25 => ?_)
          · have hgood : okT A v := ⟨h12, bI_n.mp c_25⟩
            refine g_iinc1 C (inc_1 _) dX7_fault_30 (n := 33) rfl ?_
            refine g_goto C dX7_fault_33 (t := 2) (by decide) ?_
            exact ih_2 (v + 1) (y + 1) (by omega) (by rw [hy, nI_1]) (by omega) (fun i hi => by
  by_cases h : i = v
  · rw [h]; exact hgood
  · exact hB i (by omega))
          · have hbad : ¬ okT A v := fun h => absurd ((bI_0.mp c_25).symm.trans h.2) (by decide)
            refine g_iload1 C dX7_fault_28 (n := 29) rfl ?_
            refine r_I C dX7_fault_29 ?_
            exact ⟨Or.inl ⟨v, w7, hy, hbad, hB⟩, rfl⟩
  exact L_2 (A.1 + 1) 0 0 (by omega) nI_0.symm (by omega) (fun i h => absurd h (Nat.not_lt_zero _))
set_option maxHeartbeats 4000000 in
set_option maxRecDepth 100000 in
theorem ct_X7_lay {l : Launch} {D : va_G} {cI cO : ClassId} {z tP : Nat} {aK aV : Nat → Nat} (M : Mem) (A : Abs) (hA : absR M A) (hw : wfA A) : Cm l D cI cO z tP aK aV yX7_lay cX7_lay 2 (some .int) 3 66 [.ref (z + 80)] SH M (pI (fun r M1 => ∃ B, layS A r B ∧ absR M1 B ∧ fr79 M M1)) := by
  refine cm_intro (lv0 := [some (.ref (z + 80)), none]) (by decide) rfl (Nat.le_of_ble_eq_true rfl) rfl (fun p e s m below meth c C => ?_)
  have hwS := hw.2.1
  have hn120 := hwS.1
  have hsp := hA.2.2.1
  have hl6 := hw.2.2.1
  have htl := hw.1
  refine g_aload0 C dX7_lay_0 (n := 1) rfl ?_
  refine kc_X7_76 C (ct_X7_fault M A hA hw) sh_80 ⟨Nat.le_of_ble_eq_true rfl, Nat.le_of_ble_eq_true rfl⟩ ⟨Nat.zero_le _, Nat.zero_le _⟩ (Nat.le_of_ble_eq_true rfl) dX7_lay_1 (n := 4) rfl (fun r_1 M_1 h_1 => ?_)
  rw [h_1.2]
  replace h_1 := h_1.1
  refine g_bipush C bp_m4 dX7_lay_4 (n := 6) rfl ?_
  refine g_icmp_eq C dX7_lay_6 (t := 12) (by decide) (n := 9) rfl (fun c_6 => ?_) (fun c_6 => ?_)
  · have hok : ∀ i, i < A.1 → okT A i := by
      rcases h_1 with ⟨j, hj, e, _⟩ | h
      · exact absurd (e.symm.trans c_6) (nI_neg (by omega) (by decide))
      · exact h.2
    have hle : A.1 ≤ 120 := by
      rcases Nat.eq_zero_or_pos A.1 with h | h
      · omega
      · have := (hok (A.1 - 1) (by omega)).1
        omega
    refine g_iconst C ic_0 dX7_lay_12 (n := 13) rfl ?_
    refine g_istore1 C dX7_lay_13 (n := 14) rfl ?_
    have L_14 : ∀ (fu : Nat) (v : Nat) (y : Int32) (M1 : Mem), A.1 - v < fu → (y = nI v) → (v ≤ A.1) → (∀ x, M1 82 x = if x < v then A.2.1 x else M 82 x) → (∀ a, a ≠ 82 → M1 a = M a) → G p l e ({ frames := 3, cells := 0, slots := 0, locals := 66 }) s m ([.ref (z + 80)] : List Value).toArray below meth c D cI cO z 2 (QM below D cI cO z ([.ref (z + 80)] : List Value).toArray s SH (pI (fun r M1 => ∃ B, layS A r B ∧ absR M1 B ∧ fr79 M M1))) 0 0 SH M1 14 [some (.ref (z + 80)), some (.int y)] [] := by
      intro fu_14
      induction fu_14 with
      | zero => intro v y M1 hfu; exact absurd hfu (Nat.not_lt_zero _)
      | succ fu_14 ih_14 =>
        intro v y M1 hfu_14 hy hv2 hB hF
        refine g_iload1 C dX7_lay_14 (n := 15) rfl ?_
        have h80 : M1 80 0 = nI A.1 := by rw [hF 80 (by omega)]; exact hA.1
        refine g_aload0 C dX7_lay_15 (n := 16) rfl ?_
        refine kg_X7_69 C sh_80 rfl dX7_lay_16 (n := 19) rfl ?_
        refine g_icmp_ge C dX7_lay_19 (t := 40) (by decide) (n := 22) rfl (fun c_19 => ?_) (fun c_19 => ?_)
        · have w19 : ¬ v < A.1 := fun h => c_19 ((qlt hy h80 (by omega) (by omega)).mpr h)
          refine g_aload0 C dX7_lay_40 (n := 41) rfl ?_
          refine kg_X7_13 C sh_80 rfl dX7_lay_41 (n := 44) rfl ?_
          refine g_bipush C bp_120 dX7_lay_44 (n := 46) rfl ?_
          refine g_aload0 C dX7_lay_46 (n := 47) rfl ?_
          refine kg_X7_69 C sh_80 rfl dX7_lay_47 (n := 50) rfl ?_
          refine g_iast C (j := 120) sh_82 (by decide) (rfl) (by omega) dX7_lay_50 (n := 51) rfl (fun M3 e3 => ?_)
          refine g_aload0 C dX7_lay_51 (n := 52) rfl ?_
          refine g_iconst C ic_0 dX7_lay_52 (n := 53) rfl ?_
          refine kp_X7_80 C sh_80 rfl dX7_lay_53 (n := 56) rfl (fun M4 e4 => ?_)
          refine g_aload0 C dX7_lay_56 (n := 57) rfl ?_
          refine kg_X7_69 C sh_80 rfl dX7_lay_57 (n := 60) rfl ?_
          refine r_I C dX7_lay_60 ?_
          have hv : v = A.1 := by omega
          have f4 : ∀ a, a ≠ 80 → a ≠ 82 → M4 a = M a := fun a a1 a2 => by rw [e4, up2_ne _ _ a1, e3, up2_ne _ _ a2]; exact hF a a2
          have g : M4 80 0 = nI A.1 ∧ M4 80 4 = 0 := by rw [e4]; simp [up2]; rw [e3, up2_ne _ _ (by omega)]; exact h80
          have q82 : ∀ x, M4 82 x = if x = 120 then nI A.1 else if x < A.1 then A.2.1 x else M 82 x := fun x => by
            rw [e4, up2_ne _ _ (by omega), e3]
            by_cases hx : x = 120
            · rw [hx, up2_at, if_pos rfl]; exact h80
            · rw [if_neg hx, ← hv, ← hB]; simp [up2, hx]
          refine ⟨_, Or.inl ⟨hok, g.1, rfl⟩, ⟨g.1, fun j hj => by rw [f4 81 (by omega) (by omega)]; exact hA.2.1 j hj, ⟨by rw [q82, if_pos rfl]; rfl, fun j hj => ?_, ?_, ?_, fun j hj => ?_⟩, g.2, fun i T hi => by simp at hi⟩, fun a ha => f4 a (by omega) (by omega)⟩
          · have hj2 : j < A.1 := hj
            rw [q82, if_neg (by omega), if_pos hj2]; rfl
          · rw [q82, if_neg (by omega), if_neg (by omega)]; exact hsp.2.2.1
          · rw [q82, if_neg (by omega), if_neg (by omega)]; exact hsp.2.2.2.1
          · rw [q82, if_neg (by omega), if_neg (by omega)]; exact hsp.2.2.2.2 j hj
        · have w19 : v < A.1 := (qlt hy h80 (by omega) (by omega)).mp c_19
          refine g_aload0 C dX7_lay_22 (n := 23) rfl ?_
          refine kg_X7_13 C sh_80 rfl dX7_lay_23 (n := 26) rfl ?_
          refine g_iload1 C dX7_lay_26 (n := 27) rfl ?_
          refine g_aload0 C dX7_lay_27 (n := 28) rfl ?_
          refine kg_X7_7 C sh_80 rfl dX7_lay_28 (n := 31) rfl ?_
          refine g_iload1 C dX7_lay_31 (n := 32) rfl ?_
          refine g_iald C (j := v) sh_81 (by decide) (hy) (by omega) dX7_lay_32 (n := 33) rfl ?_
          refine g_iast C (j := v) sh_82 (by decide) (hy) (by omega) dX7_lay_33 (n := 34) rfl (fun M_33 e_33 => ?_)
          refine g_iinc1 C (inc_1 _) dX7_lay_34 (n := 37) rfl ?_
          refine g_goto C dX7_lay_37 (t := 14) (by decide) ?_
          exact ih_14 (v + 1) (y + 1) M_33 (by omega) (by rw [hy, nI_1]) (by omega) (fun x => by
  rw [e_33]
  by_cases hx : x = v
  · rw [hx, up2_at, if_pos (by omega), hF 81 (by omega)]; exact hA.2.1 v w19
  · refine (show up2 M1 82 v _ 82 x = M1 82 x by simp [up2, hx]).trans ?_
    rw [hB]
    by_cases h4 : x < v
    · rw [if_pos h4, if_pos (by omega)]
    · rw [if_neg h4, if_neg (by omega)]) (fun a ha => by rw [e_33, up2_ne _ _ ha]; exact hF a ha)
    exact L_14 (A.1 + 1) 0 0 M (by omega) nI_0.symm (by omega) (fun x => by rw [if_neg (Nat.not_lt_zero _)]) (fun _ _ => rfl)
  · have hbad : ∃ i, i < A.1 ∧ ¬ okT A i := by
      rcases h_1 with ⟨j, hj, e, h, _⟩ | h
      · exact ⟨j, hj, h⟩
      · exact absurd h.1 c_6
    refine g_bipush C bp_m2 dX7_lay_9 (n := 11) rfl ?_
    refine r_I C dX7_lay_11 ?_
    exact ⟨A, Or.inr ⟨hbad, rfl, rfl⟩, hA, fun _ _ => rfl⟩
set_option maxHeartbeats 4000000 in
set_option maxRecDepth 100000 in
theorem ct_X7_speak {l : Launch} {D : va_G} {cI cO : ClassId} {z tP : Nat} {aK aV : Nat → Nat} (M : Mem) (A : Abs) (hA : absR M A) (hw : wfA A) : Cm l D cI cO z tP aK aV yX7_speak cX7_speak 2 (some .int) 2 44 [.ref (z + 80)] SH M (pI (fun r M1 => ∃ B, spkS A r B ∧ absR M1 B ∧ fr79 M M1)) := by
  refine cm_intro (lv0 := [some (.ref (z + 80)), none]) (by decide) rfl (Nat.le_of_ble_eq_true rfl) rfl (fun p e s m below meth c C => ?_)
  have hwS := hw.2.1
  have hn120 := hwS.1
  have hsp := hA.2.2.1
  have hl6 := hw.2.2.1
  have htl := hw.1
  have ht4 := hwS.2.2.1
  refine g_iconst C ic_0 dX7_speak_0 (n := 1) rfl ?_
  refine g_istore1 C dX7_speak_1 (n := 2) rfl ?_
  have L_2 : ∀ (fu : Nat) (v : Nat) (y : Int32), 4 - v < fu → (y = nI v) → (v ≤ 4) → (∀ t, t < v → ¬ nmB A.1 A.2.1 (t + 1)) → G p l e ({ frames := 2, cells := 0, slots := 0, locals := 44 }) s m ([.ref (z + 80)] : List Value).toArray below meth c D cI cO z 2 (QM below D cI cO z ([.ref (z + 80)] : List Value).toArray s SH (pI (fun r M1 => ∃ B, spkS A r B ∧ absR M1 B ∧ fr79 M M1))) 0 0 SH M 2 [some (.ref (z + 80)), some (.int y)] [] := by
    intro fu_2
    induction fu_2 with
    | zero => intro v y hfu; exact absurd hfu (Nat.not_lt_zero _)
    | succ fu_2 ih_2 =>
      intro v y hfu_2 hy hv hB
      refine g_iload1 C dX7_speak_2 (n := 3) rfl ?_
      refine g_iconst C ic_4 dX7_speak_3 (n := 4) rfl ?_
      refine g_icmp_ge C dX7_speak_4 (t := 40) (by decide) (n := 7) rfl (fun c_4 => ?_) (fun c_4 => ?_)
      · have w4 : ¬ v < 4 := fun h => c_4 ((qlt hy (show (4 : Int32) = nI 4 from rfl) (by omega) (by decide)).mpr h)
        refine g_bipush C bp_m4 dX7_speak_40 (n := 42) rfl ?_
        refine r_I C dX7_speak_42 ?_
        exact ⟨A, Or.inl ⟨fun t ht => hB t (by omega), rfl, rfl⟩, hA, fun _ _ => rfl⟩
      · have w4 : v < 4 := (qlt hy (show (4 : Int32) = nI 4 from rfl) (by omega) (by decide)).mp c_4
        refine g_aload0 C dX7_speak_7 (n := 8) rfl ?_
        refine g_iload1 C dX7_speak_8 (n := 9) rfl ?_
        refine kc_X7_89 C (ct_X7_isName M A v _ hy w4 hA hw) sh_80 ⟨Nat.le_of_ble_eq_true rfl, Nat.le_of_ble_eq_true rfl⟩ ⟨Nat.zero_le _, Nat.zero_le _⟩ (Nat.le_of_ble_eq_true rfl) dX7_speak_9 (n := 12) rfl (fun r_9 M_9 h_9 => ?_)
        rw [h_9.2]
        replace h_9 := h_9.1
        refine g_if_eq C dX7_speak_12 (t := 34) (by decide) (n := 15) rfl (fun c_12 => ?_) (fun c_12 => ?_)
        · have hno : ¬ nmB A.1 A.2.1 (v + 1) := by
            rcases h_9 with h | h
            · exact absurd (h.1.symm.trans c_12) (by decide)
            · exact h.2
          refine g_iinc1 C (inc_1 _) dX7_speak_34 (n := 37) rfl ?_
          refine g_goto C dX7_speak_37 (t := 2) (by decide) ?_
          exact ih_2 (v + 1) (y + 1) (by omega) (by rw [hy, nI_1]) (by omega) (fun i hi => by
  by_cases h : i = v
  · rw [h]; exact hno
  · exact hB i (by omega))
        · have hnm : nmB A.1 A.2.1 (v + 1) := by
            rcases h_9 with h | h
            · exact h.2
            · exact absurd h.1 c_12
          refine g_aload0 C dX7_speak_15 (n := 16) rfl ?_
          refine g_bipush C bp_121 dX7_speak_16 (n := 18) rfl ?_
          refine g_iload1 C dX7_speak_18 (n := 19) rfl ?_
          refine kc_X7_92 C (ct_X7_tells M A 121 _ _ rfl (by omega) hA hw) sh_80 ⟨Nat.le_of_ble_eq_true rfl, Nat.le_of_ble_eq_true rfl⟩ ⟨Nat.zero_le _, Nat.zero_le _⟩ (Nat.le_of_ble_eq_true rfl) dX7_speak_19 (n := 22) rfl (fun r_19 M_19 h_19 => ?_)
          
          refine g_bipush C bp_m2 dX7_speak_22 (n := 24) rfl ?_
          refine g_icmp_ne C dX7_speak_24 (t := 32) (by decide) (n := 27) rfl (fun c_24 => ?_) (fun c_24 => ?_)
          · have hfin : ∃ B, spkS A y B ∧ absR M_19 B ∧ fr79 M M_19 := by
              rcases h_19 with h | ⟨h1, h2, M2, hn, h3⟩
              · exact absurd h.2.1 c_24
              · have hne : v ≠ spt A.2.2.1 := fun h => h1 (by rw [hy, h]; exact hsp.2.2.1)
                refine ⟨chg A (sTon A.2.2.1 v), Or.inr ⟨v, w4, hnm, Or.inr ⟨hne, hy, rfl⟩⟩, ?_, fun a ha => by rw [h3, up2_ne _ _ (by omega)]; exact hn.2.2 a ha⟩
                refine absR_sp hn.1 (fun a ha => by rw [h3, up2_ne _ _ ha]) ?_
                rw [h3, up2_row, hn.2.1]
                exact spR_ton hn120 hy hsp
            refine g_iload1 C dX7_speak_32 (n := 33) rfl ?_
            refine r_I C dX7_speak_33 ?_
            exact hfin
          · have heq : v = spt A.2.2.1 ∧ M_19 = M := by
              rcases h_19 with h | h
              · exact ⟨((nI_eq (by omega) (by omega)).mp (hsp.2.2.1.symm.trans (h.1.trans hy))).symm, h.2.2⟩
              · exact absurd (hsp.2.2.1.symm.trans (h.2.1.symm.trans c_24)) (nI_neg (by omega) (by decide))
            have hfin : ∃ B, spkS A (-2) B ∧ absR M_19 B ∧ fr79 M M_19 := by
              rw [heq.2]
              exact ⟨A, Or.inr ⟨v, w4, hnm, Or.inl ⟨heq.1, rfl, rfl⟩⟩, hA, fun _ _ => rfl⟩
            refine g_bipush C bp_m2 dX7_speak_27 (n := 29) rfl ?_
            refine g_goto C dX7_speak_29 (t := 33) (by decide) ?_
            refine r_I C dX7_speak_33 ?_
            exact hfin
  exact L_2 5 0 0 (by omega) nI_0.symm (by omega) (fun i h => absurd h (Nat.not_lt_zero _))
set_option maxHeartbeats 4000000 in
set_option maxRecDepth 100000 in
theorem ct_X7_rule {l : Launch} {D : va_G} {cI cO : ClassId} {z tP : Nat} {aK aV : Nat → Nat} (M : Mem) (A : Abs) (x : Int32) (hA : absR M A) (hw : wfA A) : Cm l D cI cO z tP aK aV yX7_rule cX7_rule 2 (some .int) 2 44 [.ref (z + 80), .int x] SH M (pI (fun r M1 => r = (opRule A x).1 ∧ absR M1 (opRule A x).2 ∧ fr79 M M1)) := by
  refine cm_intro (lv0 := [some (.ref (z + 80)), some (.int x)]) (by decide) rfl (Nat.le_of_ble_eq_true rfl) rfl (fun p e s m below meth c C => ?_)
  have hwS := hw.2.1
  have hn120 := hwS.1
  have hsp := hA.2.2.1
  have hl6 := hw.2.2.1
  have htl := hw.1
  refine g_iload1 C dX7_rule_0 (n := 1) rfl ?_
  refine g_i2l C dX7_rule_1 (n := 2) rfl ?_
  refine g_lconst C (v := Int32.toInt64 0) (by decide) dX7_rule_2 (n := 3) rfl ?_
  refine g_ldc2 C kl_X7_95 dX7_rule_3 (n := 6) rfl ?_
  refine kc_X7_50 C (ct_X7_in SH M x 0 2) ⟨Nat.le_of_ble_eq_true rfl, Nat.le_of_ble_eq_true rfl⟩ ⟨Nat.zero_le _, Nat.zero_le _⟩ (Nat.le_of_ble_eq_true rfl) dX7_rule_6 (n := 9) rfl (fun r_6 M_6 h_6 => ?_)
  rw [h_6.1, h_6.2]
  refine g_if_eq C dX7_rule_9 (t := 22) (by decide) (n := 12) rfl (fun c_9 => ?_) (fun c_9 => ?_)
  · have hb := inn.mp c_9
    have hfin : (-1 : Int32) = (opRule A x).1 ∧ absR M (opRule A x).2 ∧ fr79 M M := by
      rw [show opRule A x = (-1, A) from if_pos (hb.elim Or.inl (fun h => Or.inr (le2.mp h)))]
      exact ⟨rfl, hA, fun _ _ => rfl⟩
    refine g_iconst C ic_m1 dX7_rule_22 (n := 23) rfl ?_
    refine r_I C dX7_rule_23 ?_
    exact hfin
  · have hb := inn'.mp c_9
    have h3 : x < 3 := by
      by_cases h : x < 3
      · exact h
      · exact absurd (le2.mpr h) hb.2
    have hno : ¬ (x < 0 ∨ ¬ x < 3) := fun h => h.elim hb.1 (fun q => q h3)
    obtain ⟨r0, hr3, hr⟩ := ix_of (n := 3) hb.1 h3 (by decide)
    refine g_aload0 C dX7_rule_12 (n := 13) rfl ?_
    refine g_bipush C bp_122 dX7_rule_13 (n := 15) rfl ?_
    refine g_iload1 C dX7_rule_15 (n := 16) rfl ?_
    refine kc_X7_92 C (ct_X7_tells M A 122 _ _ rfl (by omega) hA hw) sh_80 ⟨Nat.le_of_ble_eq_true rfl, Nat.le_of_ble_eq_true rfl⟩ ⟨Nat.zero_le _, Nat.zero_le _⟩ (Nat.le_of_ble_eq_true rfl) dX7_rule_16 (n := 19) rfl (fun r_16 M_16 h_16 => ?_)
    have hfin : r_16 = (opRule A x).1 ∧ absR M_16 (opRule A x).2 ∧ fr79 M M_16 := by
      rcases h_16 with ⟨h1, h2, h3⟩ | ⟨h1, h2, M2, hn, h3⟩
      · rw [show opRule A x = (-2, A) by unfold opRule; rw [if_neg hno, if_pos (h1.symm.trans hsp.2.2.2.1)], h3]
        exact ⟨h2, hA, fun _ _ => rfl⟩
      · rw [show opRule A x = (nI (spr A.2.2.1), chg A (sRul A.2.2.1 (tn x))) by unfold opRule; rw [if_neg hno, if_neg (fun h => h1 (hsp.2.2.2.1.trans h.symm))]]
        refine ⟨h2.trans hsp.2.2.2.1, absR_sp hn.1 (fun a ha => by rw [h3, up2_ne _ _ ha]) ?_, fun a ha => by rw [h3, up2_ne _ _ (by omega)]; exact hn.2.2 a ha⟩
        rw [h3, up2_row, hn.2.1]
        exact spR_rul hn120 (by rw [hr, tn_nI (by omega)]) hsp
    refine g_goto C dX7_rule_19 (t := 23) (by decide) ?_
    refine r_I C dX7_rule_23 ?_
    exact hfin
set_option maxHeartbeats 4000000 in
set_option maxRecDepth 100000 in
theorem ct_X7_weigh {l : Launch} {D : va_G} {cI cO : ClassId} {z tP : Nat} {aK aV : Nat → Nat} (M : Mem) (A : Abs) (x y : Int32) (hA : absR M A) (hw : wfA A) : Cm l D cI cO z tP aK aV yX7_weigh cX7_weigh 3 (some .int) 2 44 [.ref (z + 80), .int x, .int y] SH M (pI (fun r M1 => r = (opWeigh A x y).1 ∧ absR M1 (opWeigh A x y).2 ∧ fr79 M M1)) := by
  refine cm_intro (lv0 := [some (.ref (z + 80)), some (.int x), some (.int y)]) (by decide) rfl (Nat.le_of_ble_eq_true rfl) rfl (fun p e s m below meth c C => ?_)
  have hwS := hw.2.1
  have hn120 := hwS.1
  have hsp := hA.2.2.1
  have hl6 := hw.2.2.1
  have htl := hw.1
  refine g_iload1 C dX7_weigh_0 (n := 1) rfl ?_
  refine g_i2l C dX7_weigh_1 (n := 2) rfl ?_
  refine g_lconst C (v := Int32.toInt64 0) (by decide) dX7_weigh_2 (n := 3) rfl ?_
  refine g_ldc2 C kl_X7_95 dX7_weigh_3 (n := 6) rfl ?_
  refine kc_X7_50 C (ct_X7_in SH M x 0 2) ⟨Nat.le_of_ble_eq_true rfl, Nat.le_of_ble_eq_true rfl⟩ ⟨Nat.zero_le _, Nat.zero_le _⟩ (Nat.le_of_ble_eq_true rfl) dX7_weigh_6 (n := 9) rfl (fun r_6 M_6 h_6 => ?_)
  rw [h_6.1, h_6.2]
  refine g_if_eq C dX7_weigh_9 (t := 36) (by decide) (n := 12) rfl (fun c_9 => ?_) (fun c_9 => ?_)
  · have hbad : x < 0 ∨ ¬ x < 3 ∨ y < 1 ∨ 9 < y := (inn.mp c_9).elim Or.inl (fun h => Or.inr (Or.inl (le2.mp h)))
    have hfin : (-1 : Int32) = (opWeigh A x y).1 ∧ absR M (opWeigh A x y).2 ∧ fr79 M M := by
      rw [show opWeigh A x y = (-1, A) from if_pos hbad]
      exact ⟨rfl, hA, fun _ _ => rfl⟩
    refine g_iconst C ic_m1 dX7_weigh_36 (n := 37) rfl ?_
    refine r_I C dX7_weigh_37 ?_
    exact hfin
  · have hb := inn'.mp c_9
    have h3 : x < 3 := by
      by_cases h : x < 3
      · exact h
      · exact absurd (le2.mpr h) hb.2
    obtain ⟨i0, hr3, hi⟩ := ix_of (n := 3) hb.1 h3 (by decide)
    refine g_iload2 C dX7_weigh_12 (n := 13) rfl ?_
    refine g_i2l C dX7_weigh_13 (n := 14) rfl ?_
    refine g_lconst C (v := Int32.toInt64 1) (by decide) dX7_weigh_14 (n := 15) rfl ?_
    refine g_ldc2 C kl_X7_97 dX7_weigh_15 (n := 18) rfl ?_
    refine kc_X7_50 C (ct_X7_in SH M y 1 9) ⟨Nat.le_of_ble_eq_true rfl, Nat.le_of_ble_eq_true rfl⟩ ⟨Nat.zero_le _, Nat.zero_le _⟩ (Nat.le_of_ble_eq_true rfl) dX7_weigh_18 (n := 21) rfl (fun r_18 M_18 h_18 => ?_)
    rw [h_18.1, h_18.2]
    refine g_if_eq C dX7_weigh_21 (t := 36) (by decide) (n := 24) rfl (fun c_21 => ?_) (fun c_21 => ?_)
    · have hbad : x < 0 ∨ ¬ x < 3 ∨ y < 1 ∨ 9 < y := Or.inr (Or.inr (inn.mp c_21))
      have hfin : (-1 : Int32) = (opWeigh A x y).1 ∧ absR M (opWeigh A x y).2 ∧ fr79 M M := by
        rw [show opWeigh A x y = (-1, A) from if_pos hbad]
        exact ⟨rfl, hA, fun _ _ => rfl⟩
      refine g_iconst C ic_m1 dX7_weigh_36 (n := 37) rfl ?_
      refine r_I C dX7_weigh_37 ?_
      exact hfin
    · have hb2 := inn'.mp c_21
      have hno : ¬ (x < 0 ∨ ¬ x < 3 ∨ y < 1 ∨ 9 < y) := by
        rintro (h | h | h | h)
        · exact hb.1 h
        · exact h h3
        · exact hb2.1 h
        · exact hb2.2 h
      obtain ⟨v0, hv9, hv⟩ := ix_le (x := y) (n := 9) (fun h => hb2.1 (lt0_1 h)) hb2.2 (by decide)
      have htn : tn x = i0 := by rw [hi, tn_nI (by omega)]
      refine g_aload0 C dX7_weigh_24 (n := 25) rfl ?_
      refine g_bipush C bp_123 dX7_weigh_25 (n := 27) rfl ?_
      refine g_iload1 C dX7_weigh_27 (n := 28) rfl ?_
      refine g_iadd C dX7_weigh_28 (n := 29) rfl ?_
      refine g_iload2 C dX7_weigh_29 (n := 30) rfl ?_
      refine kc_X7_92 C (ct_X7_tells M A (123 + i0) _ _ (e_add rfl hi) (by omega) hA hw) sh_80 ⟨Nat.le_of_ble_eq_true rfl, Nat.le_of_ble_eq_true rfl⟩ ⟨Nat.zero_le _, Nat.zero_le _⟩ (Nat.le_of_ble_eq_true rfl) dX7_weigh_30 (n := 33) rfl (fun r_30 M_30 h_30 => ?_)
      have h7 : M 82 (123 + i0) = nI (spw A.2.2.1 (tn x)) := by rw [htn]; exact hsp.2.2.2.2 i0 hr3
      have hfin : r_30 = (opWeigh A x y).1 ∧ absR M_30 (opWeigh A x y).2 ∧ fr79 M M_30 := by
        rcases h_30 with ⟨h1, h2, h3⟩ | ⟨h1, h2, M2, hn, h3⟩
        · rw [show opWeigh A x y = (-2, A) by unfold opWeigh; rw [if_neg hno, if_pos (h1.symm.trans h7)], h3]
          exact ⟨h2, hA, fun _ _ => rfl⟩
        · rw [show opWeigh A x y = (nI (spw A.2.2.1 (tn x)), chg A (sWei A.2.2.1 (tn x) (tn y))) by unfold opWeigh; rw [if_neg hno, if_neg (fun h => h1 (h7.trans h.symm))]]
          refine ⟨h2.trans h7, absR_sp hn.1 (fun a ha => by rw [h3, up2_ne _ _ ha]) ?_, fun a ha => by rw [h3, up2_ne _ _ (by omega)]; exact hn.2.2 a ha⟩
          rw [h3, up2_row, hn.2.1, htn, show tn y = v0 by rw [hv, tn_nI (by omega)]]
          exact spR_wei hn120 hv hsp
      refine g_goto C dX7_weigh_33 (t := 37) (by decide) ?_
      refine r_I C dX7_weigh_37 ?_
      exact hfin
set_option maxHeartbeats 4000000 in
set_option maxRecDepth 100000 in
theorem ct_X7_isPlace {l : Launch} {D : va_G} {cI cO : ClassId} {z tP : Nat} {aK aV : Nat → Nat} (M : Mem) (A : Abs) (x : Int32) (hA : absR M A) (hw : wfA A) : Cm l D cI cO z tP aK aV yX7_isPlace cX7_isPlace 2 (some .boolean) 1 25 [.ref (z + 80), .int x] SH M (pI (fun r M1 => r = bI (!decide (x < 0) && decide (x < nI (spn A.2.2.1))) ∧ M1 = M)) := by
  refine cm_intro (lv0 := [some (.ref (z + 80)), some (.int x)]) (by decide) rfl (Nat.le_of_ble_eq_true rfl) rfl (fun p e s m below meth c C => ?_)
  have hwS := hw.2.1
  have hn120 := hwS.1
  have hsp := hA.2.2.1
  have hl6 := hw.2.2.1
  have htl := hw.1
  refine g_iload1 C dX7_isPlace_0 (n := 1) rfl ?_
  refine g_i2l C dX7_isPlace_1 (n := 2) rfl ?_
  refine g_lconst C (v := Int32.toInt64 0) (by decide) dX7_isPlace_2 (n := 3) rfl ?_
  refine g_aload0 C dX7_isPlace_3 (n := 4) rfl ?_
  refine kg_X7_13 C sh_80 rfl dX7_isPlace_4 (n := 7) rfl ?_
  refine g_bipush C bp_120 dX7_isPlace_7 (n := 9) rfl ?_
  refine g_iald C (j := 120) sh_82 (by decide) (rfl) (by omega) dX7_isPlace_9 (n := 10) rfl ?_
  refine g_iconst C ic_1 dX7_isPlace_10 (n := 11) rfl ?_
  refine g_isub C dX7_isPlace_11 (n := 12) rfl ?_
  refine g_i2l C dX7_isPlace_12 (n := 13) rfl ?_
  refine kc_X7_50 C (ct_X7_in SH M x 0 (M 82 120 - 1)) ⟨Nat.le_of_ble_eq_true rfl, Nat.le_of_ble_eq_true rfl⟩ ⟨Nat.zero_le _, Nat.zero_le _⟩ (Nat.le_of_ble_eq_true rfl) dX7_isPlace_13 (n := 16) rfl (fun r_13 M_13 h_13 => ?_)
  have e9 : (!decide (M 82 120 - 1 < x)) = decide (x < nI (spn A.2.2.1)) := by
    rw [hsp.1]
    by_cases h : x < nI (spn A.2.2.1)
    · have := (not_congr (pl_iff (x := x) hn120)).mpr (not_not_intro h)
      simp [h, this]
    · have := (pl_iff (x := x) hn120).mpr h
      simp [h, this]
  rw [h_13.1, h_13.2, e9]
  refine r_Z C dX7_isPlace_16 (nar_b _) ?_
  exact ⟨rfl, rfl⟩
set_option maxHeartbeats 4000000 in
set_option maxRecDepth 100000 in
theorem ct_X7_take {l : Launch} {D : va_G} {cI cO : ClassId} {z tP : Nat} {aK aV : Nat → Nat} (M : Mem) (A : Abs) (x : Int32) (hA : absR M A) (hw : wfA A) : Cm l D cI cO z tP aK aV yX7_take cX7_take 4 (some .int) 2 46 [.ref (z + 80), .int x] SH M (pI (fun r M1 => r = (opTake A x).1 ∧ absR M1 (opTake A x).2 ∧ fr79 M M1)) := by
  refine cm_intro (lv0 := [some (.ref (z + 80)), some (.int x), none, none]) (by decide) rfl (Nat.le_of_ble_eq_true rfl) rfl (fun p e s m below meth c C => ?_)
  have hwS := hw.2.1
  have hn120 := hwS.1
  have hsp := hA.2.2.1
  have hl6 := hw.2.2.1
  have htl := hw.1
  refine g_aload0 C dX7_take_0 (n := 1) rfl ?_
  refine g_iload1 C dX7_take_1 (n := 2) rfl ?_
  refine kc_X7_99 C (ct_X7_isPlace M A x hA hw) sh_80 ⟨Nat.le_of_ble_eq_true rfl, Nat.le_of_ble_eq_true rfl⟩ ⟨Nat.zero_le _, Nat.zero_le _⟩ (Nat.le_of_ble_eq_true rfl) dX7_take_2 (n := 5) rfl (fun r_2 M_2 h_2 => ?_)
  rw [h_2.1, h_2.2]
  refine g_if_ne C dX7_take_5 (t := 10) (by decide) (n := 8) rfl (fun c_5 => ?_) (fun c_5 => ?_)
  · have hb := blw'.mp c_5
    have hno : ¬ (x < 0 ∨ ¬ x < nI (spn A.2.2.1)) := fun h => h.elim hb.1 (fun q => q hb.2)
    obtain ⟨i0, hi3, hi⟩ := ix_of hb.1 hb.2 (by omega)
    refine g_aload0 C dX7_take_10 (n := 11) rfl ?_
    refine kc_X7_86 C (ct_X7_note M A hA hw) sh_80 ⟨Nat.le_of_ble_eq_true rfl, Nat.le_of_ble_eq_true rfl⟩ ⟨Nat.zero_le _, Nat.zero_le _⟩ (Nat.le_of_ble_eq_true rfl) dX7_take_11 (n := 14) rfl (fun M2 h2 => ?_)
    refine g_aload0 C dX7_take_14 (n := 15) rfl ?_
    refine kg_X7_13 C sh_80 rfl dX7_take_15 (n := 18) rfl ?_
    refine g_iload1 C dX7_take_18 (n := 19) rfl ?_
    refine g_iald C (j := i0) sh_82 (by decide) (hi) (by omega) dX7_take_19 (n := 20) rfl ?_
    refine g_istore2 C dX7_take_20 (n := 21) rfl ?_
    refine g_aload0 C dX7_take_21 (n := 22) rfl ?_
    refine kg_X7_13 C sh_80 rfl dX7_take_22 (n := 25) rfl ?_
    refine g_bipush C bp_120 dX7_take_25 (n := 27) rfl ?_
    refine g_dup2 C rfl rfl dX7_take_27 (n := 28) rfl ?_
    refine g_iald C (j := 120) sh_82 (by decide) (rfl) (by omega) dX7_take_28 (n := 29) rfl ?_
    refine g_iconst C ic_1 dX7_take_29 (n := 30) rfl ?_
    refine g_isub C dX7_take_30 (n := 31) rfl ?_
    refine g_iast C (j := 120) sh_82 (by decide) (rfl) (by omega) dX7_take_31 (n := 32) rfl (fun M3 e3 => ?_)
    have k3 : M3 82 120 = nI (spn A.2.2.1 - 1) := by rw [e3, up2_at, h2.2.1]; exact e_sub hsp.1 (show (1 : Int32) = nI 1 from rfl) (by omega)
    have o3 : ∀ j, j ≠ 120 → M3 82 j = M 82 j := fun j hj => by rw [e3, ← h2.2.1]; simp [up2, hj]
    refine g_iload1 C dX7_take_32 (n := 33) rfl ?_
    refine g_istore3 C dX7_take_33 (n := 34) rfl ?_
    have L_34 : ∀ (fu : Nat) (v : Nat) (y : Int32) (M1 : Mem), spn A.2.2.1 - v < fu → (y = nI v) → (i0 ≤ v) → (v < spn A.2.2.1) → (∀ j, j < 126 → j ≠ 120 → M1 82 j = if i0 ≤ j ∧ j < v then M 82 (j + 1) else M 82 j) → (M1 82 120 = nI (spn A.2.2.1 - 1)) → (∀ a, a ≠ 82 → M1 a = M2 a) → G p l e ({ frames := 2, cells := 0, slots := 0, locals := 46 }) s m ([.ref (z + 80), .int x] : List Value).toArray below meth c D cI cO z 4 (QM below D cI cO z ([.ref (z + 80), .int x] : List Value).toArray s SH (pI (fun r M1 => r = (opTake A x).1 ∧ absR M1 (opTake A x).2 ∧ fr79 M M1))) 0 0 SH M1 34 [some (.ref (z + 80)), some (.int x), some (.int (M2 82 i0)), some (.int y)] [] := by
      intro fu_34
      induction fu_34 with
      | zero => intro v y M1 hfu; exact absurd hfu (Nat.not_lt_zero _)
      | succ fu_34 ih_34 =>
        intro v y M1 hfu_34 hy hv1 hv2 hB hk hF
        refine g_iload3 C dX7_take_34 (n := 35) rfl ?_
        refine g_aload0 C dX7_take_35 (n := 36) rfl ?_
        refine kg_X7_13 C sh_80 rfl dX7_take_36 (n := 39) rfl ?_
        refine g_bipush C bp_120 dX7_take_39 (n := 41) rfl ?_
        refine g_iald C (j := 120) sh_82 (by decide) (rfl) (by omega) dX7_take_41 (n := 42) rfl ?_
        refine g_icmp_ge C dX7_take_42 (t := 65) (by decide) (n := 45) rfl (fun c_42 => ?_) (fun c_42 => ?_)
        · have w42 : ¬ v < spn A.2.2.1 - 1 := fun h => c_42 ((qlt hy hk (by omega) (by omega)).mpr h)
          refine g_iload2 C dX7_take_65 (n := 66) rfl ?_
          refine r_I C dX7_take_66 ?_
          rw [show opTake A x = (spg A.2.2.1 (tn x), chg A (sRem A.2.2.1 (tn x))) from if_neg hno, show tn x = i0 by rw [hi, tn_nI (by omega)]]
          refine ⟨by rw [h2.2.1]; exact hsp.2.1 i0 hi3, absR_sp h2.1 hF ⟨hk, fun j hj => ?_, ?_, ?_, fun j hj => ?_⟩, fun a ha => by rw [hF a (by omega)]; exact h2.2.2 a ha⟩
          · have hj2 : j < spn A.2.2.1 - 1 := hj
            rw [hB j (by omega) (by omega)]
            show _ = if j < i0 then spg A.2.2.1 j else spg A.2.2.1 (j + 1)
            by_cases h4 : j < i0
            · rw [if_pos h4, if_neg (by omega)]; exact hsp.2.1 j (by omega)
            · rw [if_neg h4, if_pos (by omega)]; exact hsp.2.1 (j + 1) (by omega)
          · rw [hB 121 (by omega) (by omega), if_neg (by omega)]; exact hsp.2.2.1
          · rw [hB 122 (by omega) (by omega), if_neg (by omega)]; exact hsp.2.2.2.1
          · rw [hB (123 + j) (by omega) (by omega), if_neg (by omega)]; exact hsp.2.2.2.2 j hj
        · have w42 : v < spn A.2.2.1 - 1 := (qlt hy hk (by omega) (by omega)).mp c_42
          refine g_aload0 C dX7_take_45 (n := 46) rfl ?_
          refine kg_X7_13 C sh_80 rfl dX7_take_46 (n := 49) rfl ?_
          refine g_iload3 C dX7_take_49 (n := 50) rfl ?_
          refine g_aload0 C dX7_take_50 (n := 51) rfl ?_
          refine kg_X7_13 C sh_80 rfl dX7_take_51 (n := 54) rfl ?_
          refine g_iload3 C dX7_take_54 (n := 55) rfl ?_
          refine g_iconst C ic_1 dX7_take_55 (n := 56) rfl ?_
          refine g_iadd C dX7_take_56 (n := 57) rfl ?_
          refine g_iald C (j := v + 1) sh_82 (by decide) (by rw [hy, nI_1]) (by omega) dX7_take_57 (n := 58) rfl ?_
          refine g_iast C (j := v) sh_82 (by decide) (hy) (by omega) dX7_take_58 (n := 59) rfl (fun M_58 e_58 => ?_)
          refine g_iinc3 C (inc_1 _) dX7_take_59 (n := 62) rfl ?_
          refine g_goto C dX7_take_62 (t := 34) (by decide) ?_
          exact ih_34 (v + 1) (y + 1) M_58 (by omega) (by rw [hy, nI_1]) (by omega) (by omega) (fun j hj h1 => by
  rw [e_58]
  by_cases hx : j = v
  · rw [hx, up2_at, if_pos (by omega), hB (v + 1) (by omega) (by omega), if_neg (by omega)]
  · refine (show up2 M1 82 v _ 82 j = M1 82 j by simp [up2, hx]).trans ?_
    rw [hB j hj h1]
    by_cases h4 : i0 ≤ j ∧ j < v
    · rw [if_pos h4, if_pos (by omega)]
    · rw [if_neg h4, if_neg (by omega)]) (by rw [e_58]; refine (show up2 M1 82 v _ 82 120 = M1 82 120 by simp [up2]; omega).trans hk) (fun a ha => by rw [e_58, up2_ne _ _ ha]; exact hF a ha)
    exact L_34 (spn A.2.2.1 - i0 + 1) i0 _ M3 (by omega) hi (by omega) (by omega) (fun j _ h1 => by rw [if_neg (by omega)]; exact o3 j h1) k3 (fun a ha => by rw [e3, up2_ne _ _ ha])
  · have hb := blw.mp c_5
    refine g_iconst C ic_m1 dX7_take_8 (n := 9) rfl ?_
    refine r_I C dX7_take_9 ?_
    rw [show opTake A x = (-1, A) from if_pos hb]
    exact ⟨rfl, hA, fun _ _ => rfl⟩
set_option maxHeartbeats 4000000 in
set_option maxRecDepth 100000 in
theorem ct_X7_put {l : Launch} {D : va_G} {cI cO : ClassId} {z tP : Nat} {aK aV : Nat → Nat} (M : Mem) (A : Abs) (x c0 : Int32) (hA : absR M A) (hw : wfA A) : Cm l D cI cO z tP aK aV yX7_put cX7_put 5 (some .int) 2 45 [.ref (z + 80), .int x, .int c0] SH M (pI (fun r M1 => r = (opPut A x c0).1 ∧ absR M1 (opPut A x c0).2 ∧ fr79 M M1)) := by
  refine cm_intro (lv0 := [some (.ref (z + 80)), some (.int x), some (.int c0), none, none]) (by decide) rfl (Nat.le_of_ble_eq_true rfl) rfl (fun p e s m below meth c C => ?_)
  have hwS := hw.2.1
  have hn120 := hwS.1
  have hsp := hA.2.2.1
  have hl6 := hw.2.2.1
  have htl := hw.1
  refine g_aload0 C dX7_put_0 (n := 1) rfl ?_
  refine kg_X7_13 C sh_80 rfl dX7_put_1 (n := 4) rfl ?_
  refine g_bipush C bp_120 dX7_put_4 (n := 6) rfl ?_
  refine g_iald C (j := 120) sh_82 (by decide) (rfl) (by omega) dX7_put_6 (n := 7) rfl ?_
  refine g_istore3 C dX7_put_7 (n := 8) rfl ?_
  refine g_iload1 C dX7_put_8 (n := 9) rfl ?_
  refine g_i2l C dX7_put_9 (n := 10) rfl ?_
  refine g_lconst C (v := Int32.toInt64 0) (by decide) dX7_put_10 (n := 11) rfl ?_
  refine g_iload3 C dX7_put_11 (n := 12) rfl ?_
  refine g_i2l C dX7_put_12 (n := 13) rfl ?_
  refine kc_X7_50 C (ct_X7_in SH M x 0 (M 82 120)) ⟨Nat.le_of_ble_eq_true rfl, Nat.le_of_ble_eq_true rfl⟩ ⟨Nat.zero_le _, Nat.zero_le _⟩ (Nat.le_of_ble_eq_true rfl) dX7_put_13 (n := 16) rfl (fun r_13 M_13 h_13 => ?_)
  rw [h_13.1, h_13.2, hsp.1]
  refine g_if_eq C dX7_put_16 (t := 26) (by decide) (n := 19) rfl (fun c_16 => ?_) (fun c_16 => ?_)
  · have hbad : x < 0 ∨ nI (spn A.2.2.1) < x ∨ isSg c0 = false := (inn.mp c_16).elim Or.inl (fun h => Or.inr (Or.inl h))
    refine g_iconst C ic_m1 dX7_put_26 (n := 27) rfl ?_
    refine r_I C dX7_put_27 ?_
    rw [show opPut A x c0 = (-1, A) from if_pos hbad]
    exact ⟨rfl, hA, fun _ _ => rfl⟩
  · have hb := inn'.mp c_16
    obtain ⟨i0, hi3, hi⟩ := ix_le hb.1 hb.2 (by omega)
    refine g_iload2 C dX7_put_19 (n := 20) rfl ?_
    refine kc_X7_73 C (ct_X7_isSign SH M c0) ⟨Nat.le_of_ble_eq_true rfl, Nat.le_of_ble_eq_true rfl⟩ ⟨Nat.zero_le _, Nat.zero_le _⟩ (Nat.le_of_ble_eq_true rfl) dX7_put_20 (n := 23) rfl (fun r_20 M_20 h_20 => ?_)
    rw [h_20.1, h_20.2]
    refine g_if_ne C dX7_put_23 (t := 28) (by decide) (n := 26) rfl (fun c_23 => ?_) (fun c_23 => ?_)
    · have hsg := bI_n.mp c_23
      have hno : ¬ (x < 0 ∨ nI (spn A.2.2.1) < x ∨ isSg c0 = false) := by
        rintro (h | h | h)
        · exact hb.1 h
        · exact hb.2 h
        · rw [hsg] at h; cases h
      refine g_iload3 C dX7_put_28 (n := 29) rfl ?_
      refine g_bipush C bp_120 dX7_put_29 (n := 31) rfl ?_
      refine g_icmp_ne C dX7_put_31 (t := 37) (by decide) (n := 34) rfl (fun c_31 => ?_) (fun c_31 => ?_)
      · have w31 : ¬ spn A.2.2.1 = 120 := fun h => c_31 ((qeq (rfl : nI (spn A.2.2.1) = _) (show (120 : Int32) = nI 120 from rfl) (by omega) (by decide)).mpr h)
        refine g_aload0 C dX7_put_37 (n := 38) rfl ?_
        refine kc_X7_86 C (ct_X7_note M A hA hw) sh_80 ⟨Nat.le_of_ble_eq_true rfl, Nat.le_of_ble_eq_true rfl⟩ ⟨Nat.zero_le _, Nat.zero_le _⟩ (Nat.le_of_ble_eq_true rfl) dX7_put_38 (n := 41) rfl (fun M2 h2 => ?_)
        refine g_iload3 C dX7_put_41 (n := 42) rfl ?_
        refine g_istore4 C dX7_put_42 (n := 44) rfl ?_
        have L_44 : ∀ (fu : Nat) (v : Nat) (y : Int32) (M1 : Mem), v - i0 < fu → (y = nI v) → (i0 ≤ v) → (v ≤ spn A.2.2.1) → (∀ j, j < 126 → j ≠ v → M1 82 j = if v < j ∧ j ≤ spn A.2.2.1 then M 82 (j - 1) else M 82 j) → (∀ a, a ≠ 82 → M1 a = M2 a) → G p l e ({ frames := 2, cells := 0, slots := 0, locals := 45 }) s m ([.ref (z + 80), .int x, .int c0] : List Value).toArray below meth c D cI cO z 5 (QM below D cI cO z ([.ref (z + 80), .int x, .int c0] : List Value).toArray s SH (pI (fun r M1 => r = (opPut A x c0).1 ∧ absR M1 (opPut A x c0).2 ∧ fr79 M M1))) 0 0 SH M1 44 [some (.ref (z + 80)), some (.int x), some (.int c0), some (.int (nI (spn A.2.2.1))), some (.int y)] [] := by
          intro fu_44
          induction fu_44 with
          | zero => intro v y M1 hfu; exact absurd hfu (Nat.not_lt_zero _)
          | succ fu_44 ih_44 =>
            intro v y M1 hfu_44 hy hv1 hv2 hB hF
            refine g_iload4 C dX7_put_44 (n := 46) rfl ?_
            refine g_iload1 C dX7_put_46 (n := 47) rfl ?_
            refine g_icmp_le C dX7_put_47 (t := 72) (by decide) (n := 50) rfl (fun c_47 => ?_) (fun c_47 => ?_)
            · have hv : v = i0 := by
                have : ¬ i0 < v := fun h => c_47 ((qlt hi hy (by omega) (by omega)).mpr h)
                omega
              refine g_aload0 C dX7_put_72 (n := 73) rfl ?_
              refine kg_X7_13 C sh_80 rfl dX7_put_73 (n := 76) rfl ?_
              refine g_iload1 C dX7_put_76 (n := 77) rfl ?_
              refine g_iload2 C dX7_put_77 (n := 78) rfl ?_
              refine g_iast C (j := i0) sh_82 (by decide) (hi) (by omega) dX7_put_78 (n := 79) rfl (fun M4 e4 => ?_)
              refine g_aload0 C dX7_put_79 (n := 80) rfl ?_
              refine kg_X7_13 C sh_80 rfl dX7_put_80 (n := 83) rfl ?_
              refine g_bipush C bp_120 dX7_put_83 (n := 85) rfl ?_
              refine g_iload3 C dX7_put_85 (n := 86) rfl ?_
              refine g_iconst C ic_1 dX7_put_86 (n := 87) rfl ?_
              refine g_iadd C dX7_put_87 (n := 88) rfl ?_
              refine g_iast C (j := 120) sh_82 (by decide) (rfl) (by omega) dX7_put_88 (n := 89) rfl (fun M5 e5 => ?_)
              refine g_iload3 C dX7_put_89 (n := 90) rfl ?_
              refine g_iconst C ic_1 dX7_put_90 (n := 91) rfl ?_
              refine g_iadd C dX7_put_91 (n := 92) rfl ?_
              refine r_I C dX7_put_92 ?_
              rw [show opPut A x c0 = (nI (spn A.2.2.1 + 1), chg A (sIns A.2.2.1 (tn x) c0)) by unfold opPut; rw [if_neg hno, if_neg (by omega)], show tn x = i0 by rw [hi, tn_nI (by omega)]]
              have f5 : ∀ a, a ≠ 82 → M5 a = M2 a := fun a ha => by rw [e5, up2_ne _ _ ha, e4, up2_ne _ _ ha]; exact hF a ha
              have q5 : ∀ j, j < 126 → M5 82 j = if j = 120 then nI (spn A.2.2.1 + 1) else if j = i0 then c0 else if i0 < j ∧ j ≤ spn A.2.2.1 then M 82 (j - 1) else M 82 j := fun j hj => by
                rw [e5]
                by_cases h1 : j = 120
                · rw [h1, up2_at, if_pos rfl]; exact nI_1 _
                · rw [if_neg h1]
                  refine (show up2 M4 82 120 _ 82 j = M4 82 j by simp [up2, h1]).trans ?_
                  rw [e4]
                  by_cases h3 : j = i0
                  · rw [h3, up2_at, if_pos rfl]
                  · rw [if_neg h3]
                    refine (show up2 M1 82 i0 _ 82 j = M1 82 j by simp [up2, h3]).trans ?_
                    rw [hB j hj (by omega), hv]
              refine ⟨nI_1 _, absR_sp h2.1 f5 ⟨by rw [q5 120 (by omega), if_pos rfl]; rfl, fun j hj => ?_, ?_, ?_, fun j hj => ?_⟩, fun a ha => by rw [f5 a (by omega)]; exact h2.2.2 a ha⟩
              · have hj2 : j < spn A.2.2.1 + 1 := hj
                rw [q5 j (by omega), if_neg (by omega)]
                show _ = if j < i0 then spg A.2.2.1 j else if j = i0 then c0 else spg A.2.2.1 (j - 1)
                by_cases h3 : j = i0
                · rw [if_pos h3, if_neg (by omega), if_pos h3]
                · rw [if_neg h3]
                  by_cases h4 : j < i0
                  · rw [if_pos h4, if_neg (by omega)]; exact hsp.2.1 j (by omega)
                  · rw [if_neg h4, if_neg h3, if_pos (by omega)]; exact hsp.2.1 (j - 1) (by omega)
              · rw [q5 121 (by omega), if_neg (by omega), if_neg (by omega), if_neg (by omega)]; exact hsp.2.2.1
              · rw [q5 122 (by omega), if_neg (by omega), if_neg (by omega), if_neg (by omega)]; exact hsp.2.2.2.1
              · rw [q5 (123 + j) (by omega), if_neg (by omega), if_neg (by omega), if_neg (by omega)]; exact hsp.2.2.2.2 j hj
            · have hv : i0 < v := (qlt hi hy (by omega) (by omega)).mp c_47
              refine g_aload0 C dX7_put_50 (n := 51) rfl ?_
              refine kg_X7_13 C sh_80 rfl dX7_put_51 (n := 54) rfl ?_
              refine g_iload4 C dX7_put_54 (n := 56) rfl ?_
              refine g_aload0 C dX7_put_56 (n := 57) rfl ?_
              refine kg_X7_13 C sh_80 rfl dX7_put_57 (n := 60) rfl ?_
              refine g_iload4 C dX7_put_60 (n := 62) rfl ?_
              refine g_iconst C ic_1 dX7_put_62 (n := 63) rfl ?_
              refine g_isub C dX7_put_63 (n := 64) rfl ?_
              refine g_iald C (j := v - 1) sh_82 (by decide) (e_sub hy (show (1 : Int32) = nI 1 from rfl) (by omega)) (by omega) dX7_put_64 (n := 65) rfl ?_
              refine g_iast C (j := v) sh_82 (by decide) (hy) (by omega) dX7_put_65 (n := 66) rfl (fun M_65 e_65 => ?_)
              refine g_iinc4 C (inc_m1 _) dX7_put_66 (n := 69) rfl ?_
              refine g_goto C dX7_put_69 (t := 44) (by decide) ?_
              exact ih_44 (v - 1) (y + -1) M_65 (by omega) (by rw [hy, show v = (v - 1) + 1 by omega]; exact pk_m1 _) (by omega) (by omega) (fun j hj h1 => by
  rw [e_65]
  by_cases hx : j = v
  · rw [hx, up2_at, if_pos (by omega), hB (v - 1) (by omega) (by omega), if_neg (by omega)]
  · refine (show up2 M1 82 v _ 82 j = M1 82 j by simp [up2, hx]).trans ?_
    rw [hB j hj hx]
    by_cases h4 : v < j ∧ j ≤ spn A.2.2.1
    · rw [if_pos h4, if_pos (by omega)]
    · rw [if_neg h4, if_neg (by omega)]) (fun a ha => by rw [e_65, up2_ne _ _ ha]; exact hF a ha)
        exact L_44 (spn A.2.2.1 - i0 + 1) (spn A.2.2.1) _ M2 (by omega) rfl (by omega) (by omega) (fun j _ h1 => by rw [if_neg (by omega), h2.2.1]) (fun _ _ => rfl)
      · have w31 : spn A.2.2.1 = 120 := (qeq (rfl : nI (spn A.2.2.1) = _) (show (120 : Int32) = nI 120 from rfl) (by omega) (by decide)).mp c_31
        refine g_bipush C bp_m3 dX7_put_34 (n := 36) rfl ?_
        refine r_I C dX7_put_36 ?_
        rw [show opPut A x c0 = (-3, A) by unfold opPut; rw [if_neg hno, if_pos w31]]
        exact ⟨rfl, hA, fun _ _ => rfl⟩
    · have hbad : x < 0 ∨ nI (spn A.2.2.1) < x ∨ isSg c0 = false := Or.inr (Or.inr (bI_0.mp c_23))
      refine g_iconst C ic_m1 dX7_put_26 (n := 27) rfl ?_
      refine r_I C dX7_put_27 ?_
      rw [show opPut A x c0 = (-1, A) from if_pos hbad]
      exact ⟨rfl, hA, fun _ _ => rfl⟩
set_option maxHeartbeats 4000000 in
set_option maxRecDepth 100000 in
theorem ct_X7_alter {l : Launch} {D : va_G} {cI cO : ClassId} {z tP : Nat} {aK aV : Nat → Nat} (M : Mem) (A : Abs) (x c0 : Int32) (hA : absR M A) (hw : wfA A) : Cm l D cI cO z tP aK aV yX7_alter cX7_alter 3 (some .int) 2 46 [.ref (z + 80), .int x, .int c0] SH M (pI (fun r M1 => r = (opAlter A x c0).1 ∧ absR M1 (opAlter A x c0).2 ∧ fr79 M M1)) := by
  refine cm_intro (lv0 := [some (.ref (z + 80)), some (.int x), some (.int c0)]) (by decide) rfl (Nat.le_of_ble_eq_true rfl) rfl (fun p e s m below meth c C => ?_)
  have hwS := hw.2.1
  have hn120 := hwS.1
  have hsp := hA.2.2.1
  have hl6 := hw.2.2.1
  have htl := hw.1
  refine g_aload0 C dX7_alter_0 (n := 1) rfl ?_
  refine g_iload1 C dX7_alter_1 (n := 2) rfl ?_
  refine kc_X7_99 C (ct_X7_isPlace M A x hA hw) sh_80 ⟨Nat.le_of_ble_eq_true rfl, Nat.le_of_ble_eq_true rfl⟩ ⟨Nat.zero_le _, Nat.zero_le _⟩ (Nat.le_of_ble_eq_true rfl) dX7_alter_2 (n := 5) rfl (fun r_2 M_2 h_2 => ?_)
  rw [h_2.1, h_2.2]
  refine g_if_eq C dX7_alter_5 (t := 24) (by decide) (n := 8) rfl (fun c_5 => ?_) (fun c_5 => ?_)
  · have hbad : x < 0 ∨ ¬ x < nI (spn A.2.2.1) ∨ isSg c0 = false := (blw.mp c_5).elim Or.inl (fun q => Or.inr (Or.inl q))
    have hfin : (-1 : Int32) = (opAlter A x c0).1 ∧ absR M (opAlter A x c0).2 ∧ fr79 M M := by
      rw [show opAlter A x c0 = (-1, A) from if_pos hbad]
      exact ⟨rfl, hA, fun _ _ => rfl⟩
    refine g_iconst C ic_m1 dX7_alter_24 (n := 25) rfl ?_
    refine r_I C dX7_alter_25 ?_
    exact hfin
  · have hb := blw'.mp c_5
    obtain ⟨i0, hi3, hi⟩ := ix_of hb.1 hb.2 (by omega)
    refine g_iload2 C dX7_alter_8 (n := 9) rfl ?_
    refine kc_X7_73 C (ct_X7_isSign SH M c0) ⟨Nat.le_of_ble_eq_true rfl, Nat.le_of_ble_eq_true rfl⟩ ⟨Nat.zero_le _, Nat.zero_le _⟩ (Nat.le_of_ble_eq_true rfl) dX7_alter_9 (n := 12) rfl (fun r_9 M_9 h_9 => ?_)
    rw [h_9.1, h_9.2]
    refine g_if_eq C dX7_alter_12 (t := 24) (by decide) (n := 15) rfl (fun c_12 => ?_) (fun c_12 => ?_)
    · have hbad : x < 0 ∨ ¬ x < nI (spn A.2.2.1) ∨ isSg c0 = false := Or.inr (Or.inr (bI_0.mp c_12))
      have hfin : (-1 : Int32) = (opAlter A x c0).1 ∧ absR M (opAlter A x c0).2 ∧ fr79 M M := by
        rw [show opAlter A x c0 = (-1, A) from if_pos hbad]
        exact ⟨rfl, hA, fun _ _ => rfl⟩
      refine g_iconst C ic_m1 dX7_alter_24 (n := 25) rfl ?_
      refine r_I C dX7_alter_25 ?_
      exact hfin
    · have hsg := bI_n.mp c_12
      have hno : ¬ (x < 0 ∨ ¬ x < nI (spn A.2.2.1) ∨ isSg c0 = false) := by
        rintro (h | h | h)
        · exact hb.1 h
        · exact h hb.2
        · rw [hsg] at h; cases h
      refine g_aload0 C dX7_alter_15 (n := 16) rfl ?_
      refine g_iload1 C dX7_alter_16 (n := 17) rfl ?_
      refine g_iload2 C dX7_alter_17 (n := 18) rfl ?_
      refine kc_X7_92 C (ct_X7_tells M A i0 _ _ hi (by omega) hA hw) sh_80 ⟨Nat.le_of_ble_eq_true rfl, Nat.le_of_ble_eq_true rfl⟩ ⟨Nat.zero_le _, Nat.zero_le _⟩ (Nat.le_of_ble_eq_true rfl) dX7_alter_18 (n := 21) rfl (fun r_18 M_18 h_18 => ?_)
      have htn : tn x = i0 := by rw [hi, tn_nI (by omega)]
      have h7 : M 82 i0 = spg A.2.2.1 (tn x) := by rw [htn]; exact hsp.2.1 i0 hi3
      have hfin : r_18 = (opAlter A x c0).1 ∧ absR M_18 (opAlter A x c0).2 ∧ fr79 M M_18 := by
        rcases h_18 with ⟨h1, h2, h3⟩ | ⟨h1, h2, M2, hn, h3⟩
        · rw [show opAlter A x c0 = (-2, A) by unfold opAlter; rw [if_neg hno, if_pos (h1.symm.trans h7)], h3]
          exact ⟨h2, hA, fun _ _ => rfl⟩
        · rw [show opAlter A x c0 = (spg A.2.2.1 (tn x), chg A (sAlt A.2.2.1 (tn x) c0)) by unfold opAlter; rw [if_neg hno, if_neg (fun h => h1 (h7.trans h.symm))]]
          refine ⟨h2.trans h7, absR_sp hn.1 (fun a ha => by rw [h3, up2_ne _ _ ha]) ?_, fun a ha => by rw [h3, up2_ne _ _ (by omega)]; exact hn.2.2 a ha⟩
          rw [h3, up2_row, hn.2.1, htn]
          exact spR_alt hn120 hi3 hsp
      refine g_goto C dX7_alter_21 (t := 25) (by decide) ?_
      refine r_I C dX7_alter_25 ?_
      exact hfin
set_option maxHeartbeats 4000000 in
set_option maxRecDepth 100000 in
theorem ct_X7_sign {l : Launch} {D : va_G} {cI cO : ClassId} {z tP : Nat} {aK aV : Nat → Nat} (M : Mem) (A : Abs) (x : Int32) (hA : absR M A) (hw : wfA A) : Cm l D cI cO z tP aK aV yX7_sign cX7_sign 2 (some .int) 2 46 [.ref (z + 80), .int x] SH M (pI (fun r M1 => r = opSign A x ∧ M1 = M)) := by
  refine cm_intro (lv0 := [some (.ref (z + 80)), some (.int x)]) (by decide) rfl (Nat.le_of_ble_eq_true rfl) rfl (fun p e s m below meth c C => ?_)
  have hwS := hw.2.1
  have hn120 := hwS.1
  have hsp := hA.2.2.1
  have hl6 := hw.2.2.1
  have htl := hw.1
  refine g_aload0 C dX7_sign_0 (n := 1) rfl ?_
  refine g_iload1 C dX7_sign_1 (n := 2) rfl ?_
  refine kc_X7_99 C (ct_X7_isPlace M A x hA hw) sh_80 ⟨Nat.le_of_ble_eq_true rfl, Nat.le_of_ble_eq_true rfl⟩ ⟨Nat.zero_le _, Nat.zero_le _⟩ (Nat.le_of_ble_eq_true rfl) dX7_sign_2 (n := 5) rfl (fun r_2 M_2 h_2 => ?_)
  rw [h_2.1, h_2.2]
  refine g_if_eq C dX7_sign_5 (t := 17) (by decide) (n := 8) rfl (fun c_5 => ?_) (fun c_5 => ?_)
  · have hb := blw.mp c_5
    have hv : (-1 : Int32) = opSign A x := (if_pos hb).symm
    refine g_iconst C ic_m1 dX7_sign_17 (n := 18) rfl ?_
    refine r_I C dX7_sign_18 ?_
    exact ⟨hv, rfl⟩
  · have hb := blw'.mp c_5
    have hno : ¬ (x < 0 ∨ ¬ x < nI (spn A.2.2.1)) := fun h => h.elim hb.1 (fun q => q hb.2)
    obtain ⟨i0, hi3, hi⟩ := ix_of hb.1 hb.2 (by omega)
    refine g_aload0 C dX7_sign_8 (n := 9) rfl ?_
    refine kg_X7_13 C sh_80 rfl dX7_sign_9 (n := 12) rfl ?_
    refine g_iload1 C dX7_sign_12 (n := 13) rfl ?_
    refine g_iald C (j := i0) sh_82 (by decide) (hi) (by omega) dX7_sign_13 (n := 14) rfl ?_
    have hv : M 82 i0 = opSign A x := by unfold opSign; rw [if_neg hno, hi, tn_nI (by omega)]; exact hsp.2.1 i0 hi3
    refine g_goto C dX7_sign_14 (t := 18) (by decide) ?_
    refine r_I C dX7_sign_18 ?_
    exact ⟨hv, rfl⟩
