/-! the reference: helpers -/
theorem wide_lt (a b : Int32) : a.toInt64 < b.toInt64 ↔ a < b := by
  rw [Int64.lt_iff_toInt_lt, Int32.lt_iff_toInt_lt, Int32.toInt_toInt64, Int32.toInt_toInt64]
theorem e_rem2 {x : Int32} {d : Nat} (hx : x = nI d) (hd : d < 2 ^ 31) : x - x / 2 * 2 = nI (d % 2) := by
  rw [hx]; exact pk_rem hd (by decide) (by decide)
theorem nar_0 : narrow .boolean (.int 0) = .int 0 := rfl
theorem nar_1 : narrow .boolean (.int 1) = .int 1 := rfl
theorem kl_X7_46 : Cond.constantLong RX7 46 (Int32.toInt64 97) ∈ gtbl := gmem (i := 844) (by decide +kernel) (by decide +kernel)
theorem kl_X7_48 : Cond.constantLong RX7 48 (Int32.toInt64 122) ∈ gtbl := gmem (i := 845) (by decide +kernel) (by decide +kernel)
theorem kl_X7_65 : Cond.constantLong RX7 65 (Int32.toInt64 32) ∈ gtbl := gmem (i := 828) (by decide +kernel) (by decide +kernel)
theorem kl_X7_67 : Cond.constantLong RX7 67 (Int32.toInt64 126) ∈ gtbl := gmem (i := 829) (by decide +kernel) (by decide +kernel)
theorem kl_X7_95 : Cond.constantLong RX7 95 (Int32.toInt64 2) ∈ gtbl := gmem (i := 881) (by decide +kernel) (by decide +kernel)
theorem kl_X7_97 : Cond.constantLong RX7 97 (Int32.toInt64 9) ∈ gtbl := gmem (i := 886) (by decide +kernel) (by decide +kernel)
theorem kl_X7_129 : Cond.constantLong RX7 129 (Int32.toInt64 6) ∈ gtbl := gmem (i := 954) (by decide +kernel) (by decide +kernel)
theorem kl_X7_161 : Cond.constantLong RX7 161 (Int32.toInt64 3) ∈ gtbl := gmem (i := 1014) (by decide +kernel) (by decide +kernel)
set_option maxHeartbeats 4000000 in
set_option maxRecDepth 100000 in
theorem ct_X7_in {l : Launch} {D : va_G} {cI cO : ClassId} {z tP : Nat} {aK aV : Nat → Nat} (sh : Shp) (M : Mem) (x y w : Int32) : Cm l D cI cO z tP aK aV yX7_in cX7_in 6 (some .boolean) 0 0 [.long x.toInt64, .long y.toInt64, .long w.toInt64] sh M (pI (fun r M1 => r = bI (!decide (x < y) && !decide (w < x)) ∧ M1 = M)) := by
  refine Met.ofW (cc := cX7_in) (maxL := 6) (ret := some .boolean) (by decide) rfl ?_
  intro p e s m args below meth c s₁ B hml hv
  obtain ⟨rfl, hI, hP, hz, hsz⟩ := hv
  have hx := B.exec
  have hb := B.bytes
  have hr := B.returns
  have hlocks := B.notSynchronized
  have hl := lv_entry ([.long x.toInt64, .long y.toInt64, .long w.toInt64]) (n := 6) (Nat.le_of_ble_eq_true rfl)
  rw [lg_entry_eq]
  generalize (lg_sl ([.long x.toInt64, .long y.toInt64, .long w.toInt64]) ++ List.replicate (6 - (lg_sl ([.long x.toInt64, .long y.toInt64, .long w.toInt64])).length) Slot.unset).toArray = ls at hl ⊢
  have hl : lv_has ls 6 [(0, .long x.toInt64), (2, .long y.toInt64), (4, .long w.toInt64)] := hl
  have fin0 : (x < y ∨ w < x) → W p l e ({ frames := 0, cells := 0, slots := 0, locals := 0 }) s m ([.long x.toInt64, .long y.toInt64, .long w.toInt64] : List Value).toArray below meth c s.heap [] 0 0 (MQ below (QP D cI cO z (fun v sh1 M1 => sh1 = sh ∧ pI (fun r M1 => r = bI (!decide (x < y) && !decide (w < x)) ∧ M1 = M) v M1)) ([.long x.toInt64, .long y.toInt64, .long w.toInt64] : List Value).toArray s 0 0 (AA z)) (F0 m 17 ls []) := by
    intro h
    refine lv_iconst (v := 0) hx hb dX7_in_17 (by decide) ?_
    refine W.zret hx hb hr nar_0 (fun t ht hW => ⟨_, sh, M, rfl, ⟨rfl, 0, rfl, ?_, rfl⟩, by rw [ht]; exact hP, va_S.rf.F ht⟩) (fun q hq => by cases hq) dX7_in_18
    rcases h with h | h <;> simp [bI, h]
  refine lv_lload_n hx hb dX7_in_0 rfl (lv_at hl 0 rfl) ?_
  refine lv_lload_n hx hb dX7_in_1 rfl (lv_at hl 1 rfl) ?_
  refine W.lcmp hx hb dX7_in_2 ?_
  refine lv_if_lt (tgt := 17) hx hb dX7_in_3 (by decide) (fun c1 => ?_) (fun c1 => ?_)
  · exact fin0 (Or.inl ((wide_lt _ _).mp ((lg_cmp_lt _ _).mp c1)))
  · refine lv_lload_n hx hb dX7_in_6 rfl (lv_at hl 0 rfl) ?_
    refine lv_lload hx hb dX7_in_7 (lv_at hl 2 rfl) ?_
    refine W.lcmp hx hb dX7_in_9 ?_
    refine lv_if_gt (tgt := 17) hx hb dX7_in_10 (by decide) (fun c2 => ?_) (fun c2 => ?_)
    · exact fin0 (Or.inr ((wide_lt _ _).mp ((lg_cmp_gt _ _).mp c2)))
    · have h1 : ¬ x < y := fun h => c1 ((lg_cmp_lt _ _).mpr ((wide_lt _ _).mpr h))
      have h2 : ¬ w < x := fun h => c2 ((lg_cmp_gt _ _).mpr ((wide_lt _ _).mpr h))
      refine lv_iconst (v := 1) hx hb dX7_in_13 (by decide) ?_
      refine lv_goto (tgt := 18) hx hb dX7_in_14 (by decide) ?_
      refine W.zret hx hb hr nar_1 (fun t ht hW => ⟨_, sh, M, rfl, ⟨rfl, 1, rfl, ?_, rfl⟩, by rw [ht]; exact hP, va_S.rf.F ht⟩) (fun q hq => by cases hq) dX7_in_18
      simp [bI, h1, h2]
theorem bp_34 : (Int8.ofInt 34).toInt32 = 34 := by decide
theorem bp_39 : (Int8.ofInt 39).toInt32 = 39 := by decide
theorem bp_40 : (Int8.ofInt 40).toInt32 = 40 := by decide
theorem bp_41 : (Int8.ofInt 41).toInt32 = 41 := by decide
theorem bp_60 : (Int8.ofInt 60).toInt32 = 60 := by decide
theorem bp_62 : (Int8.ofInt 62).toInt32 = 62 := by decide
theorem bp_91 : (Int8.ofInt 91).toInt32 = 91 := by decide
theorem bp_93 : (Int8.ofInt 93).toInt32 = 93 := by decide
theorem bp_123 : (Int8.ofInt 123).toInt32 = 123 := by decide
theorem bp_125 : (Int8.ofInt 125).toInt32 = 125 := by decide
set_option maxHeartbeats 4000000 in
set_option maxRecDepth 100000 in
theorem ct_X7_isMark {l : Launch} {D : va_G} {cI cO : ClassId} {z tP : Nat} {aK aV : Nat → Nat} (sh : Shp) (M : Mem) (c0 : Int32) : Cm l D cI cO z tP aK aV yX7_isMark cX7_isMark 1 (some .boolean) 0 0 [.int c0] sh M (pI (fun r M1 => r = bI (isMk c0) ∧ M1 = M)) := by
  refine cm_intro (lv0 := [some (.int c0)]) (by decide) rfl (Nat.le_of_ble_eq_true rfl) rfl (fun p e s m below meth c C => ?_)
  refine g_iload0 C dX7_isMark_0 (n := 1) rfl ?_
  refine g_bipush C bp_60 dX7_isMark_1 (n := 3) rfl ?_
  refine g_icmp_eq C dX7_isMark_3 (t := 60) (by decide) (n := 6) rfl (fun c_3 => ?_) (fun c_3 => ?_)
  · have _u := True.intro
    refine g_iconst C ic_1 dX7_isMark_60 (n := 61) rfl ?_
    refine g_goto C dX7_isMark_61 (t := 65) (by decide) ?_
    refine r_Z C dX7_isMark_65 rfl ?_
    exact ⟨by simp [bI, isMk, *], rfl⟩
  · have _u := True.intro
    refine g_iload0 C dX7_isMark_6 (n := 7) rfl ?_
    refine g_bipush C bp_62 dX7_isMark_7 (n := 9) rfl ?_
    refine g_icmp_eq C dX7_isMark_9 (t := 60) (by decide) (n := 12) rfl (fun c_9 => ?_) (fun c_9 => ?_)
    · have _u := True.intro
      refine g_iconst C ic_1 dX7_isMark_60 (n := 61) rfl ?_
      refine g_goto C dX7_isMark_61 (t := 65) (by decide) ?_
      refine r_Z C dX7_isMark_65 rfl ?_
      exact ⟨by simp [bI, isMk, *], rfl⟩
    · have _u := True.intro
      refine g_iload0 C dX7_isMark_12 (n := 13) rfl ?_
      refine g_bipush C bp_123 dX7_isMark_13 (n := 15) rfl ?_
      refine g_icmp_eq C dX7_isMark_15 (t := 60) (by decide) (n := 18) rfl (fun c_15 => ?_) (fun c_15 => ?_)
      · have _u := True.intro
        refine g_iconst C ic_1 dX7_isMark_60 (n := 61) rfl ?_
        refine g_goto C dX7_isMark_61 (t := 65) (by decide) ?_
        refine r_Z C dX7_isMark_65 rfl ?_
        exact ⟨by simp [bI, isMk, *], rfl⟩
      · have _u := True.intro
        refine g_iload0 C dX7_isMark_18 (n := 19) rfl ?_
        refine g_bipush C bp_125 dX7_isMark_19 (n := 21) rfl ?_
        refine g_icmp_eq C dX7_isMark_21 (t := 60) (by decide) (n := 24) rfl (fun c_21 => ?_) (fun c_21 => ?_)
        · have _u := True.intro
          refine g_iconst C ic_1 dX7_isMark_60 (n := 61) rfl ?_
          refine g_goto C dX7_isMark_61 (t := 65) (by decide) ?_
          refine r_Z C dX7_isMark_65 rfl ?_
          exact ⟨by simp [bI, isMk, *], rfl⟩
        · have _u := True.intro
          refine g_iload0 C dX7_isMark_24 (n := 25) rfl ?_
          refine g_bipush C bp_40 dX7_isMark_25 (n := 27) rfl ?_
          refine g_icmp_eq C dX7_isMark_27 (t := 60) (by decide) (n := 30) rfl (fun c_27 => ?_) (fun c_27 => ?_)
          · have _u := True.intro
            refine g_iconst C ic_1 dX7_isMark_60 (n := 61) rfl ?_
            refine g_goto C dX7_isMark_61 (t := 65) (by decide) ?_
            refine r_Z C dX7_isMark_65 rfl ?_
            exact ⟨by simp [bI, isMk, *], rfl⟩
          · have _u := True.intro
            refine g_iload0 C dX7_isMark_30 (n := 31) rfl ?_
            refine g_bipush C bp_41 dX7_isMark_31 (n := 33) rfl ?_
            refine g_icmp_eq C dX7_isMark_33 (t := 60) (by decide) (n := 36) rfl (fun c_33 => ?_) (fun c_33 => ?_)
            · have _u := True.intro
              refine g_iconst C ic_1 dX7_isMark_60 (n := 61) rfl ?_
              refine g_goto C dX7_isMark_61 (t := 65) (by decide) ?_
              refine r_Z C dX7_isMark_65 rfl ?_
              exact ⟨by simp [bI, isMk, *], rfl⟩
            · have _u := True.intro
              refine g_iload0 C dX7_isMark_36 (n := 37) rfl ?_
              refine g_bipush C bp_91 dX7_isMark_37 (n := 39) rfl ?_
              refine g_icmp_eq C dX7_isMark_39 (t := 60) (by decide) (n := 42) rfl (fun c_39 => ?_) (fun c_39 => ?_)
              · have _u := True.intro
                refine g_iconst C ic_1 dX7_isMark_60 (n := 61) rfl ?_
                refine g_goto C dX7_isMark_61 (t := 65) (by decide) ?_
                refine r_Z C dX7_isMark_65 rfl ?_
                exact ⟨by simp [bI, isMk, *], rfl⟩
              · have _u := True.intro
                refine g_iload0 C dX7_isMark_42 (n := 43) rfl ?_
                refine g_bipush C bp_93 dX7_isMark_43 (n := 45) rfl ?_
                refine g_icmp_eq C dX7_isMark_45 (t := 60) (by decide) (n := 48) rfl (fun c_45 => ?_) (fun c_45 => ?_)
                · have _u := True.intro
                  refine g_iconst C ic_1 dX7_isMark_60 (n := 61) rfl ?_
                  refine g_goto C dX7_isMark_61 (t := 65) (by decide) ?_
                  refine r_Z C dX7_isMark_65 rfl ?_
                  exact ⟨by simp [bI, isMk, *], rfl⟩
                · have _u := True.intro
                  refine g_iload0 C dX7_isMark_48 (n := 49) rfl ?_
                  refine g_bipush C bp_34 dX7_isMark_49 (n := 51) rfl ?_
                  refine g_icmp_eq C dX7_isMark_51 (t := 60) (by decide) (n := 54) rfl (fun c_51 => ?_) (fun c_51 => ?_)
                  · have _u := True.intro
                    refine g_iconst C ic_1 dX7_isMark_60 (n := 61) rfl ?_
                    refine g_goto C dX7_isMark_61 (t := 65) (by decide) ?_
                    refine r_Z C dX7_isMark_65 rfl ?_
                    exact ⟨by simp [bI, isMk, *], rfl⟩
                  · have _u := True.intro
                    refine g_iload0 C dX7_isMark_54 (n := 55) rfl ?_
                    refine g_bipush C bp_39 dX7_isMark_55 (n := 57) rfl ?_
                    refine g_icmp_ne C dX7_isMark_57 (t := 64) (by decide) (n := 60) rfl (fun c_57 => ?_) (fun c_57 => ?_)
                    · have _u := True.intro
                      refine g_iconst C ic_0 dX7_isMark_64 (n := 65) rfl ?_
                      refine r_Z C dX7_isMark_65 rfl ?_
                      exact ⟨by simp [bI, isMk, *], rfl⟩
                    · have _u := True.intro
                      refine g_iconst C ic_1 dX7_isMark_60 (n := 61) rfl ?_
                      refine g_goto C dX7_isMark_61 (t := 65) (by decide) ?_
                      refine r_Z C dX7_isMark_65 rfl ?_
                      exact ⟨by simp [bI, isMk, *], rfl⟩
set_option maxHeartbeats 4000000 in
set_option maxRecDepth 100000 in
theorem ct_X7_isSign {l : Launch} {D : va_G} {cI cO : ClassId} {z tP : Nat} {aK aV : Nat → Nat} (sh : Shp) (M : Mem) (c0 : Int32) : Cm l D cI cO z tP aK aV yX7_isSign cX7_isSign 1 (some .boolean) 1 25 [.int c0] sh M (pI (fun r M1 => r = bI (isSg c0) ∧ M1 = M)) := by
  refine cm_intro (lv0 := [some (.int c0)]) (by decide) rfl (Nat.le_of_ble_eq_true rfl) rfl (fun p e s m below meth c C => ?_)
  refine g_iload0 C dX7_isSign_0 (n := 1) rfl ?_
  refine g_i2l C dX7_isSign_1 (n := 2) rfl ?_
  refine g_ldc2 C kl_X7_46 dX7_isSign_2 (n := 5) rfl ?_
  refine g_ldc2 C kl_X7_48 dX7_isSign_5 (n := 8) rfl ?_
  refine kc_X7_50 C (ct_X7_in sh M c0 97 122) ⟨Nat.le_of_ble_eq_true rfl, Nat.le_of_ble_eq_true rfl⟩ ⟨Nat.zero_le _, Nat.zero_le _⟩ (Nat.le_of_ble_eq_true rfl) dX7_isSign_8 (n := 11) rfl (fun r_8 M_8 h_8 => ?_)
  rw [h_8.1, h_8.2, show (!decide (c0 < 97) && !decide (122 < c0)) = isLt c0 from rfl]
  refine g_if_ne C dX7_isSign_11 (t := 33) (by decide) (n := 14) rfl (fun c_11 => ?_) (fun c_11 => ?_)
  · have q1 := bI_n.mp c_11
    refine g_iconst C ic_1 dX7_isSign_33 (n := 34) rfl ?_
    refine g_goto C dX7_isSign_34 (t := 38) (by decide) ?_
    refine r_Z C dX7_isSign_38 rfl ?_
    exact ⟨by simp [bI, isSg, *], rfl⟩
  · have q1 := bI_0.mp c_11
    refine g_iload0 C dX7_isSign_14 (n := 15) rfl ?_
    refine g_bipush C bp_32 dX7_isSign_15 (n := 17) rfl ?_
    refine g_icmp_eq C dX7_isSign_17 (t := 33) (by decide) (n := 20) rfl (fun c_17 => ?_) (fun c_17 => ?_)
    · have _u := True.intro
      refine g_iconst C ic_1 dX7_isSign_33 (n := 34) rfl ?_
      refine g_goto C dX7_isSign_34 (t := 38) (by decide) ?_
      refine r_Z C dX7_isSign_38 rfl ?_
      exact ⟨by simp [bI, isSg, *], rfl⟩
    · have _u := True.intro
      refine g_iload0 C dX7_isSign_20 (n := 21) rfl ?_
      refine g_bipush C bp_124 dX7_isSign_21 (n := 23) rfl ?_
      refine g_icmp_eq C dX7_isSign_23 (t := 33) (by decide) (n := 26) rfl (fun c_23 => ?_) (fun c_23 => ?_)
      · have _u := True.intro
        refine g_iconst C ic_1 dX7_isSign_33 (n := 34) rfl ?_
        refine g_goto C dX7_isSign_34 (t := 38) (by decide) ?_
        refine r_Z C dX7_isSign_38 rfl ?_
        exact ⟨by simp [bI, isSg, *], rfl⟩
      · have _u := True.intro
        refine g_iload0 C dX7_isSign_26 (n := 27) rfl ?_
        refine kc_X7_54 C (ct_X7_isMark sh M c0) ⟨Nat.le_of_ble_eq_true rfl, Nat.le_of_ble_eq_true rfl⟩ ⟨Nat.zero_le _, Nat.zero_le _⟩ (Nat.le_of_ble_eq_true rfl) dX7_isSign_27 (n := 30) rfl (fun r_27 M_27 h_27 => ?_)
        rw [h_27.1, h_27.2]
        refine g_if_eq C dX7_isSign_30 (t := 37) (by decide) (n := 33) rfl (fun c_30 => ?_) (fun c_30 => ?_)
        · have q4 := bI_0.mp c_30
          refine g_iconst C ic_0 dX7_isSign_37 (n := 38) rfl ?_
          refine r_Z C dX7_isSign_38 rfl ?_
          exact ⟨by simp [bI, isSg, *], rfl⟩
        · have q4 := bI_n.mp c_30
          refine g_iconst C ic_1 dX7_isSign_33 (n := 34) rfl ?_
          refine g_goto C dX7_isSign_34 (t := 38) (by decide) ?_
          refine r_Z C dX7_isSign_38 rfl ?_
          exact ⟨by simp [bI, isSg, *], rfl⟩
set_option maxHeartbeats 4000000 in
set_option maxRecDepth 100000 in
theorem ct_X7_markOf {l : Launch} {D : va_G} {cI cO : ClassId} {z tP : Nat} {aK aV : Nat → Nat} (sh : Shp) (M : Mem) (t w : Nat) (x y : Int32) (hx : x = nI t) (hy : y = nI w) (ht : t < 4) (hw4 : w < 4) : Cm l D cI cO z tP aK aV yX7_markOf cX7_markOf 2 (some .int) 0 0 [.int x, .int y] sh M (pI (fun r M1 => r = pq t w ∧ M1 = M)) := by
  refine cm_intro (lv0 := [some (.int x), some (.int y)]) (by decide) rfl (Nat.le_of_ble_eq_true rfl) rfl (fun p e s m below meth c C => ?_)
  refine g_iload0 C dX7_markOf_0 (n := 1) rfl ?_
  by_cases c_1_0 : x = 0
  · refine g_tblIn C dX7_markOf_1 (by rw [c_1_0]; decide) (by rw [c_1_0]; decide) (off := 27) (by rw [c_1_0]; rfl) (t := 28) (by decide) ?_
    have ht0 : t = 0 := (qeq hx nI_0.symm (by omega) (by decide)).mp c_1_0
    subst ht0
    refine g_iload1 C dX7_markOf_28 (n := 29) rfl ?_
    refine g_if_ne C dX7_markOf_29 (t := 37) (by decide) (n := 32) rfl (fun c_29 => ?_) (fun c_29 => ?_)
    · have w29 : ¬ w = 0 := fun h => c_29 ((qeq hy nI_0.symm (by omega) (by decide)).mpr h)
      refine g_iload1 C dX7_markOf_37 (n := 38) rfl ?_
      refine g_iconst C ic_1 dX7_markOf_38 (n := 39) rfl ?_
      refine g_icmp_ne C dX7_markOf_39 (t := 47) (by decide) (n := 42) rfl (fun c_39 => ?_) (fun c_39 => ?_)
      · have w39 : ¬ w = 1 := fun h => c_39 ((qeq hy (show (1 : Int32) = nI 1 from rfl) (by omega) (by decide)).mpr h)
        refine g_iload1 C dX7_markOf_47 (n := 48) rfl ?_
        refine g_iconst C ic_2 dX7_markOf_48 (n := 49) rfl ?_
        refine g_icmp_ne C dX7_markOf_49 (t := 57) (by decide) (n := 52) rfl (fun c_49 => ?_) (fun c_49 => ?_)
        · have w49 : ¬ w = 2 := fun h => c_49 ((qeq hy (show (2 : Int32) = nI 2 from rfl) (by omega) (by decide)).mpr h)
          refine g_bipush C bp_125 dX7_markOf_57 (n := 59) rfl ?_
          refine r_I C dX7_markOf_59 ?_
          rcases (show w = 0 ∨ w = 1 ∨ w = 2 ∨ w = 3 by omega) with rfl | rfl | rfl | rfl <;> first | exact ⟨rfl, rfl⟩ | (exfalso; omega)
        · have w49 : w = 2 := (qeq hy (show (2 : Int32) = nI 2 from rfl) (by omega) (by decide)).mp c_49
          refine g_bipush C bp_123 dX7_markOf_52 (n := 54) rfl ?_
          refine g_goto C dX7_markOf_54 (t := 59) (by decide) ?_
          refine r_I C dX7_markOf_59 ?_
          rcases (show w = 0 ∨ w = 1 ∨ w = 2 ∨ w = 3 by omega) with rfl | rfl | rfl | rfl <;> first | exact ⟨rfl, rfl⟩ | (exfalso; omega)
      · have w39 : w = 1 := (qeq hy (show (1 : Int32) = nI 1 from rfl) (by omega) (by decide)).mp c_39
        refine g_bipush C bp_62 dX7_markOf_42 (n := 44) rfl ?_
        refine g_goto C dX7_markOf_44 (t := 59) (by decide) ?_
        refine r_I C dX7_markOf_59 ?_
        rcases (show w = 0 ∨ w = 1 ∨ w = 2 ∨ w = 3 by omega) with rfl | rfl | rfl | rfl <;> first | exact ⟨rfl, rfl⟩ | (exfalso; omega)
    · have w29 : w = 0 := (qeq hy nI_0.symm (by omega) (by decide)).mp c_29
      refine g_bipush C bp_60 dX7_markOf_32 (n := 34) rfl ?_
      refine g_goto C dX7_markOf_34 (t := 59) (by decide) ?_
      refine r_I C dX7_markOf_59 ?_
      rcases (show w = 0 ∨ w = 1 ∨ w = 2 ∨ w = 3 by omega) with rfl | rfl | rfl | rfl <;> first | exact ⟨rfl, rfl⟩ | (exfalso; omega)
  by_cases c_1_1 : x = 1
  · refine g_tblIn C dX7_markOf_1 (by rw [c_1_1]; decide) (by rw [c_1_1]; decide) (off := 59) (by rw [c_1_1]; rfl) (t := 60) (by decide) ?_
    have ht1 : t = 1 := (qeq hx (show (1 : Int32) = nI 1 from rfl) (by omega) (by decide)).mp c_1_1
    subst ht1
    refine g_iload1 C dX7_markOf_60 (n := 61) rfl ?_
    refine g_iconst C ic_2 dX7_markOf_61 (n := 62) rfl ?_
    refine g_icmp_ge C dX7_markOf_62 (t := 70) (by decide) (n := 65) rfl (fun c_62 => ?_) (fun c_62 => ?_)
    · have w62 : ¬ w < 2 := fun h => c_62 ((qlt hy (show (2 : Int32) = nI 2 from rfl) (by omega) (by decide)).mpr h)
      refine g_bipush C bp_39 dX7_markOf_70 (n := 72) rfl ?_
      refine r_I C dX7_markOf_72 ?_
      rcases (show w = 0 ∨ w = 1 ∨ w = 2 ∨ w = 3 by omega) with rfl | rfl | rfl | rfl <;> first | exact ⟨rfl, rfl⟩ | (exfalso; omega)
    · have w62 : w < 2 := (qlt hy (show (2 : Int32) = nI 2 from rfl) (by omega) (by decide)).mp c_62
      refine g_bipush C bp_34 dX7_markOf_65 (n := 67) rfl ?_
      refine g_goto C dX7_markOf_67 (t := 72) (by decide) ?_
      refine r_I C dX7_markOf_72 ?_
      rcases (show w = 0 ∨ w = 1 ∨ w = 2 ∨ w = 3 by omega) with rfl | rfl | rfl | rfl <;> first | exact ⟨rfl, rfl⟩ | (exfalso; omega)
  by_cases c_1_2 : x = 2
  · refine g_tblIn C dX7_markOf_1 (by rw [c_1_2]; decide) (by rw [c_1_2]; decide) (off := 72) (by rw [c_1_2]; rfl) (t := 73) (by decide) ?_
    have ht2 : t = 2 := (qeq hx (show (2 : Int32) = nI 2 from rfl) (by omega) (by decide)).mp c_1_2
    subst ht2
    refine g_iload1 C dX7_markOf_73 (n := 74) rfl ?_
    refine g_if_ne C dX7_markOf_74 (t := 82) (by decide) (n := 77) rfl (fun c_74 => ?_) (fun c_74 => ?_)
    · have w74 : ¬ w = 0 := fun h => c_74 ((qeq hy nI_0.symm (by omega) (by decide)).mpr h)
      refine g_iload1 C dX7_markOf_82 (n := 83) rfl ?_
      refine g_iconst C ic_1 dX7_markOf_83 (n := 84) rfl ?_
      refine g_icmp_ne C dX7_markOf_84 (t := 92) (by decide) (n := 87) rfl (fun c_84 => ?_) (fun c_84 => ?_)
      · have w84 : ¬ w = 1 := fun h => c_84 ((qeq hy (show (1 : Int32) = nI 1 from rfl) (by omega) (by decide)).mpr h)
        refine g_iload1 C dX7_markOf_92 (n := 93) rfl ?_
        refine g_iconst C ic_2 dX7_markOf_93 (n := 94) rfl ?_
        refine g_icmp_ne C dX7_markOf_94 (t := 102) (by decide) (n := 97) rfl (fun c_94 => ?_) (fun c_94 => ?_)
        · have w94 : ¬ w = 2 := fun h => c_94 ((qeq hy (show (2 : Int32) = nI 2 from rfl) (by omega) (by decide)).mpr h)
          refine g_bipush C bp_93 dX7_markOf_102 (n := 104) rfl ?_
          refine r_I C dX7_markOf_104 ?_
          rcases (show w = 0 ∨ w = 1 ∨ w = 2 ∨ w = 3 by omega) with rfl | rfl | rfl | rfl <;> first | exact ⟨rfl, rfl⟩ | (exfalso; omega)
        · have w94 : w = 2 := (qeq hy (show (2 : Int32) = nI 2 from rfl) (by omega) (by decide)).mp c_94
          refine g_bipush C bp_91 dX7_markOf_97 (n := 99) rfl ?_
          refine g_goto C dX7_markOf_99 (t := 104) (by decide) ?_
          refine r_I C dX7_markOf_104 ?_
          rcases (show w = 0 ∨ w = 1 ∨ w = 2 ∨ w = 3 by omega) with rfl | rfl | rfl | rfl <;> first | exact ⟨rfl, rfl⟩ | (exfalso; omega)
      · have w84 : w = 1 := (qeq hy (show (1 : Int32) = nI 1 from rfl) (by omega) (by decide)).mp c_84
        refine g_bipush C bp_41 dX7_markOf_87 (n := 89) rfl ?_
        refine g_goto C dX7_markOf_89 (t := 104) (by decide) ?_
        refine r_I C dX7_markOf_104 ?_
        rcases (show w = 0 ∨ w = 1 ∨ w = 2 ∨ w = 3 by omega) with rfl | rfl | rfl | rfl <;> first | exact ⟨rfl, rfl⟩ | (exfalso; omega)
    · have w74 : w = 0 := (qeq hy nI_0.symm (by omega) (by decide)).mp c_74
      refine g_bipush C bp_40 dX7_markOf_77 (n := 79) rfl ?_
      refine g_goto C dX7_markOf_79 (t := 104) (by decide) ?_
      refine r_I C dX7_markOf_104 ?_
      rcases (show w = 0 ∨ w = 1 ∨ w = 2 ∨ w = 3 by omega) with rfl | rfl | rfl | rfl <;> first | exact ⟨rfl, rfl⟩ | (exfalso; omega)
  refine g_tblOut C dX7_markOf_1 (sw_out_0_2 c_1_0 c_1_1 c_1_2) (t := 105) (by decide) ?_
  have e0 : ¬ t = 0 := fun h => c_1_0 ((qeq hx nI_0.symm (by omega) (by decide)).mpr h)
  have e1 : ¬ t = 1 := fun h => c_1_1 ((qeq hx (show (1 : Int32) = nI 1 from rfl) (by omega) (by decide)).mpr h)
  have e2 : ¬ t = 2 := fun h => c_1_2 ((qeq hx (show (2 : Int32) = nI 2 from rfl) (by omega) (by decide)).mpr h)
  have ht3 : t = 3 := by omega
  subst ht3
  refine g_iload1 C dX7_markOf_105 (n := 106) rfl ?_
  refine g_iconst C ic_2 dX7_markOf_106 (n := 107) rfl ?_
  refine g_icmp_ge C dX7_markOf_107 (t := 115) (by decide) (n := 110) rfl (fun c_107 => ?_) (fun c_107 => ?_)
  · have w107 : ¬ w < 2 := fun h => c_107 ((qlt hy (show (2 : Int32) = nI 2 from rfl) (by omega) (by decide)).mpr h)
    refine g_bipush C bp_34 dX7_markOf_115 (n := 117) rfl ?_
    refine r_I C dX7_markOf_117 ?_
    rcases (show w = 0 ∨ w = 1 ∨ w = 2 ∨ w = 3 by omega) with rfl | rfl | rfl | rfl <;> first | exact ⟨rfl, rfl⟩ | (exfalso; omega)
  · have w107 : w < 2 := (qlt hy (show (2 : Int32) = nI 2 from rfl) (by omega) (by decide)).mp c_107
    refine g_bipush C bp_39 dX7_markOf_110 (n := 112) rfl ?_
    refine g_goto C dX7_markOf_112 (t := 117) (by decide) ?_
    refine r_I C dX7_markOf_117 ?_
    rcases (show w = 0 ∨ w = 1 ∨ w = 2 ∨ w = 3 by omega) with rfl | rfl | rfl | rfl <;> first | exact ⟨rfl, rfl⟩ | (exfalso; omega)
set_option maxHeartbeats 4000000 in
set_option maxRecDepth 100000 in
theorem ct_X7_opener {l : Launch} {D : va_G} {cI cO : ClassId} {z tP : Nat} {aK aV : Nat → Nat} (sh : Shp) (M : Mem) (t d : Nat) (x y : Int32) (hx : x = nI t) (hy : y = nI d) (ht : t < 4) (hd : d < 2 ^ 31) : Cm l D cI cO z tP aK aV yX7_opener cX7_opener 2 (some .int) 1 21 [.int x, .int y] sh M (pI (fun r M1 => r = opn t d ∧ M1 = M)) := by
  refine cm_intro (lv0 := [some (.int x), some (.int y)]) (by decide) rfl (Nat.le_of_ble_eq_true rfl) rfl (fun p e s m below meth c C => ?_)
  refine g_iload0 C dX7_opener_0 (n := 1) rfl ?_
  refine g_iload1 C dX7_opener_1 (n := 2) rfl ?_
  refine g_iconst C ic_2 dX7_opener_2 (n := 3) rfl ?_
  refine g_irem C (by decide) dX7_opener_3 (n := 4) rfl ?_
  refine g_if_ne C dX7_opener_4 (t := 11) (by decide) (n := 7) rfl (fun c_4 => ?_) (fun c_4 => ?_)
  · have w4 : ¬ d % 2 = 0 := fun h => c_4 ((qeq (e_rem2 hy hd) nI_0.symm (by omega) (by decide)).mpr h)
    have hq : (2 : Int32) = nI (d % 2 * 2) := by rw [show d % 2 = 1 by omega]; rfl
    refine g_iconst C ic_2 dX7_opener_11 (n := 12) rfl ?_
    refine kc_X7_58 C (ct_X7_markOf sh M t (d % 2 * 2) _ _ hx hq ht (by omega)) ⟨Nat.le_of_ble_eq_true rfl, Nat.le_of_ble_eq_true rfl⟩ ⟨Nat.zero_le _, Nat.zero_le _⟩ (Nat.le_of_ble_eq_true rfl) dX7_opener_12 (n := 15) rfl (fun r_12 M_12 h_12 => ?_)
    rw [h_12.1, h_12.2]
    refine r_I C dX7_opener_15 ?_
    exact ⟨rfl, rfl⟩
  · have w4 : d % 2 = 0 := (qeq (e_rem2 hy hd) nI_0.symm (by omega) (by decide)).mp c_4
    have hq : (0 : Int32) = nI (d % 2 * 2) := by rw [w4]; rfl
    refine g_iconst C ic_0 dX7_opener_7 (n := 8) rfl ?_
    refine g_goto C dX7_opener_8 (t := 12) (by decide) ?_
    refine kc_X7_58 C (ct_X7_markOf sh M t (d % 2 * 2) _ _ hx hq ht (by omega)) ⟨Nat.le_of_ble_eq_true rfl, Nat.le_of_ble_eq_true rfl⟩ ⟨Nat.zero_le _, Nat.zero_le _⟩ (Nat.le_of_ble_eq_true rfl) dX7_opener_12 (n := 15) rfl (fun r_12 M_12 h_12 => ?_)
    rw [h_12.1, h_12.2]
    refine r_I C dX7_opener_15 ?_
    exact ⟨rfl, rfl⟩
set_option maxHeartbeats 4000000 in
set_option maxRecDepth 100000 in
theorem ct_X7_closer {l : Launch} {D : va_G} {cI cO : ClassId} {z tP : Nat} {aK aV : Nat → Nat} (sh : Shp) (M : Mem) (t d : Nat) (x y : Int32) (hx : x = nI t) (hy : y = nI d) (ht : t < 4) (hd : d < 2 ^ 31) : Cm l D cI cO z tP aK aV yX7_closer cX7_closer 2 (some .int) 1 21 [.int x, .int y] sh M (pI (fun r M1 => r = cls t d ∧ M1 = M)) := by
  refine cm_intro (lv0 := [some (.int x), some (.int y)]) (by decide) rfl (Nat.le_of_ble_eq_true rfl) rfl (fun p e s m below meth c C => ?_)
  refine g_iload0 C dX7_closer_0 (n := 1) rfl ?_
  refine g_iload1 C dX7_closer_1 (n := 2) rfl ?_
  refine g_iconst C ic_2 dX7_closer_2 (n := 3) rfl ?_
  refine g_irem C (by decide) dX7_closer_3 (n := 4) rfl ?_
  refine g_iconst C ic_1 dX7_closer_4 (n := 5) rfl ?_
  refine g_icmp_ne C dX7_closer_5 (t := 12) (by decide) (n := 8) rfl (fun c_5 => ?_) (fun c_5 => ?_)
  · have w5 : ¬ d % 2 = 1 := fun h => c_5 ((qeq (e_rem2 hy hd) (show (1 : Int32) = nI 1 from rfl) (by omega) (by decide)).mpr h)
    have hq : (3 : Int32) = nI ((d + 1) % 2 * 2 + 1) := by rw [show (d + 1) % 2 = 1 by omega]; rfl
    refine g_iconst C ic_3 dX7_closer_12 (n := 13) rfl ?_
    refine kc_X7_58 C (ct_X7_markOf sh M t ((d + 1) % 2 * 2 + 1) _ _ hx hq ht (by omega)) ⟨Nat.le_of_ble_eq_true rfl, Nat.le_of_ble_eq_true rfl⟩ ⟨Nat.zero_le _, Nat.zero_le _⟩ (Nat.le_of_ble_eq_true rfl) dX7_closer_13 (n := 16) rfl (fun r_13 M_13 h_13 => ?_)
    rw [h_13.1, h_13.2]
    refine r_I C dX7_closer_16 ?_
    exact ⟨rfl, rfl⟩
  · have w5 : d % 2 = 1 := (qeq (e_rem2 hy hd) (show (1 : Int32) = nI 1 from rfl) (by omega) (by decide)).mp c_5
    have hq : (1 : Int32) = nI ((d + 1) % 2 * 2 + 1) := by rw [show (d + 1) % 2 = 0 by omega]; rfl
    refine g_iconst C ic_1 dX7_closer_8 (n := 9) rfl ?_
    refine g_goto C dX7_closer_9 (t := 13) (by decide) ?_
    refine kc_X7_58 C (ct_X7_markOf sh M t ((d + 1) % 2 * 2 + 1) _ _ hx hq ht (by omega)) ⟨Nat.le_of_ble_eq_true rfl, Nat.le_of_ble_eq_true rfl⟩ ⟨Nat.zero_le _, Nat.zero_le _⟩ (Nat.le_of_ble_eq_true rfl) dX7_closer_13 (n := 16) rfl (fun r_13 M_13 h_13 => ?_)
    rw [h_13.1, h_13.2]
    refine r_I C dX7_closer_16 ?_
    exact ⟨rfl, rfl⟩
set_option maxHeartbeats 4000000 in
set_option maxRecDepth 100000 in
theorem ct_X7_dueMany {l : Launch} {D : va_G} {cI cO : ClassId} {z tP : Nat} {aK aV : Nat → Nat} (sh : Shp) (M : Mem) (ru d : Nat) (x y : Int32) (hx : x = nI ru) (hy : y = nI d) (hr : ru < 3) (hd : d < 2 ^ 31) : Cm l D cI cO z tP aK aV yX7_dueMany cX7_dueMany 2 (some .int) 0 0 [.int x, .int y] sh M (pI (fun r M1 => r = nI (dmy ru d) ∧ M1 = M)) := by
  refine cm_intro (lv0 := [some (.int x), some (.int y)]) (by decide) rfl (Nat.le_of_ble_eq_true rfl) rfl (fun p e s m below meth c C => ?_)
  refine g_iload0 C dX7_dueMany_0 (n := 1) rfl ?_
  refine g_if_ne C dX7_dueMany_1 (t := 8) (by decide) (n := 4) rfl (fun c_1 => ?_) (fun c_1 => ?_)
  · have w1 : ¬ ru = 0 := fun h => c_1 ((qeq hx nI_0.symm (by omega) (by decide)).mpr h)
    refine g_iload0 C dX7_dueMany_8 (n := 9) rfl ?_
    refine g_iconst C ic_1 dX7_dueMany_9 (n := 10) rfl ?_
    refine g_icmp_ne C dX7_dueMany_10 (t := 25) (by decide) (n := 13) rfl (fun c_10 => ?_) (fun c_10 => ?_)
    · have w10 : ¬ ru = 1 := fun h => c_10 ((qeq hx (show (1 : Int32) = nI 1 from rfl) (by omega) (by decide)).mpr h)
      have hv : y = nI (dmy ru d) := by unfold dmy; rw [if_neg w1, if_neg w10]; exact hy
      refine g_iload1 C dX7_dueMany_25 (n := 26) rfl ?_
      refine r_I C dX7_dueMany_26 ?_
      exact ⟨hv, rfl⟩
    · have w10 : ru = 1 := (qeq hx (show (1 : Int32) = nI 1 from rfl) (by omega) (by decide)).mp c_10
      refine g_iload1 C dX7_dueMany_13 (n := 14) rfl ?_
      refine g_if_le C dX7_dueMany_14 (t := 21) (by decide) (n := 17) rfl (fun c_14 => ?_) (fun c_14 => ?_)
      · have w14 : ¬ 0 < d := fun h => c_14 ((qlt nI_0.symm hy (by decide) (by omega)).mpr h)
        have hv : (0 : Int32) = nI (dmy ru d) := by unfold dmy; rw [if_neg w1, if_pos w10, show min d 1 = 0 by omega]; rfl
        refine g_iconst C ic_0 dX7_dueMany_21 (n := 22) rfl ?_
        refine g_goto C dX7_dueMany_22 (t := 26) (by decide) ?_
        refine r_I C dX7_dueMany_26 ?_
        exact ⟨hv, rfl⟩
      · have w14 : 0 < d := (qlt nI_0.symm hy (by decide) (by omega)).mp c_14
        have hv : (1 : Int32) = nI (dmy ru d) := by unfold dmy; rw [if_neg w1, if_pos w10, show min d 1 = 1 by omega]; rfl
        refine g_iconst C ic_1 dX7_dueMany_17 (n := 18) rfl ?_
        refine g_goto C dX7_dueMany_18 (t := 26) (by decide) ?_
        refine r_I C dX7_dueMany_26 ?_
        exact ⟨hv, rfl⟩
  · have w1 : ru = 0 := (qeq hx nI_0.symm (by omega) (by decide)).mp c_1
    have hv : (0 : Int32) = nI (dmy ru d) := by unfold dmy; rw [if_pos w1]; rfl
    refine g_iconst C ic_0 dX7_dueMany_4 (n := 5) rfl ?_
    refine g_goto C dX7_dueMany_5 (t := 26) (by decide) ?_
    refine r_I C dX7_dueMany_26 ?_
    exact ⟨hv, rfl⟩
set_option maxHeartbeats 4000000 in
set_option maxRecDepth 100000 in
theorem ct_X7_dueSign {l : Launch} {D : va_G} {cI cO : ClassId} {z tP : Nat} {aK aV : Nat → Nat} (sh : Shp) (M : Mem) (t ru d u : Nat) (x y v w : Int32) (hx : x = nI t) (hy : y = nI ru) (hv : v = nI d) (hw : w = nI u) (ht : t < 4) (hr : ru < 3) (hd : d < 2 ^ 31) (hu1 : 1 ≤ u) (hu : u ≤ dmy ru d) : Cm l D cI cO z tP aK aV yX7_dueSign cX7_dueSign 4 (some .int) 2 42 [.int x, .int y, .int v, .int w] sh M (pI (fun r M1 => r = opn t (dmy ru d - u) ∧ M1 = M)) := by
  refine cm_intro (lv0 := [some (.int x), some (.int y), some (.int v), some (.int w)]) (by decide) rfl (Nat.le_of_ble_eq_true rfl) rfl (fun p e s m below meth c C => ?_)
  have hdm := dmy_le ru d
  refine g_iload0 C dX7_dueSign_0 (n := 1) rfl ?_
  refine g_iload1 C dX7_dueSign_1 (n := 2) rfl ?_
  refine g_iconst C ic_1 dX7_dueSign_2 (n := 3) rfl ?_
  refine g_icmp_ne C dX7_dueSign_3 (t := 10) (by decide) (n := 6) rfl (fun c_3 => ?_) (fun c_3 => ?_)
  · have w3 : ¬ ru = 1 := fun h => c_3 ((qeq hy (show (1 : Int32) = nI 1 from rfl) (by omega) (by decide)).mpr h)
    have hq : v - w = nI (dmy ru d - u) := by
      have h1 : dmy ru d = d := by
        unfold dmy
        split
        · unfold dmy at hu; rw [if_pos (by assumption)] at hu; omega
        · first | rfl | rw [if_neg w3]
      rw [h1] at hu ⊢
      exact e_sub hv hw hu
    refine g_iload2 C dX7_dueSign_10 (n := 11) rfl ?_
    refine g_iload3 C dX7_dueSign_11 (n := 12) rfl ?_
    refine g_isub C dX7_dueSign_12 (n := 13) rfl ?_
    refine kc_X7_62 C (ct_X7_opener sh M t (dmy ru d - u) _ _ hx hq ht (by omega)) ⟨Nat.le_of_ble_eq_true rfl, Nat.le_of_ble_eq_true rfl⟩ ⟨Nat.zero_le _, Nat.zero_le _⟩ (Nat.le_of_ble_eq_true rfl) dX7_dueSign_13 (n := 16) rfl (fun r_13 M_13 h_13 => ?_)
    rw [h_13.1, h_13.2]
    refine r_I C dX7_dueSign_16 ?_
    exact ⟨rfl, rfl⟩
  · have w3 : ru = 1 := (qeq hy (show (1 : Int32) = nI 1 from rfl) (by omega) (by decide)).mp c_3
    have hq : (0 : Int32) = nI (dmy ru d - u) := by
      have h1 : dmy ru d ≤ 1 := by unfold dmy; rw [if_neg (by omega), if_pos w3]; omega
      rw [show dmy ru d - u = 0 by omega]; rfl
    refine g_iconst C ic_0 dX7_dueSign_6 (n := 7) rfl ?_
    refine g_goto C dX7_dueSign_7 (t := 13) (by decide) ?_
    refine kc_X7_62 C (ct_X7_opener sh M t (dmy ru d - u) _ _ hx hq ht (by omega)) ⟨Nat.le_of_ble_eq_true rfl, Nat.le_of_ble_eq_true rfl⟩ ⟨Nat.zero_le _, Nat.zero_le _⟩ (Nat.le_of_ble_eq_true rfl) dX7_dueSign_13 (n := 16) rfl (fun r_13 M_13 h_13 => ?_)
    rw [h_13.1, h_13.2]
    refine r_I C dX7_dueSign_16 ?_
    exact ⟨rfl, rfl⟩
