theorem lt0_1 {x : Int32} (h : x < 0) : x < 1 := by
  rw [Int32.lt_iff_toInt_lt] at h ⊢
  have e0 : (0 : Int32).toInt = 0 := by decide
  have e1 : (1 : Int32).toInt = 1 := by decide
  omega
theorem nmB_cong {n : Nat} {f g : Nat → Int32} (h : ∀ j, j < n → f j = g j) {i : Nat} : nmB n f i ↔ nmB n g i := by
  unfold nmB
  constructor
  · rintro ⟨h1, h2⟩
    exact ⟨h1, fun j hj => by rw [← h j hj]; exact h2 j hj⟩
  · rintro ⟨h1, h2⟩
    exact ⟨h1, fun j hj => by rw [h j hj]; exact h2 j hj⟩
theorem spC_ton {M : Mem} {S : Spt} {v : Int32} {t : Nat} (h : spC M 3 S) (hv : v = nI t) : spC (up2 M 3 2 v) 3 (sTon S t) := by
  obtain ⟨h1, h2, h3, h4, h5⟩ := h
  refine ⟨by simp [up2]; exact h1, fun j hj => by rw [up2_ne _ _ (by omega)]; exact h2 j hj, by rw [up2_at]; exact hv, by simp [up2]; exact h4, fun j hj => by rw [up2_ne _ _ (by omega)]; exact h5 j hj⟩
theorem spC_rul {M : Mem} {S : Spt} {v : Int32} {t : Nat} (h : spC M 3 S) (hv : v = nI t) : spC (up2 M 3 3 v) 3 (sRul S t) := by
  obtain ⟨h1, h2, h3, h4, h5⟩ := h
  refine ⟨by simp [up2]; exact h1, fun j hj => by rw [up2_ne _ _ (by omega)]; exact h2 j hj, by simp [up2]; exact h3, by rw [up2_at]; exact hv, fun j hj => by rw [up2_ne _ _ (by omega)]; exact h5 j hj⟩
theorem spC_wei {M : Mem} {S : Spt} {v : Int32} {i t : Nat} (h : spC M 3 S) (hv : v = nI t) : spC (up2 M 7 i v) 3 (sWei S i t) := by
  obtain ⟨h1, h2, h3, h4, h5⟩ := h
  refine ⟨by rw [up2_ne _ _ (by omega)]; exact h1, fun j hj => by rw [up2_ne _ _ (by omega)]; exact h2 j hj, by rw [up2_ne _ _ (by omega)]; exact h3, by rw [up2_ne _ _ (by omega)]; exact h4, fun j hj => ?_⟩
  show up2 M 7 i v 7 j = nI (if j = i then t else spw S j)
  by_cases hji : j = i
  · rw [hji, up2_at, if_pos rfl]; exact hv
  · rw [if_neg hji]; refine (show up2 M 7 i v 7 j = M 7 j by simp [up2, hji]).trans ?_; exact h5 j hj
theorem spC_alt {M : Mem} {S : Spt} {v : Int32} {i : Nat} (h : spC M 3 S) : spC (up2 M 5 i v) 3 (sAlt S i v) := by
  obtain ⟨h1, h2, h3, h4, h5⟩ := h
  refine ⟨by rw [up2_ne _ _ (by omega)]; exact h1, fun j hj => ?_, by rw [up2_ne _ _ (by omega)]; exact h3, by rw [up2_ne _ _ (by omega)]; exact h4, fun j hj => by rw [up2_ne _ _ (by omega)]; exact h5 j hj⟩
  show up2 M 5 i v 5 j = if j = i then v else spg S j
  by_cases hji : j = i
  · rw [hji, up2_at, if_pos rfl]
  · rw [if_neg hji]; refine (show up2 M 5 i v 5 j = M 5 j by simp [up2, hji]).trans ?_; exact h2 j hj
theorem hsC_len {M : Mem} {L : List Spt} (h : hsC M L) : M 8 2 = nI L.length := by
  obtain ⟨nx, _, _, h3, _⟩ := h
  exact h3
theorem bp_9 : (Int8.ofInt 9).toInt32 = 9 := by decide
set_option maxHeartbeats 4000000 in
set_option maxRecDepth 100000 in
theorem ct_X6_speak {l : Launch} {D : va_G} {cI cO : ClassId} {z tP : Nat} {aK aV : Nat → Nat} (M : Mem) (A : Abs) (hA : absC M A) (hw : wfA A) : Cm l D cI cO z tP aK aV yX6_speak cX6_speak 2 (some .int) 7 149 [.ref (z + 0)] SH M (pI (fun r M1 => ∃ B, spkS A r B ∧ absC M1 B ∧ fr80 M M1)) := by
  refine cm_intro (lv0 := [some (.ref (z + 0)), none]) (by decide) rfl (Nat.le_of_ble_eq_true rfl) rfl (fun p e s m below meth c C => ?_)
  have hwS := hw.2.1
  have hn120 := hwS.1
  have hsp := hA.2.2.1
  have ht4 := hwS.2.2.1
  refine g_aload0 C dX6_speak_0 (n := 1) rfl ?_
  refine kc_X6_86 C (ct_X6_tongueNamed M A.1 hA.1 hw.1) sh_0 ⟨Nat.le_of_ble_eq_true rfl, Nat.le_of_ble_eq_true rfl⟩ ⟨Nat.zero_le _, Nat.zero_le _⟩ (Nat.le_of_ble_eq_true rfl) dX6_speak_1 (n := 4) rfl (fun r_1 M_1 h_1 => ?_)
  rw [h_1.2]
  replace h_1 := h_1.1
  refine g_istore1 C dX6_speak_4 (n := 5) rfl ?_
  refine g_iload1 C dX6_speak_5 (n := 6) rfl ?_
  refine g_bipush C bp_m4 dX6_speak_6 (n := 8) rfl ?_
  refine g_icmp_ne C dX6_speak_8 (t := 14) (by decide) (n := 11) rfl (fun c_8 => ?_) (fun c_8 => ?_)
  · obtain ⟨t, ht, hr, hnm⟩ : ∃ t, t < 4 ∧ r_1 = nI t ∧ nmB A.1 A.2.1 (t + 1) := by
      rcases h_1 with ⟨t, ht, e, h⟩ | h
      · exact ⟨t, ht, e, (nmB_cong hA.2.1).mp h⟩
      · exact absurd h.1 c_8
    refine g_iload1 C dX6_speak_14 (n := 15) rfl ?_
    refine g_aload0 C dX6_speak_15 (n := 16) rfl ?_
    refine kg_X6_21 C sh_0 rfl dX6_speak_16 (n := 19) rfl ?_
    refine kg_X6_89 C sh_3 rfl dX6_speak_19 (n := 22) rfl ?_
    refine g_icmp_ne C dX6_speak_22 (t := 28) (by decide) (n := 25) rfl (fun c_22 => ?_) (fun c_22 => ?_)
    · have hne : t ≠ spt A.2.2.1 := fun h => c_22 (by rw [hr, h]; exact hsp.2.2.1.symm)
      refine g_aload0 C dX6_speak_28 (n := 29) rfl ?_
      refine kc_X6_92 C (ct_X6_beginChange M A hA hw) sh_0 ⟨Nat.le_of_ble_eq_true rfl, Nat.le_of_ble_eq_true rfl⟩ ⟨Nat.zero_le _, Nat.zero_le _⟩ (Nat.le_of_ble_eq_true rfl) dX6_speak_29 (n := 32) rfl (fun M2 h2 => ?_)
      refine g_aload0 C dX6_speak_32 (n := 33) rfl ?_
      refine kg_X6_21 C sh_0 rfl dX6_speak_33 (n := 36) rfl ?_
      refine g_iload1 C dX6_speak_36 (n := 37) rfl ?_
      refine kp_X6_89 C sh_3 rfl dX6_speak_37 (n := 40) rfl (fun M3 e3 => ?_)
      refine g_iload1 C dX6_speak_40 (n := 41) rfl ?_
      refine r_I C dX6_speak_41 ?_
      refine ⟨chg A (sTon A.2.2.1 t), Or.inr ⟨t, ht, hnm, Or.inr ⟨hne, hr, rfl⟩⟩, ?_, fun a ha => by rw [e3, up2_ne _ _ (by omega)]; exact h2.2 a ha⟩
      exact (absF_sp h2.1 (by rw [e3]; exact spC_ton h2.1.1.2.2.1 hr) (fun a a1 _ _ => by rw [e3, up2_ne _ _ a1])).1
    · have heq : t = spt A.2.2.1 := (nI_eq (by omega) (by omega)).mp (hr.symm.trans (c_22.trans hsp.2.2.1))
      refine g_bipush C bp_m2 dX6_speak_25 (n := 27) rfl ?_
      refine r_I C dX6_speak_27 ?_
      exact ⟨A, Or.inr ⟨t, ht, hnm, Or.inl ⟨heq, rfl, rfl⟩⟩, hA, fun _ _ => rfl⟩
  · have _u := True.intro
    refine g_bipush C bp_m4 dX6_speak_11 (n := 13) rfl ?_
    refine r_I C dX6_speak_13 ?_
    rcases h_1 with ⟨t, ht, e, _⟩ | h
    · exact absurd (e.symm.trans c_8) (nI_neg (by omega) (by decide))
    · exact ⟨A, Or.inl ⟨fun t ht hh => h.2 t ht ((nmB_cong hA.2.1).mpr hh), rfl, rfl⟩, hA, fun _ _ => rfl⟩
set_option maxHeartbeats 4000000 in
set_option maxRecDepth 100000 in
theorem ct_X6_rule {l : Launch} {D : va_G} {cI cO : ClassId} {z tP : Nat} {aK aV : Nat → Nat} (M : Mem) (A : Abs) (x : Int32) (hA : absC M A) (hw : wfA A) : Cm l D cI cO z tP aK aV yX6_rule cX6_rule 3 (some .int) 6 130 [.ref (z + 0), .int x] SH M (pI (fun r M1 => r = (opRule A x).1 ∧ absC M1 (opRule A x).2 ∧ fr80 M M1)) := by
  refine cm_intro (lv0 := [some (.ref (z + 0)), some (.int x), none]) (by decide) rfl (Nat.le_of_ble_eq_true rfl) rfl (fun p e s m below meth c C => ?_)
  have hwS := hw.2.1
  have hn120 := hwS.1
  have hsp := hA.2.2.1
  refine g_iload1 C dX6_rule_0 (n := 1) rfl ?_
  refine g_iconst C ic_3 dX6_rule_1 (n := 2) rfl ?_
  refine kc_X6_95 C (ct_X6_isBelow SH M x 3) ⟨Nat.le_of_ble_eq_true rfl, Nat.le_of_ble_eq_true rfl⟩ ⟨Nat.zero_le _, Nat.zero_le _⟩ (Nat.le_of_ble_eq_true rfl) dX6_rule_2 (n := 5) rfl (fun r_2 M_2 h_2 => ?_)
  rw [h_2.1, h_2.2]
  refine g_if_ne C dX6_rule_5 (t := 10) (by decide) (n := 8) rfl (fun c_5 => ?_) (fun c_5 => ?_)
  · have hb := blw'.mp c_5
    have hno : ¬ (x < 0 ∨ ¬ x < 3) := fun h => h.elim hb.1 (fun q => q hb.2)
    obtain ⟨r0, hr3, hr⟩ := ix_of (n := 3) hb.1 hb.2 (by decide)
    refine g_iload1 C dX6_rule_10 (n := 11) rfl ?_
    refine g_aload0 C dX6_rule_11 (n := 12) rfl ?_
    refine kg_X6_21 C sh_0 rfl dX6_rule_12 (n := 15) rfl ?_
    refine kg_X6_99 C sh_3 rfl dX6_rule_15 (n := 18) rfl ?_
    refine g_icmp_ne C dX6_rule_18 (t := 24) (by decide) (n := 21) rfl (fun c_18 => ?_) (fun c_18 => ?_)
    · have hne : ¬ x = nI (spr A.2.2.1) := fun h => c_18 (h.trans hsp.2.2.2.1.symm)
      refine g_aload0 C dX6_rule_24 (n := 25) rfl ?_
      refine kc_X6_92 C (ct_X6_beginChange M A hA hw) sh_0 ⟨Nat.le_of_ble_eq_true rfl, Nat.le_of_ble_eq_true rfl⟩ ⟨Nat.zero_le _, Nat.zero_le _⟩ (Nat.le_of_ble_eq_true rfl) dX6_rule_25 (n := 28) rfl (fun M2 h2 => ?_)
      refine g_aload0 C dX6_rule_28 (n := 29) rfl ?_
      refine kg_X6_21 C sh_0 rfl dX6_rule_29 (n := 32) rfl ?_
      refine kg_X6_99 C sh_3 rfl dX6_rule_32 (n := 35) rfl ?_
      refine g_istore2 C dX6_rule_35 (n := 36) rfl ?_
      refine g_aload0 C dX6_rule_36 (n := 37) rfl ?_
      refine kg_X6_21 C sh_0 rfl dX6_rule_37 (n := 40) rfl ?_
      refine g_iload1 C dX6_rule_40 (n := 41) rfl ?_
      refine kp_X6_99 C sh_3 rfl dX6_rule_41 (n := 44) rfl (fun M3 e3 => ?_)
      refine g_iload2 C dX6_rule_44 (n := 45) rfl ?_
      refine r_I C dX6_rule_45 ?_
      rw [show opRule A x = (nI (spr A.2.2.1), chg A (sRul A.2.2.1 (tn x))) by unfold opRule; rw [if_neg hno, if_neg hne]]
      refine ⟨h2.1.1.2.2.1.2.2.2.1, ?_, fun a ha => by rw [e3, up2_ne _ _ (by omega)]; exact h2.2 a ha⟩
      exact (absF_sp h2.1 (by rw [e3]; exact spC_rul h2.1.1.2.2.1 (by rw [hr, tn_nI (by omega)])) (fun a a1 _ _ => by rw [e3, up2_ne _ _ a1])).1
    · have heq : x = nI (spr A.2.2.1) := c_18.trans hsp.2.2.2.1
      refine g_bipush C bp_m2 dX6_rule_21 (n := 23) rfl ?_
      refine r_I C dX6_rule_23 ?_
      rw [show opRule A x = (-2, A) by unfold opRule; rw [if_neg hno, if_pos heq]]
      exact ⟨rfl, hA, fun _ _ => rfl⟩
  · have hb := blw.mp c_5
    refine g_iconst C ic_m1 dX6_rule_8 (n := 9) rfl ?_
    refine r_I C dX6_rule_9 ?_
    rw [show opRule A x = (-1, A) from if_pos hb]
    exact ⟨rfl, hA, fun _ _ => rfl⟩
set_option maxHeartbeats 4000000 in
set_option maxRecDepth 100000 in
theorem ct_X6_weigh {l : Launch} {D : va_G} {cI cO : ClassId} {z tP : Nat} {aK aV : Nat → Nat} (M : Mem) (A : Abs) (x y : Int32) (hA : absC M A) (hw : wfA A) : Cm l D cI cO z tP aK aV yX6_weigh cX6_weigh 4 (some .int) 6 130 [.ref (z + 0), .int x, .int y] SH M (pI (fun r M1 => r = (opWeigh A x y).1 ∧ absC M1 (opWeigh A x y).2 ∧ fr80 M M1)) := by
  refine cm_intro (lv0 := [some (.ref (z + 0)), some (.int x), some (.int y), none]) (by decide) rfl (Nat.le_of_ble_eq_true rfl) rfl (fun p e s m below meth c C => ?_)
  have hwS := hw.2.1
  have hn120 := hwS.1
  have hsp := hA.2.2.1
  refine g_iload1 C dX6_weigh_0 (n := 1) rfl ?_
  refine g_iconst C ic_3 dX6_weigh_1 (n := 2) rfl ?_
  refine kc_X6_95 C (ct_X6_isBelow SH M x 3) ⟨Nat.le_of_ble_eq_true rfl, Nat.le_of_ble_eq_true rfl⟩ ⟨Nat.zero_le _, Nat.zero_le _⟩ (Nat.le_of_ble_eq_true rfl) dX6_weigh_2 (n := 5) rfl (fun r_2 M_2 h_2 => ?_)
  rw [h_2.1, h_2.2]
  refine g_if_eq C dX6_weigh_5 (t := 19) (by decide) (n := 8) rfl (fun c_5 => ?_) (fun c_5 => ?_)
  · have hbad : x < 0 ∨ ¬ x < 3 ∨ y < 1 ∨ 9 < y := (blw.mp c_5).elim Or.inl (fun q => Or.inr (Or.inl q))
    refine g_iconst C ic_m1 dX6_weigh_19 (n := 20) rfl ?_
    refine r_I C dX6_weigh_20 ?_
    rw [show opWeigh A x y = (-1, A) from if_pos hbad]
    exact ⟨rfl, hA, fun _ _ => rfl⟩
  · have hb := blw'.mp c_5
    obtain ⟨i0, hi3, hi⟩ := ix_of (n := 3) hb.1 hb.2 (by decide)
    refine g_iload2 C dX6_weigh_8 (n := 9) rfl ?_
    refine g_iconst C ic_1 dX6_weigh_9 (n := 10) rfl ?_
    refine g_icmp_lt C dX6_weigh_10 (t := 19) (by decide) (n := 13) rfl (fun c_10 => ?_) (fun c_10 => ?_)
    · have hbad : x < 0 ∨ ¬ x < 3 ∨ y < 1 ∨ 9 < y := Or.inr (Or.inr (Or.inl c_10))
      refine g_iconst C ic_m1 dX6_weigh_19 (n := 20) rfl ?_
      refine r_I C dX6_weigh_20 ?_
      rw [show opWeigh A x y = (-1, A) from if_pos hbad]
      exact ⟨rfl, hA, fun _ _ => rfl⟩
    · have _u := True.intro
      refine g_iload2 C dX6_weigh_13 (n := 14) rfl ?_
      refine g_bipush C bp_9 dX6_weigh_14 (n := 16) rfl ?_
      refine g_icmp_le C dX6_weigh_16 (t := 21) (by decide) (n := 19) rfl (fun c_16 => ?_) (fun c_16 => ?_)
      · have hno : ¬ (x < 0 ∨ ¬ x < 3 ∨ y < 1 ∨ 9 < y) := by
          rintro (h | h | h | h)
          · exact hb.1 h
          · exact h hb.2
          · exact c_10 h
          · exact c_16 h
        obtain ⟨v0, hv9, hv⟩ := ix_le (x := y) (n := 9) (fun h => c_10 (lt0_1 h)) c_16 (by decide)
        refine g_aload0 C dX6_weigh_21 (n := 22) rfl ?_
        refine kg_X6_21 C sh_0 rfl dX6_weigh_22 (n := 25) rfl ?_
        refine kg_X6_102 C sh_3 rfl dX6_weigh_25 (n := 28) rfl ?_
        refine g_iload1 C dX6_weigh_28 (n := 29) rfl ?_
        refine kc_X6_61 C (ct_X4_at SH M 6 3 i0 _ row_6 hi hi3) sh_6 ⟨Nat.le_of_ble_eq_true rfl, Nat.le_of_ble_eq_true rfl⟩ ⟨Nat.zero_le _, Nat.zero_le _⟩ (Nat.le_of_ble_eq_true rfl) dX6_weigh_29 (n := 32) rfl (fun r_29 M_29 h_29 => ?_)
        rw [h_29.2, h_29.1, show M (6 + 1) i0 = nI (spw A.2.2.1 i0) from hsp.2.2.2.2 i0 hi3]
        have htn : tn x = i0 := by rw [hi, tn_nI (by omega)]
        refine g_istore3 C dX6_weigh_32 (n := 33) rfl ?_
        refine g_iload2 C dX6_weigh_33 (n := 34) rfl ?_
        refine g_iload3 C dX6_weigh_34 (n := 35) rfl ?_
        refine g_icmp_ne C dX6_weigh_35 (t := 41) (by decide) (n := 38) rfl (fun c_35 => ?_) (fun c_35 => ?_)
        · have hne : ¬ y = nI (spw A.2.2.1 (tn x)) := fun h => c_35 (by rw [h, htn])
          refine g_aload0 C dX6_weigh_41 (n := 42) rfl ?_
          refine kc_X6_92 C (ct_X6_beginChange M A hA hw) sh_0 ⟨Nat.le_of_ble_eq_true rfl, Nat.le_of_ble_eq_true rfl⟩ ⟨Nat.zero_le _, Nat.zero_le _⟩ (Nat.le_of_ble_eq_true rfl) dX6_weigh_42 (n := 45) rfl (fun M2 h2 => ?_)
          refine g_aload0 C dX6_weigh_45 (n := 46) rfl ?_
          refine kg_X6_21 C sh_0 rfl dX6_weigh_46 (n := 49) rfl ?_
          refine kg_X6_102 C sh_3 rfl dX6_weigh_49 (n := 52) rfl ?_
          refine g_iload1 C dX6_weigh_52 (n := 53) rfl ?_
          refine g_iload2 C dX6_weigh_53 (n := 54) rfl ?_
          refine kc_X6_57 C (ct_X4_set SH M2 6 3 i0 _ y row_6 hi hi3) sh_6 ⟨Nat.le_of_ble_eq_true rfl, Nat.le_of_ble_eq_true rfl⟩ ⟨Nat.zero_le _, Nat.zero_le _⟩ (Nat.le_of_ble_eq_true rfl) dX6_weigh_54 (n := 57) rfl (fun M3 e3 => ?_)
          refine g_iload3 C dX6_weigh_57 (n := 58) rfl ?_
          refine r_I C dX6_weigh_58 ?_
          rw [show opWeigh A x y = (nI (spw A.2.2.1 (tn x)), chg A (sWei A.2.2.1 (tn x) (tn y))) by unfold opWeigh; rw [if_neg hno, if_neg hne]]
          refine ⟨by rw [htn], ?_, fun a ha => by rw [e3, up2_ne _ _ (by omega)]; exact h2.2 a ha⟩
          rw [htn, show tn y = v0 by rw [hv, tn_nI (by omega)]]
          exact (absF_sp h2.1 (by rw [e3]; exact spC_wei h2.1.1.2.2.1 hv) (fun a _ _ a1 => by rw [e3, up2_ne _ _ a1])).1
        · have heq : y = nI (spw A.2.2.1 (tn x)) := by rw [c_35, htn]
          refine g_bipush C bp_m2 dX6_weigh_38 (n := 40) rfl ?_
          refine r_I C dX6_weigh_40 ?_
          rw [show opWeigh A x y = (-2, A) by unfold opWeigh; rw [if_neg hno, if_pos heq]]
          exact ⟨rfl, hA, fun _ _ => rfl⟩
      · have hbad : x < 0 ∨ ¬ x < 3 ∨ y < 1 ∨ 9 < y := Or.inr (Or.inr (Or.inr c_16))
        refine g_iconst C ic_m1 dX6_weigh_19 (n := 20) rfl ?_
        refine r_I C dX6_weigh_20 ?_
        rw [show opWeigh A x y = (-1, A) from if_pos hbad]
        exact ⟨rfl, hA, fun _ _ => rfl⟩
set_option maxHeartbeats 4000000 in
set_option maxRecDepth 100000 in
theorem ct_X6_put {l : Launch} {D : va_G} {cI cO : ClassId} {z tP : Nat} {aK aV : Nat → Nat} (M : Mem) (A : Abs) (x c0 : Int32) (hA : absC M A) (hw : wfA A) : Cm l D cI cO z tP aK aV yX6_put cX6_put 3 (some .int) 7 147 [.ref (z + 0), .int x, .int c0] SH M (pI (fun r M1 => r = (opPut A x c0).1 ∧ absC M1 (opPut A x c0).2 ∧ fr80 M M1)) := by
  refine cm_intro (lv0 := [some (.ref (z + 0)), some (.int x), some (.int c0)]) (by decide) rfl (Nat.le_of_ble_eq_true rfl) rfl (fun p e s m below meth c C => ?_)
  have hwS := hw.2.1
  have hn120 := hwS.1
  have hsp := hA.2.2.1
  refine g_iload1 C dX6_put_0 (n := 1) rfl ?_
  refine g_if_lt C dX6_put_1 (t := 22) (by decide) (n := 4) rfl (fun c_1 => ?_) (fun c_1 => ?_)
  · have hbad : x < 0 ∨ nI (spn A.2.2.1) < x ∨ isSg c0 = false := Or.inl c_1
    refine g_iconst C ic_m1 dX6_put_22 (n := 23) rfl ?_
    refine r_I C dX6_put_23 ?_
    rw [show opPut A x c0 = (-1, A) from if_pos hbad]
    exact ⟨rfl, hA, fun _ _ => rfl⟩
  · have _u := True.intro
    refine g_iload1 C dX6_put_4 (n := 5) rfl ?_
    refine g_aload0 C dX6_put_5 (n := 6) rfl ?_
    refine kg_X6_21 C sh_0 rfl dX6_put_6 (n := 9) rfl ?_
    refine kg_X6_83 C sh_3 rfl dX6_put_9 (n := 12) rfl ?_
    refine g_icmp_gt C dX6_put_12 (t := 22) (by decide) (n := 15) rfl (fun c_12 => ?_) (fun c_12 => ?_)
    · have hbad : x < 0 ∨ nI (spn A.2.2.1) < x ∨ isSg c0 = false := Or.inr (Or.inl (by rw [← hsp.1]; exact c_12))
      refine g_iconst C ic_m1 dX6_put_22 (n := 23) rfl ?_
      refine r_I C dX6_put_23 ?_
      rw [show opPut A x c0 = (-1, A) from if_pos hbad]
      exact ⟨rfl, hA, fun _ _ => rfl⟩
    · have hle : ¬ nI (spn A.2.2.1) < x := fun h => c_12 (by rw [hsp.1]; exact h)
      obtain ⟨i0, hi3, hi⟩ := ix_le c_1 hle (by omega)
      refine g_iload2 C dX6_put_15 (n := 16) rfl ?_
      refine kc_X6_65 C (ct_X6_isSign SH M c0) ⟨Nat.le_of_ble_eq_true rfl, Nat.le_of_ble_eq_true rfl⟩ ⟨Nat.zero_le _, Nat.zero_le _⟩ (Nat.le_of_ble_eq_true rfl) dX6_put_16 (n := 19) rfl (fun r_16 M_16 h_16 => ?_)
      rw [h_16.1, h_16.2]
      refine g_if_ne C dX6_put_19 (t := 24) (by decide) (n := 22) rfl (fun c_19 => ?_) (fun c_19 => ?_)
      · have hsg := bI_n.mp c_19
        have hno : ¬ (x < 0 ∨ nI (spn A.2.2.1) < x ∨ isSg c0 = false) := by
          rintro (h | h | h)
          · exact c_1 h
          · exact hle h
          · rw [hsg] at h; cases h
        refine g_aload0 C dX6_put_24 (n := 25) rfl ?_
        refine kg_X6_21 C sh_0 rfl dX6_put_25 (n := 28) rfl ?_
        refine kg_X6_83 C sh_3 rfl dX6_put_28 (n := 31) rfl ?_
        refine g_bipush C bp_120 dX6_put_31 (n := 33) rfl ?_
        refine g_icmp_lt C dX6_put_33 (t := 39) (by decide) (n := 36) rfl (fun c_33 => ?_) (fun c_33 => ?_)
        · have hlt : spn A.2.2.1 < 120 := (qlt hsp.1 (show (120 : Int32) = nI 120 from rfl) (by omega) (by decide)).mp c_33
          refine g_aload0 C dX6_put_39 (n := 40) rfl ?_
          refine kc_X6_92 C (ct_X6_beginChange M A hA hw) sh_0 ⟨Nat.le_of_ble_eq_true rfl, Nat.le_of_ble_eq_true rfl⟩ ⟨Nat.zero_le _, Nat.zero_le _⟩ (Nat.le_of_ble_eq_true rfl) dX6_put_40 (n := 43) rfl (fun M2 h2 => ?_)
          refine g_aload0 C dX6_put_43 (n := 44) rfl ?_
          refine kg_X6_21 C sh_0 rfl dX6_put_44 (n := 47) rfl ?_
          refine g_iload1 C dX6_put_47 (n := 48) rfl ?_
          refine g_iload2 C dX6_put_48 (n := 49) rfl ?_
          refine kc_X6_105 C (ct_X5_insert SH M2 3 i0 A.2.2.1 _ c0 speech_3 h2.1.1.2.2.1 hi hi3 hlt) sh_3 ⟨Nat.le_of_ble_eq_true rfl, Nat.le_of_ble_eq_true rfl⟩ ⟨Nat.zero_le _, Nat.zero_le _⟩ (Nat.le_of_ble_eq_true rfl) dX6_put_49 (n := 52) rfl (fun M3 h3 => ?_)
          refine g_aload0 C dX6_put_52 (n := 53) rfl ?_
          refine kg_X6_21 C sh_0 rfl dX6_put_53 (n := 56) rfl ?_
          refine kg_X6_83 C sh_3 rfl dX6_put_56 (n := 59) rfl ?_
          refine r_I C dX6_put_59 ?_
          rw [show opPut A x c0 = (nI (spn A.2.2.1 + 1), chg A (sIns A.2.2.1 (tn x) c0)) by unfold opPut; rw [if_neg hno, if_neg (by omega)], show tn x = i0 by rw [hi, tn_nI (by omega)]]
          exact ⟨h3.1.1, (absF_sp h2.1 h3.1 (fun a a1 a2 _ => h3.2 a a1 a2)).1, fun a ha => by rw [h3.2 a (by omega) (by omega)]; exact h2.2 a ha⟩
        · have hfull : spn A.2.2.1 = 120 := by
            have : ¬ spn A.2.2.1 < 120 := fun h => c_33 ((qlt hsp.1 (show (120 : Int32) = nI 120 from rfl) (by omega) (by decide)).mpr h)
            omega
          refine g_bipush C bp_m3 dX6_put_36 (n := 38) rfl ?_
          refine r_I C dX6_put_38 ?_
          rw [show opPut A x c0 = (-3, A) by unfold opPut; rw [if_neg hno, if_pos hfull]]
          exact ⟨rfl, hA, fun _ _ => rfl⟩
      · have hbad : x < 0 ∨ nI (spn A.2.2.1) < x ∨ isSg c0 = false := Or.inr (Or.inr (bI_0.mp c_19))
        refine g_iconst C ic_m1 dX6_put_22 (n := 23) rfl ?_
        refine r_I C dX6_put_23 ?_
        rw [show opPut A x c0 = (-1, A) from if_pos hbad]
        exact ⟨rfl, hA, fun _ _ => rfl⟩
set_option maxHeartbeats 4000000 in
set_option maxRecDepth 100000 in
theorem ct_X6_take {l : Launch} {D : va_G} {cI cO : ClassId} {z tP : Nat} {aK aV : Nat → Nat} (M : Mem) (A : Abs) (x : Int32) (hA : absC M A) (hw : wfA A) : Cm l D cI cO z tP aK aV yX6_take cX6_take 3 (some .int) 6 130 [.ref (z + 0), .int x] SH M (pI (fun r M1 => r = (opTake A x).1 ∧ absC M1 (opTake A x).2 ∧ fr80 M M1)) := by
  refine cm_intro (lv0 := [some (.ref (z + 0)), some (.int x), none]) (by decide) rfl (Nat.le_of_ble_eq_true rfl) rfl (fun p e s m below meth c C => ?_)
  have hwS := hw.2.1
  have hn120 := hwS.1
  have hsp := hA.2.2.1
  refine g_iload1 C dX6_take_0 (n := 1) rfl ?_
  refine g_aload0 C dX6_take_1 (n := 2) rfl ?_
  refine kg_X6_21 C sh_0 rfl dX6_take_2 (n := 5) rfl ?_
  refine kg_X6_83 C sh_3 rfl dX6_take_5 (n := 8) rfl ?_
  refine kc_X6_95 C (ct_X6_isBelow SH M x (M 3 1)) ⟨Nat.le_of_ble_eq_true rfl, Nat.le_of_ble_eq_true rfl⟩ ⟨Nat.zero_le _, Nat.zero_le _⟩ (Nat.le_of_ble_eq_true rfl) dX6_take_8 (n := 11) rfl (fun r_8 M_8 h_8 => ?_)
  rw [h_8.1, h_8.2, hsp.1]
  refine g_if_ne C dX6_take_11 (t := 16) (by decide) (n := 14) rfl (fun c_11 => ?_) (fun c_11 => ?_)
  · have hb := blw'.mp c_11
    have hno : ¬ (x < 0 ∨ ¬ x < nI (spn A.2.2.1)) := fun h => h.elim hb.1 (fun q => q hb.2)
    obtain ⟨i0, hi3, hi⟩ := ix_of hb.1 hb.2 (by omega)
    refine g_aload0 C dX6_take_16 (n := 17) rfl ?_
    refine kg_X6_21 C sh_0 rfl dX6_take_17 (n := 20) rfl ?_
    refine kg_X6_108 C sh_3 rfl dX6_take_20 (n := 23) rfl ?_
    refine g_iload1 C dX6_take_23 (n := 24) rfl ?_
    refine kc_X6_61 C (ct_X4_at SH M 4 120 i0 _ row_4 hi (by omega)) sh_4 ⟨Nat.le_of_ble_eq_true rfl, Nat.le_of_ble_eq_true rfl⟩ ⟨Nat.zero_le _, Nat.zero_le _⟩ (Nat.le_of_ble_eq_true rfl) dX6_take_24 (n := 27) rfl (fun r_24 M_24 h_24 => ?_)
    rw [h_24.2, h_24.1, show M (4 + 1) i0 = spg A.2.2.1 i0 from hsp.2.1 i0 hi3]
    refine g_istore2 C dX6_take_27 (n := 28) rfl ?_
    refine g_aload0 C dX6_take_28 (n := 29) rfl ?_
    refine kc_X6_92 C (ct_X6_beginChange M A hA hw) sh_0 ⟨Nat.le_of_ble_eq_true rfl, Nat.le_of_ble_eq_true rfl⟩ ⟨Nat.zero_le _, Nat.zero_le _⟩ (Nat.le_of_ble_eq_true rfl) dX6_take_29 (n := 32) rfl (fun M2 h2 => ?_)
    refine g_aload0 C dX6_take_32 (n := 33) rfl ?_
    refine kg_X6_21 C sh_0 rfl dX6_take_33 (n := 36) rfl ?_
    refine g_iload1 C dX6_take_36 (n := 37) rfl ?_
    refine kc_X6_111 C (ct_X5_remove SH M2 3 i0 A.2.2.1 _ speech_3 h2.1.1.2.2.1 hi hi3 hn120) sh_3 ⟨Nat.le_of_ble_eq_true rfl, Nat.le_of_ble_eq_true rfl⟩ ⟨Nat.zero_le _, Nat.zero_le _⟩ (Nat.le_of_ble_eq_true rfl) dX6_take_37 (n := 40) rfl (fun M3 h3 => ?_)
    refine g_iload2 C dX6_take_40 (n := 41) rfl ?_
    refine r_I C dX6_take_41 ?_
    rw [show opTake A x = (spg A.2.2.1 (tn x), chg A (sRem A.2.2.1 (tn x))) from if_neg hno, show tn x = i0 by rw [hi, tn_nI (by omega)]]
    exact ⟨rfl, (absF_sp h2.1 h3.1 (fun a a1 a2 _ => h3.2 a a1 a2)).1, fun a ha => by rw [h3.2 a (by omega) (by omega)]; exact h2.2 a ha⟩
  · have hb := blw.mp c_11
    refine g_iconst C ic_m1 dX6_take_14 (n := 15) rfl ?_
    refine r_I C dX6_take_15 ?_
    rw [show opTake A x = (-1, A) from if_pos hb]
    exact ⟨rfl, hA, fun _ _ => rfl⟩
set_option maxHeartbeats 4000000 in
set_option maxRecDepth 100000 in
theorem ct_X6_alter {l : Launch} {D : va_G} {cI cO : ClassId} {z tP : Nat} {aK aV : Nat → Nat} (M : Mem) (A : Abs) (x c0 : Int32) (hA : absC M A) (hw : wfA A) : Cm l D cI cO z tP aK aV yX6_alter cX6_alter 4 (some .int) 7 147 [.ref (z + 0), .int x, .int c0] SH M (pI (fun r M1 => r = (opAlter A x c0).1 ∧ absC M1 (opAlter A x c0).2 ∧ fr80 M M1)) := by
  refine cm_intro (lv0 := [some (.ref (z + 0)), some (.int x), some (.int c0), none]) (by decide) rfl (Nat.le_of_ble_eq_true rfl) rfl (fun p e s m below meth c C => ?_)
  have hwS := hw.2.1
  have hn120 := hwS.1
  have hsp := hA.2.2.1
  refine g_iload1 C dX6_alter_0 (n := 1) rfl ?_
  refine g_aload0 C dX6_alter_1 (n := 2) rfl ?_
  refine kg_X6_21 C sh_0 rfl dX6_alter_2 (n := 5) rfl ?_
  refine kg_X6_83 C sh_3 rfl dX6_alter_5 (n := 8) rfl ?_
  refine kc_X6_95 C (ct_X6_isBelow SH M x (M 3 1)) ⟨Nat.le_of_ble_eq_true rfl, Nat.le_of_ble_eq_true rfl⟩ ⟨Nat.zero_le _, Nat.zero_le _⟩ (Nat.le_of_ble_eq_true rfl) dX6_alter_8 (n := 11) rfl (fun r_8 M_8 h_8 => ?_)
  rw [h_8.1, h_8.2, hsp.1]
  refine g_if_eq C dX6_alter_11 (t := 21) (by decide) (n := 14) rfl (fun c_11 => ?_) (fun c_11 => ?_)
  · have hbad : x < 0 ∨ ¬ x < nI (spn A.2.2.1) ∨ isSg c0 = false := (blw.mp c_11).elim Or.inl (fun q => Or.inr (Or.inl q))
    refine g_iconst C ic_m1 dX6_alter_21 (n := 22) rfl ?_
    refine r_I C dX6_alter_22 ?_
    rw [show opAlter A x c0 = (-1, A) from if_pos hbad]
    exact ⟨rfl, hA, fun _ _ => rfl⟩
  · have hb := blw'.mp c_11
    obtain ⟨i0, hi3, hi⟩ := ix_of hb.1 hb.2 (by omega)
    refine g_iload2 C dX6_alter_14 (n := 15) rfl ?_
    refine kc_X6_65 C (ct_X6_isSign SH M c0) ⟨Nat.le_of_ble_eq_true rfl, Nat.le_of_ble_eq_true rfl⟩ ⟨Nat.zero_le _, Nat.zero_le _⟩ (Nat.le_of_ble_eq_true rfl) dX6_alter_15 (n := 18) rfl (fun r_15 M_15 h_15 => ?_)
    rw [h_15.1, h_15.2]
    refine g_if_ne C dX6_alter_18 (t := 23) (by decide) (n := 21) rfl (fun c_18 => ?_) (fun c_18 => ?_)
    · have hsg := bI_n.mp c_18
      have hno : ¬ (x < 0 ∨ ¬ x < nI (spn A.2.2.1) ∨ isSg c0 = false) := by
        rintro (h | h | h)
        · exact hb.1 h
        · exact h hb.2
        · rw [hsg] at h; cases h
      refine g_aload0 C dX6_alter_23 (n := 24) rfl ?_
      refine kg_X6_21 C sh_0 rfl dX6_alter_24 (n := 27) rfl ?_
      refine kg_X6_108 C sh_3 rfl dX6_alter_27 (n := 30) rfl ?_
      refine g_iload1 C dX6_alter_30 (n := 31) rfl ?_
      refine kc_X6_61 C (ct_X4_at SH M 4 120 i0 _ row_4 hi (by omega)) sh_4 ⟨Nat.le_of_ble_eq_true rfl, Nat.le_of_ble_eq_true rfl⟩ ⟨Nat.zero_le _, Nat.zero_le _⟩ (Nat.le_of_ble_eq_true rfl) dX6_alter_31 (n := 34) rfl (fun r_31 M_31 h_31 => ?_)
      rw [h_31.2, h_31.1, show M (4 + 1) i0 = spg A.2.2.1 i0 from hsp.2.1 i0 hi3]
      have htn : tn x = i0 := by rw [hi, tn_nI (by omega)]
      refine g_istore3 C dX6_alter_34 (n := 35) rfl ?_
      refine g_iload2 C dX6_alter_35 (n := 36) rfl ?_
      refine g_iload3 C dX6_alter_36 (n := 37) rfl ?_
      refine g_icmp_ne C dX6_alter_37 (t := 43) (by decide) (n := 40) rfl (fun c_37 => ?_) (fun c_37 => ?_)
      · have hne : ¬ c0 = spg A.2.2.1 (tn x) := fun h => c_37 (by rw [← htn]; exact h)
        refine g_aload0 C dX6_alter_43 (n := 44) rfl ?_
        refine kc_X6_92 C (ct_X6_beginChange M A hA hw) sh_0 ⟨Nat.le_of_ble_eq_true rfl, Nat.le_of_ble_eq_true rfl⟩ ⟨Nat.zero_le _, Nat.zero_le _⟩ (Nat.le_of_ble_eq_true rfl) dX6_alter_44 (n := 47) rfl (fun M2 h2 => ?_)
        refine g_aload0 C dX6_alter_47 (n := 48) rfl ?_
        refine kg_X6_21 C sh_0 rfl dX6_alter_48 (n := 51) rfl ?_
        refine kg_X6_108 C sh_3 rfl dX6_alter_51 (n := 54) rfl ?_
        refine g_iload1 C dX6_alter_54 (n := 55) rfl ?_
        refine g_iload2 C dX6_alter_55 (n := 56) rfl ?_
        refine kc_X6_57 C (ct_X4_set SH M2 4 120 i0 _ c0 row_4 hi (by omega)) sh_4 ⟨Nat.le_of_ble_eq_true rfl, Nat.le_of_ble_eq_true rfl⟩ ⟨Nat.zero_le _, Nat.zero_le _⟩ (Nat.le_of_ble_eq_true rfl) dX6_alter_56 (n := 59) rfl (fun M3 e3 => ?_)
        refine g_iload3 C dX6_alter_59 (n := 60) rfl ?_
        refine r_I C dX6_alter_60 ?_
        rw [show opAlter A x c0 = (spg A.2.2.1 (tn x), chg A (sAlt A.2.2.1 (tn x) c0)) by unfold opAlter; rw [if_neg hno, if_neg hne]]
        refine ⟨by rw [htn], ?_, fun a ha => by rw [e3, up2_ne _ _ (by omega)]; exact h2.2 a ha⟩
        rw [htn]
        exact (absF_sp h2.1 (by rw [e3]; exact spC_alt h2.1.1.2.2.1) (fun a _ a1 _ => by rw [e3, up2_ne _ _ a1])).1
      · have heq : c0 = spg A.2.2.1 (tn x) := by rw [htn]; exact c_37
        refine g_bipush C bp_m2 dX6_alter_40 (n := 42) rfl ?_
        refine r_I C dX6_alter_42 ?_
        rw [show opAlter A x c0 = (-2, A) by unfold opAlter; rw [if_neg hno, if_pos heq]]
        exact ⟨rfl, hA, fun _ _ => rfl⟩
    · have hbad : x < 0 ∨ ¬ x < nI (spn A.2.2.1) ∨ isSg c0 = false := Or.inr (Or.inr (bI_0.mp c_18))
      refine g_iconst C ic_m1 dX6_alter_21 (n := 22) rfl ?_
      refine r_I C dX6_alter_22 ?_
      rw [show opAlter A x c0 = (-1, A) from if_pos hbad]
      exact ⟨rfl, hA, fun _ _ => rfl⟩
set_option maxHeartbeats 4000000 in
set_option maxRecDepth 100000 in
theorem ct_X6_undo {l : Launch} {D : va_G} {cI cO : ClassId} {z tP : Nat} {aK aV : Nat → Nat} (M : Mem) (A : Abs) (hA : absC M A) (hw : wfA A) : Cm l D cI cO z tP aK aV yX6_undo cX6_undo 1 (some .int) 5 111 [.ref (z + 0)] SH M (pI (fun r M1 => ∃ B, undS A r B ∧ absC M1 B ∧ fr80 M M1)) := by
  refine cm_intro (lv0 := [some (.ref (z + 0))]) (by decide) rfl (Nat.le_of_ble_eq_true rfl) rfl (fun p e s m below meth c C => ?_)
  have hwS := hw.2.1
  have hn120 := hwS.1
  have hsp := hA.2.2.1
  have hl6 := hw.2.2.1
  have hk := hsC_len hA.2.2.2.1
  refine g_aload0 C dX6_undo_0 (n := 1) rfl ?_
  refine kg_X6_28 C sh_0 rfl dX6_undo_1 (n := 4) rfl ?_
  refine kg_X6_114 C sh_8 rfl dX6_undo_4 (n := 7) rfl ?_
  refine g_if_ne C dX6_undo_7 (t := 13) (by decide) (n := 10) rfl (fun c_7 => ?_) (fun c_7 => ?_)
  · have hne : A.2.2.2 ≠ [] := fun h => c_7 (by rw [hk, h]; rfl)
    obtain ⟨L, S, hLS⟩ : ∃ L S, A.2.2.2 = L ++ [S] := ⟨A.2.2.2.dropLast, A.2.2.2.getLast hne, (List.dropLast_concat_getLast hne).symm⟩
    have hlen : L.length < 6 := by rw [hLS] at hl6; simp at hl6; omega
    have hwS2 : wfS S := hw.2.2.2.1 S (by rw [hLS]; simp)
    have hsL := hA.2.2.2.1
    rw [hLS] at hsL
    refine g_aload0 C dX6_undo_13 (n := 14) rfl ?_
    refine kg_X6_28 C sh_0 rfl dX6_undo_14 (n := 17) rfl ?_
    refine g_aload0 C dX6_undo_17 (n := 18) rfl ?_
    refine kg_X6_21 C sh_0 rfl dX6_undo_18 (n := 21) rfl ?_
    refine kc_X6_117 C (ct_X1_giveBack M S L hsL hwS2.1 hlen) sh_8 ⟨Nat.le_of_ble_eq_true rfl, Nat.le_of_ble_eq_true rfl⟩ ⟨Nat.zero_le _, Nat.zero_le _⟩ (Nat.le_of_ble_eq_true rfl) dX6_undo_21 (n := 24) rfl (fun M2 h2 => ?_)
    refine g_aload0 C dX6_undo_24 (n := 25) rfl ?_
    refine kc_X6_80 C (ct_X6_outdate M2) sh_0 ⟨Nat.le_of_ble_eq_true rfl, Nat.le_of_ble_eq_true rfl⟩ ⟨Nat.zero_le _, Nat.zero_le _⟩ (Nat.le_of_ble_eq_true rfl) dX6_undo_25 (n := 28) rfl (fun M3 h3 => ?_)
    refine g_aload0 C dX6_undo_28 (n := 29) rfl ?_
    refine kg_X6_28 C sh_0 rfl dX6_undo_29 (n := 32) rfl ?_
    refine kg_X6_114 C sh_8 rfl dX6_undo_32 (n := 35) rfl ?_
    refine r_I C dX6_undo_35 ?_
    have f3 : ∀ a, a ≠ 0 → M3 a = M2 a := fun a a1 => by rw [h3, up2_ne _ _ a1, up2_ne _ _ a1]
    have z0 : M3 0 1 = M 0 1 ∧ M3 0 6 = 0 ∧ M3 0 7 = 0 := by rw [h3]; simp [up2]; rw [h2.2.2 0 (by omega)]
    have hs3 : hsC M3 L := hsC_cong (fun a _ _ => f3 a (by omega)) h2.2.1
    have f : ∀ a, a ≠ 0 → (a < 3 ∨ 40 ≤ a) → M3 a = M a := fun a a1 a2 => by rw [f3 a a1]; exact h2.2.2 a a2
    obtain ⟨q1, q2, q3, q4, q5, q6, q7, q8⟩ := hA
    exact ⟨(A.1, A.2.1, S, L), Or.inr ⟨L, S, hLS, hsC_len hs3, rfl⟩, ⟨by rw [z0.1]; exact q1, fun j hj => by rw [f 2 (by omega) (by omega)]; exact q2 j hj, spC_cong (f3 _ (by omega)) (f3 _ (by omega)) (f3 _ (by omega)) h2.1, hs3, gI_cong (f _ (by omega) (by omega)) (f _ (by omega) (by omega)) (f _ (by omega) (by omega)) q5, gI_cong (f _ (by omega) (by omega)) (f _ (by omega) (by omega)) (f _ (by omega) (by omega)) q6, Or.inl z0.2.1, Or.inl z0.2.2⟩, fun a ha => f a (by omega) (by omega)⟩
  · have hnil : A.2.2.2 = [] := List.eq_nil_of_length_eq_zero ((nI_eq (by omega) (by decide)).mp (hk.symm.trans (c_7.trans nI_0.symm)))
    refine g_bipush C bp_m2 dX6_undo_10 (n := 12) rfl ?_
    refine r_I C dX6_undo_12 ?_
    exact ⟨A, Or.inl ⟨hnil, rfl, rfl⟩, hA, fun _ _ => rfl⟩
set_option maxHeartbeats 4000000 in
set_option maxRecDepth 100000 in
theorem ct_X6_sign {l : Launch} {D : va_G} {cI cO : ClassId} {z tP : Nat} {aK aV : Nat → Nat} (M : Mem) (A : Abs) (x : Int32) (hA : absC M A) (hw : wfA A) : Cm l D cI cO z tP aK aV yX6_sign cX6_sign 2 (some .int) 1 21 [.ref (z + 0), .int x] SH M (pI (fun r M1 => r = opSign A x ∧ M1 = M)) := by
  refine cm_intro (lv0 := [some (.ref (z + 0)), some (.int x)]) (by decide) rfl (Nat.le_of_ble_eq_true rfl) rfl (fun p e s m below meth c C => ?_)
  have hwS := hw.2.1
  have hn120 := hwS.1
  have hsp := hA.2.2.1
  refine g_iload1 C dX6_sign_0 (n := 1) rfl ?_
  refine g_aload0 C dX6_sign_1 (n := 2) rfl ?_
  refine kg_X6_21 C sh_0 rfl dX6_sign_2 (n := 5) rfl ?_
  refine kg_X6_83 C sh_3 rfl dX6_sign_5 (n := 8) rfl ?_
  refine kc_X6_95 C (ct_X6_isBelow SH M x (M 3 1)) ⟨Nat.le_of_ble_eq_true rfl, Nat.le_of_ble_eq_true rfl⟩ ⟨Nat.zero_le _, Nat.zero_le _⟩ (Nat.le_of_ble_eq_true rfl) dX6_sign_8 (n := 11) rfl (fun r_8 M_8 h_8 => ?_)
  rw [h_8.1, h_8.2, hsp.1]
  refine g_if_eq C dX6_sign_11 (t := 28) (by decide) (n := 14) rfl (fun c_11 => ?_) (fun c_11 => ?_)
  · have hb := blw.mp c_11
    have hv : (-1 : Int32) = opSign A x := (if_pos hb).symm
    refine g_iconst C ic_m1 dX6_sign_28 (n := 29) rfl ?_
    refine r_I C dX6_sign_29 ?_
    exact ⟨hv, rfl⟩
  · have hb := blw'.mp c_11
    have hno : ¬ (x < 0 ∨ ¬ x < nI (spn A.2.2.1)) := fun h => h.elim hb.1 (fun q => q hb.2)
    obtain ⟨i0, hi3, hi⟩ := ix_of hb.1 hb.2 (by omega)
    refine g_aload0 C dX6_sign_14 (n := 15) rfl ?_
    refine kg_X6_21 C sh_0 rfl dX6_sign_15 (n := 18) rfl ?_
    refine kg_X6_108 C sh_3 rfl dX6_sign_18 (n := 21) rfl ?_
    refine g_iload1 C dX6_sign_21 (n := 22) rfl ?_
    refine kc_X6_61 C (ct_X4_at SH M 4 120 i0 _ row_4 hi (by omega)) sh_4 ⟨Nat.le_of_ble_eq_true rfl, Nat.le_of_ble_eq_true rfl⟩ ⟨Nat.zero_le _, Nat.zero_le _⟩ (Nat.le_of_ble_eq_true rfl) dX6_sign_22 (n := 25) rfl (fun r_22 M_22 h_22 => ?_)
    rw [h_22.2, h_22.1, show M (4 + 1) i0 = spg A.2.2.1 i0 from hsp.2.1 i0 hi3]
    have hv : spg A.2.2.1 i0 = opSign A x := by unfold opSign; rw [if_neg hno, hi, tn_nI (by omega)]
    refine g_goto C dX6_sign_25 (t := 29) (by decide) ?_
    refine r_I C dX6_sign_29 ?_
    exact ⟨hv, rfl⟩
