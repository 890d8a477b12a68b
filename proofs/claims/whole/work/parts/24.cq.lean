/-! what is asked of READ: the class -/
theorem RdOK_cong {M M' : Mem} {S : Spt} (h : RdOK M S) (f : ∀ a, 40 ≤ a → a < 64 → M' a = M a) : RdOK M' S := by
  unfold RdOK at *
  rw [f 40 (by omega) (by omega), f 55 (by omega) (by omega), f 47 (by omega) (by omega), f 49 (by omega) (by omega), f 51 (by omega) (by omega), f 53 (by omega) (by omega), f 57 (by omega) (by omega), f 59 (by omega) (by omega), f 61 (by omega) (by omega)]
  exact h
theorem MdOK_cong {M M' : Mem} {S : Spt} (h : MdOK M S) (f : ∀ a, 64 ≤ a → a < 80 → M' a = M a) : MdOK M' S := by
  unfold MdOK at *
  rw [f 75 (by omega) (by omega), f 64 (by omega) (by omega), f 77 (by omega) (by omega), f 79 (by omega) (by omega)]
  exact h
abbrev frF (M M1 : Mem) : Prop := (∀ a, (a < 40 ∨ 64 ≤ a) → a ≠ 0 → M1 a = M a) ∧ ∀ j, j ≠ 6 → M1 0 j = M 0 j
theorem absC_rd {M M1 : Mem} {A : Abs} (hA : absC M A) (hw : wfA A) (h6 : M1 0 6 = 1) (hR : RdOK M1 A.2.2.1) (hG : GRc M1 A.2.2.1) (hf : frF M M1) : absC M1 A := by
  obtain ⟨h1, h2, h3, h4, h5, h7, h8, h9⟩ := hA
  have hwS := hw.2.1
  refine ⟨by rw [hf.2 1 (by omega)]; exact h1, fun j hj => by rw [hf.1 2 (by omega) (by omega)]; exact h2 j hj, spC_cong (hf.1 _ (by omega) (by omega)) (hf.1 _ (by omega) (by omega)) (hf.1 _ (by omega) (by omega)) h3, hsC_cong (fun a _ _ => hf.1 a (by omega) (by omega)) h4, Or.inr ⟨_, _, hwS.2.2.1, hwS.2.2.2.1, hG.2.1, hG.2.2, hG.1⟩, gI_cong (hf.1 _ (by omega) (by omega)) (hf.1 _ (by omega) (by omega)) (hf.1 _ (by omega) (by omega)) h7, Or.inr ⟨h6, hR⟩, ?_⟩
  rw [hf.2 7 (by omega)]
  rcases h9 with h | ⟨h, h'⟩
  · exact Or.inl h
  · exact Or.inr ⟨h, MdOK_cong h' (fun a _ _ => hf.1 a (by omega) (by omega))⟩
theorem wlE_len {S : Spt} (hn : spn S ≤ 120) : (wlE S).length ≤ 242 := by
  have h1 := wr_len S (spn S)
  unfold wlE; rw [List.length_append, List.length_append]; split <;> split <;> simp <;> omega
def opCount (A : Abs) (x : Int32) : Int32 := if x = 0 then nI (spn A.2.2.1) else if x = 1 then nI (ctn (fun j => isMk (spg A.2.2.1 j)) (spn A.2.2.1)) else if x = 2 then nI (spt A.2.2.1) else if x = 3 then nI (spr A.2.2.1) else if x = 4 then nI (spw A.2.2.1 0) else if x = 5 then nI (spw A.2.2.1 1) else if x = 6 then nI (spw A.2.2.1 2) else if x = 7 then nI A.1 else if x = 8 then nI A.2.2.2.length else if x = 9 then nI (mxD A.2.2.1 (spn A.2.2.1)) else if x = 10 then nI (rD A.2.2.1 (spn A.2.2.1)) else -1
def sRet (S : Spt) (t : Nat) : Spt := (spn S, fun i => if kd S i = 3 ∨ kd S i = 5 then opn t (levS S i) else if kd S i = 4 then cls t (levS S i) else spg S i, t, spr S, spw S)
def opRetell (A : Abs) (x : Int32) : Int32 × Abs := if x < 0 ∨ ¬ x < 4 then (-1, A) else if x = nI (spt A.2.2.1) ∨ (wlE A.2.2.1).length ≠ 0 then (-2, A) else (nI (spt A.2.2.1), chg A (sRet A.2.2.1 (tn x)))
theorem oc_0 {A : Abs} {x : Int32} (h : x = 0) : opCount A x = nI (spn A.2.2.1) := by rw [h]; rfl
theorem oc_1 {A : Abs} {x : Int32} (h : x = 1) : opCount A x = nI (ctn (fun j => isMk (spg A.2.2.1 j)) (spn A.2.2.1)) := by rw [h]; rfl
theorem oc_2 {A : Abs} {x : Int32} (h : x = 2) : opCount A x = nI (spt A.2.2.1) := by rw [h]; rfl
theorem oc_3 {A : Abs} {x : Int32} (h : x = 3) : opCount A x = nI (spr A.2.2.1) := by rw [h]; rfl
theorem oc_4 {A : Abs} {x : Int32} (h : x = 4) : opCount A x = nI (spw A.2.2.1 0) := by rw [h]; rfl
theorem oc_5 {A : Abs} {x : Int32} (h : x = 5) : opCount A x = nI (spw A.2.2.1 1) := by rw [h]; rfl
theorem oc_6 {A : Abs} {x : Int32} (h : x = 6) : opCount A x = nI (spw A.2.2.1 2) := by rw [h]; rfl
theorem oc_7 {A : Abs} {x : Int32} (h : x = 7) : opCount A x = nI A.1 := by rw [h]; rfl
theorem oc_8 {A : Abs} {x : Int32} (h : x = 8) : opCount A x = nI A.2.2.2.length := by rw [h]; rfl
theorem oc_9 {A : Abs} {x : Int32} (h : x = 9) : opCount A x = nI (mxD A.2.2.1 (spn A.2.2.1)) := by rw [h]; rfl
theorem oc_10 {A : Abs} {x : Int32} (h : x = 10) : opCount A x = nI (rD A.2.2.1 (spn A.2.2.1)) := by rw [h]; rfl
theorem oc_n {A : Abs} {x : Int32} (h0 : ¬ x = 0) (h1 : ¬ x = 1) (h2 : ¬ x = 2) (h3 : ¬ x = 3) (h4 : ¬ x = 4) (h5 : ¬ x = 5) (h6 : ¬ x = 6) (h7 : ¬ x = 7) (h8 : ¬ x = 8) (h9 : ¬ x = 9) (h10 : ¬ x = 10) : opCount A x = -1 := by unfold opCount; rw [if_neg h0, if_neg h1, if_neg h2, if_neg h3, if_neg h4, if_neg h5, if_neg h6, if_neg h7, if_neg h8, if_neg h9, if_neg h10]
theorem sw_out_0_10 {x : Int32} (h0 : ¬ x = 0) (h1 : ¬ x = 1) (h2 : ¬ x = 2) (h3 : ¬ x = 3) (h4 : ¬ x = 4) (h5 : ¬ x = 5) (h6 : ¬ x = 6) (h7 : ¬ x = 7) (h8 : ¬ x = 8) (h9 : ¬ x = 9) (h10 : ¬ x = 10) : x.toInt < 0 ∨ 10 < x.toInt := by
  by_cases hl : x.toInt < 0
  · exact Or.inl hl
  · by_cases hg : 10 < x.toInt
    · exact Or.inr hg
    · have n0 : x.toInt ≠ 0 := fun h => h0 (Int32.toInt_inj.mp (h.trans (by decide)))
      have n1 : x.toInt ≠ 1 := fun h => h1 (Int32.toInt_inj.mp (h.trans (by decide)))
      have n2 : x.toInt ≠ 2 := fun h => h2 (Int32.toInt_inj.mp (h.trans (by decide)))
      have n3 : x.toInt ≠ 3 := fun h => h3 (Int32.toInt_inj.mp (h.trans (by decide)))
      have n4 : x.toInt ≠ 4 := fun h => h4 (Int32.toInt_inj.mp (h.trans (by decide)))
      have n5 : x.toInt ≠ 5 := fun h => h5 (Int32.toInt_inj.mp (h.trans (by decide)))
      have n6 : x.toInt ≠ 6 := fun h => h6 (Int32.toInt_inj.mp (h.trans (by decide)))
      have n7 : x.toInt ≠ 7 := fun h => h7 (Int32.toInt_inj.mp (h.trans (by decide)))
      have n8 : x.toInt ≠ 8 := fun h => h8 (Int32.toInt_inj.mp (h.trans (by decide)))
      have n9 : x.toInt ≠ 9 := fun h => h9 (Int32.toInt_inj.mp (h.trans (by decide)))
      have n10 : x.toInt ≠ 10 := fun h => h10 (Int32.toInt_inj.mp (h.trans (by decide)))
      omega

set_option maxHeartbeats 4000000 in
set_option maxRecDepth 100000 in
theorem ct_X6_freshReading {l : Launch} {D : va_G} {cI cO : ClassId} {z tP : Nat} {aK aV : Nat → Nat} (M : Mem) (A : Abs) (hA : absC M A) (hw : wfA A) : Cm l D cI cO z tP aK aV yX6_freshReading cX6_freshReading 1 (some (.object "SpeechMarks$Reading")) 5 117 [.ref (z + 0)] SH M (pA (fun r M1 => r = z + 40 ∧ absC M1 A ∧ RdOK M1 A.2.2.1 ∧ M1 0 6 = 1 ∧ frF M M1)) := by
  refine cm_intro (lv0 := [some (.ref (z + 0))]) (by decide) rfl (Nat.le_of_ble_eq_true rfl) rfl (fun p e s m below meth c C => ?_)
  refine g_aload0 C dX6_freshReading_0 (n := 1) rfl ?_
  refine kg_X6_50 C sh_0 rfl dX6_freshReading_1 (n := 4) rfl ?_
  refine g_if_ne C dX6_freshReading_4 (t := 23) (by decide) (n := 7) rfl (fun c_4 => ?_) (fun c_4 => ?_)
  · have hfin : absC M A ∧ RdOK M A.2.2.1 ∧ M 0 6 = 1 ∧ frF M M := by
      rcases hA.2.2.2.2.2.2.1 with h | h
      · exact absurd h c_4
      · exact ⟨hA, h.2, h.1, fun _ _ _ => rfl, fun _ _ => rfl⟩
    refine g_aload0 C dX6_freshReading_23 (n := 24) rfl ?_
    refine kg_X6_35 C sh_0 rfl dX6_freshReading_24 (n := 27) rfl ?_
    refine r_A C dX6_freshReading_27 ?_
    exact ⟨rfl, hfin⟩
  · have _u := True.intro
    refine g_aload0 C dX6_freshReading_7 (n := 8) rfl ?_
    refine kg_X6_35 C sh_0 rfl dX6_freshReading_8 (n := 11) rfl ?_
    refine g_aload0 C dX6_freshReading_11 (n := 12) rfl ?_
    refine kg_X6_21 C sh_0 rfl dX6_freshReading_12 (n := 15) rfl ?_
    refine kc_X6_197 C (ct_X3_readWhole M A.2.2.1 hA.2.2.1 hw.2.1 hA.2.2.2.2.1) sh_40 ⟨Nat.le_of_ble_eq_true rfl, Nat.le_of_ble_eq_true rfl⟩ ⟨Nat.zero_le _, Nat.zero_le _⟩ (Nat.le_of_ble_eq_true rfl) dX6_freshReading_15 (n := 18) rfl (fun M2 h2 => ?_)
    refine g_aload0 C dX6_freshReading_18 (n := 19) rfl ?_
    refine g_iconst C ic_1 dX6_freshReading_19 (n := 20) rfl ?_
    refine kp_X6_50 C rfl rfl sh_0 rfl dX6_freshReading_20 (n := 23) rfl (fun M3 e3 => ?_)
    have f3 : ∀ a, a ≠ 0 → M3 a = M2 a := fun a ha => by rw [e3, up2_ne _ _ ha]
    have hf : frF M M3 := ⟨fun a h1 h0 => by rw [f3 a h0]; exact h2.2.2 a h1, fun j hj => by rw [e3]; simp [up2, hj]; rw [h2.2.2 0 (by omega)]⟩
    have h6 : M3 0 6 = 1 := by rw [e3, up2_at]
    have hR3 : RdOK M3 A.2.2.1 := RdOK_cong h2.1 (fun a _ _ => f3 a (by omega))
    have hG3 : GRc M3 A.2.2.1 := GRc_cong h2.2.1 (f3 _ (by omega)) (f3 _ (by omega)) (f3 _ (by omega))
    have hfin : absC M3 A ∧ RdOK M3 A.2.2.1 ∧ M3 0 6 = 1 ∧ frF M M3 := ⟨absC_rd hA hw h6 hR3 hG3 hf, hR3, h6, hf⟩
    refine g_aload0 C dX6_freshReading_23 (n := 24) rfl ?_
    refine kg_X6_35 C sh_0 rfl dX6_freshReading_24 (n := 27) rfl ?_
    refine r_A C dX6_freshReading_27 ?_
    exact ⟨rfl, hfin⟩
set_option maxHeartbeats 4000000 in
set_option maxRecDepth 100000 in
theorem ct_X6_kind {l : Launch} {D : va_G} {cI cO : ClassId} {z tP : Nat} {aK aV : Nat → Nat} (M : Mem) (A : Abs) (x : Int32) (hA : absC M A) (hw : wfA A) : Cm l D cI cO z tP aK aV yX6_kind cX6_kind 2 (some .int) 6 137 [.ref (z + 0), .int x] SH M (pI (fun r M1 => r = opKind A x ∧ absC M1 A ∧ fr80 M M1)) := by
  refine cm_intro (lv0 := [some (.ref (z + 0)), some (.int x)]) (by decide) rfl (Nat.le_of_ble_eq_true rfl) rfl (fun p e s m below meth c C => ?_)
  have hwS := hw.2.1
  have hn120 := hwS.1
  have hsp := hA.2.2.1
  refine g_iload1 C dX6_kind_0 (n := 1) rfl ?_
  refine g_aload0 C dX6_kind_1 (n := 2) rfl ?_
  refine kg_X6_21 C sh_0 rfl dX6_kind_2 (n := 5) rfl ?_
  refine kg_X6_83 C sh_3 rfl dX6_kind_5 (n := 8) rfl ?_
  refine kc_X6_95 C (ct_X6_isBelow SH M x (M 3 1)) ⟨Nat.le_of_ble_eq_true rfl, Nat.le_of_ble_eq_true rfl⟩ ⟨Nat.zero_le _, Nat.zero_le _⟩ (Nat.le_of_ble_eq_true rfl) dX6_kind_8 (n := 11) rfl (fun r_8 M_8 h_8 => ?_)
  rw [h_8.1, h_8.2, hsp.1]
  refine g_if_eq C dX6_kind_11 (t := 28) (by decide) (n := 14) rfl (fun c_11 => ?_) (fun c_11 => ?_)
  · have hb := blw.mp c_11
    have hv : (-1 : Int32) = opKind A x := (if_pos hb).symm
    have hab : absC M A ∧ fr80 M M := ⟨hA, fun _ _ => rfl⟩
    refine g_iconst C ic_m1 dX6_kind_28 (n := 29) rfl ?_
    refine r_I C dX6_kind_29 ?_
    exact ⟨hv, hab⟩
  · have hb := blw'.mp c_11
    have hno : ¬ (x < 0 ∨ ¬ x < nI (spn A.2.2.1)) := fun h => h.elim hb.1 (fun q => q hb.2)
    obtain ⟨i0, hi3, hi⟩ := ix_of hb.1 hb.2 (by omega)
    refine g_aload0 C dX6_kind_14 (n := 15) rfl ?_
    refine kc_X6_121 C (ct_X6_freshReading M A hA hw) sh_0 ⟨Nat.le_of_ble_eq_true rfl, Nat.le_of_ble_eq_true rfl⟩ ⟨Nat.zero_le _, Nat.zero_le _⟩ (Nat.le_of_ble_eq_true rfl) dX6_kind_15 (n := 18) rfl (fun r2 M2 h2 => ?_)
    rw [h2.1]
    obtain ⟨_, hA2, hR2, _, hf2⟩ := h2
    have hab : absC M2 A ∧ fr80 M M2 := ⟨hA2, fun a ha => hf2.1 a (by omega) (by omega)⟩
    refine kg_X6_125 C sh_40 rfl dX6_kind_18 (n := 21) rfl ?_
    refine g_iload1 C dX6_kind_21 (n := 22) rfl ?_
    refine kc_X6_61 C (ct_X4_at SH M2 46 120 i0 _ row_46 hi (by omega)) sh_46 ⟨Nat.le_of_ble_eq_true rfl, Nat.le_of_ble_eq_true rfl⟩ ⟨Nat.zero_le _, Nat.zero_le _⟩ (Nat.le_of_ble_eq_true rfl) dX6_kind_22 (n := 25) rfl (fun r_22 M_22 h_22 => ?_)
    rw [h_22.2, h_22.1]
    have hv : M2 (46 + 1) i0 = opKind A x := by unfold opKind; rw [if_neg hno, hi, tn_nI (by omega)]; exact (hR2.2.1 i0 hi3).1
    refine g_goto C dX6_kind_25 (t := 29) (by decide) ?_
    refine r_I C dX6_kind_29 ?_
    exact ⟨hv, hab⟩
set_option maxHeartbeats 4000000 in
set_option maxRecDepth 100000 in
theorem ct_X6_depth {l : Launch} {D : va_G} {cI cO : ClassId} {z tP : Nat} {aK aV : Nat → Nat} (M : Mem) (A : Abs) (x : Int32) (hA : absC M A) (hw : wfA A) : Cm l D cI cO z tP aK aV yX6_depth cX6_depth 2 (some .int) 6 137 [.ref (z + 0), .int x] SH M (pI (fun r M1 => r = opDepth A x ∧ absC M1 A ∧ fr80 M M1)) := by
  refine cm_intro (lv0 := [some (.ref (z + 0)), some (.int x)]) (by decide) rfl (Nat.le_of_ble_eq_true rfl) rfl (fun p e s m below meth c C => ?_)
  have hwS := hw.2.1
  have hn120 := hwS.1
  have hsp := hA.2.2.1
  refine g_iload1 C dX6_depth_0 (n := 1) rfl ?_
  refine g_aload0 C dX6_depth_1 (n := 2) rfl ?_
  refine kg_X6_21 C sh_0 rfl dX6_depth_2 (n := 5) rfl ?_
  refine kg_X6_83 C sh_3 rfl dX6_depth_5 (n := 8) rfl ?_
  refine kc_X6_95 C (ct_X6_isBelow SH M x (M 3 1)) ⟨Nat.le_of_ble_eq_true rfl, Nat.le_of_ble_eq_true rfl⟩ ⟨Nat.zero_le _, Nat.zero_le _⟩ (Nat.le_of_ble_eq_true rfl) dX6_depth_8 (n := 11) rfl (fun r_8 M_8 h_8 => ?_)
  rw [h_8.1, h_8.2, hsp.1]
  refine g_if_eq C dX6_depth_11 (t := 28) (by decide) (n := 14) rfl (fun c_11 => ?_) (fun c_11 => ?_)
  · have hb := blw.mp c_11
    have hv : (-1 : Int32) = opDepth A x := (if_pos hb).symm
    have hab : absC M A ∧ fr80 M M := ⟨hA, fun _ _ => rfl⟩
    refine g_iconst C ic_m1 dX6_depth_28 (n := 29) rfl ?_
    refine r_I C dX6_depth_29 ?_
    exact ⟨hv, hab⟩
  · have hb := blw'.mp c_11
    have hno : ¬ (x < 0 ∨ ¬ x < nI (spn A.2.2.1)) := fun h => h.elim hb.1 (fun q => q hb.2)
    obtain ⟨i0, hi3, hi⟩ := ix_of hb.1 hb.2 (by omega)
    refine g_aload0 C dX6_depth_14 (n := 15) rfl ?_
    refine kc_X6_121 C (ct_X6_freshReading M A hA hw) sh_0 ⟨Nat.le_of_ble_eq_true rfl, Nat.le_of_ble_eq_true rfl⟩ ⟨Nat.zero_le _, Nat.zero_le _⟩ (Nat.le_of_ble_eq_true rfl) dX6_depth_15 (n := 18) rfl (fun r2 M2 h2 => ?_)
    rw [h2.1]
    obtain ⟨_, hA2, hR2, _, hf2⟩ := h2
    have hab : absC M2 A ∧ fr80 M M2 := ⟨hA2, fun a ha => hf2.1 a (by omega) (by omega)⟩
    refine kg_X6_128 C sh_40 rfl dX6_depth_18 (n := 21) rfl ?_
    refine g_iload1 C dX6_depth_21 (n := 22) rfl ?_
    refine kc_X6_61 C (ct_X4_at SH M2 48 120 i0 _ row_48 hi (by omega)) sh_48 ⟨Nat.le_of_ble_eq_true rfl, Nat.le_of_ble_eq_true rfl⟩ ⟨Nat.zero_le _, Nat.zero_le _⟩ (Nat.le_of_ble_eq_true rfl) dX6_depth_22 (n := 25) rfl (fun r_22 M_22 h_22 => ?_)
    rw [h_22.2, h_22.1]
    have hv : M2 (48 + 1) i0 = opDepth A x := by unfold opDepth; rw [if_neg hno, hi, tn_nI (by omega)]; exact (hR2.2.1 i0 hi3).2.1
    refine g_goto C dX6_depth_25 (t := 29) (by decide) ?_
    refine r_I C dX6_depth_29 ?_
    exact ⟨hv, hab⟩
set_option maxHeartbeats 4000000 in
set_option maxRecDepth 100000 in
theorem ct_X6_partner {l : Launch} {D : va_G} {cI cO : ClassId} {z tP : Nat} {aK aV : Nat → Nat} (M : Mem) (A : Abs) (x : Int32) (hA : absC M A) (hw : wfA A) : Cm l D cI cO z tP aK aV yX6_partner cX6_partner 3 (some .int) 6 137 [.ref (z + 0), .int x] SH M (pI (fun r M1 => r = opPart A x ∧ absC M1 A ∧ fr80 M M1)) := by
  refine cm_intro (lv0 := [some (.ref (z + 0)), some (.int x), none]) (by decide) rfl (Nat.le_of_ble_eq_true rfl) rfl (fun p e s m below meth c C => ?_)
  have hwS := hw.2.1
  have hn120 := hwS.1
  have hsp := hA.2.2.1
  refine g_iload1 C dX6_partner_0 (n := 1) rfl ?_
  refine g_aload0 C dX6_partner_1 (n := 2) rfl ?_
  refine kg_X6_21 C sh_0 rfl dX6_partner_2 (n := 5) rfl ?_
  refine kg_X6_83 C sh_3 rfl dX6_partner_5 (n := 8) rfl ?_
  refine kc_X6_95 C (ct_X6_isBelow SH M x (M 3 1)) ⟨Nat.le_of_ble_eq_true rfl, Nat.le_of_ble_eq_true rfl⟩ ⟨Nat.zero_le _, Nat.zero_le _⟩ (Nat.le_of_ble_eq_true rfl) dX6_partner_8 (n := 11) rfl (fun r_8 M_8 h_8 => ?_)
  rw [h_8.1, h_8.2, hsp.1]
  refine g_if_ne C dX6_partner_11 (t := 16) (by decide) (n := 14) rfl (fun c_11 => ?_) (fun c_11 => ?_)
  · have hb := blw'.mp c_11
    have hno : ¬ (x < 0 ∨ ¬ x < nI (spn A.2.2.1)) := fun h => h.elim hb.1 (fun q => q hb.2)
    obtain ⟨i0, hi3, hi⟩ := ix_of hb.1 hb.2 (by omega)
    have htn : tn x = i0 := by rw [hi, tn_nI (by omega)]
    have hkl := kd_lt A.2.2.1 i0
    refine g_aload0 C dX6_partner_16 (n := 17) rfl ?_
    refine kc_X6_121 C (ct_X6_freshReading M A hA hw) sh_0 ⟨Nat.le_of_ble_eq_true rfl, Nat.le_of_ble_eq_true rfl⟩ ⟨Nat.zero_le _, Nat.zero_le _⟩ (Nat.le_of_ble_eq_true rfl) dX6_partner_17 (n := 20) rfl (fun r2 M2 h2 => ?_)
    rw [h2.1]
    obtain ⟨_, hA2, hR2, _, hf2⟩ := h2
    have hab : absC M2 A ∧ fr80 M M2 := ⟨hA2, fun a ha => hf2.1 a (by omega) (by omega)⟩
    refine kg_X6_125 C sh_40 rfl dX6_partner_20 (n := 23) rfl ?_
    refine g_iload1 C dX6_partner_23 (n := 24) rfl ?_
    refine kc_X6_61 C (ct_X4_at SH M2 46 120 i0 _ row_46 hi (by omega)) sh_46 ⟨Nat.le_of_ble_eq_true rfl, Nat.le_of_ble_eq_true rfl⟩ ⟨Nat.zero_le _, Nat.zero_le _⟩ (Nat.le_of_ble_eq_true rfl) dX6_partner_24 (n := 27) rfl (fun r_24 M_24 h_24 => ?_)
    rw [h_24.2, h_24.1, show M2 (46 + 1) i0 = nI (kd A.2.2.1 i0) from (hR2.2.1 i0 hi3).1]
    refine g_istore2 C dX6_partner_27 (n := 28) rfl ?_
    refine g_iload2 C dX6_partner_28 (n := 29) rfl ?_
    refine g_iconst C ic_3 dX6_partner_29 (n := 30) rfl ?_
    refine g_icmp_eq C dX6_partner_30 (t := 38) (by decide) (n := 33) rfl (fun c_30 => ?_) (fun c_30 => ?_)
    · have w30 : kd A.2.2.1 i0 = 3 := (qeq (rfl : nI (kd A.2.2.1 i0) = _) (show (3 : Int32) = nI 3 from rfl) (by omega) (by decide)).mp c_30
      refine g_aload0 C dX6_partner_38 (n := 39) rfl ?_
      refine kg_X6_35 C sh_0 rfl dX6_partner_39 (n := 42) rfl ?_
      refine kg_X6_131 C sh_40 rfl dX6_partner_42 (n := 45) rfl ?_
      refine g_iload1 C dX6_partner_45 (n := 46) rfl ?_
      refine kc_X6_61 C (ct_X4_at SH M2 50 120 i0 _ row_50 hi (by omega)) sh_50 ⟨Nat.le_of_ble_eq_true rfl, Nat.le_of_ble_eq_true rfl⟩ ⟨Nat.zero_le _, Nat.zero_le _⟩ (Nat.le_of_ble_eq_true rfl) dX6_partner_46 (n := 49) rfl (fun r_46 M_46 h_46 => ?_)
      rw [h_46.2, h_46.1]
      have hv : M2 (50 + 1) i0 = opPart A x := by
        unfold opPart; rw [if_neg hno, htn]
        have hp := hR2.2.1 i0 hi3
        first
          | (rw [if_pos w30]; exact hp.2.2.1 w30)
          | (rw [if_neg w30, if_pos w35]
             obtain ⟨o, ho, e⟩ := hp.2.2.2.1 w35
             rw [List.head?_eq_getElem?] at ho
             rw [ho]; exact e)
      refine g_goto C dX6_partner_49 (t := 54) (by decide) ?_
      refine r_I C dX6_partner_54 ?_
      exact ⟨hv, hab⟩
    · have w30 : ¬ kd A.2.2.1 i0 = 3 := fun h => c_30 ((qeq (rfl : nI (kd A.2.2.1 i0) = _) (show (3 : Int32) = nI 3 from rfl) (by omega) (by decide)).mpr h)
      refine g_iload2 C dX6_partner_33 (n := 34) rfl ?_
      refine g_iconst C ic_4 dX6_partner_34 (n := 35) rfl ?_
      refine g_icmp_ne C dX6_partner_35 (t := 52) (by decide) (n := 38) rfl (fun c_35 => ?_) (fun c_35 => ?_)
      · have w35 : ¬ kd A.2.2.1 i0 = 4 := fun h => c_35 ((qeq (rfl : nI (kd A.2.2.1 i0) = _) (show (4 : Int32) = nI 4 from rfl) (by omega) (by decide)).mpr h)
        have hv : (-2 : Int32) = opPart A x := by unfold opPart; rw [if_neg hno, htn, if_neg w30, if_neg w35]
        refine g_bipush C bp_m2 dX6_partner_52 (n := 54) rfl ?_
        refine r_I C dX6_partner_54 ?_
        exact ⟨hv, hab⟩
      · have w35 : kd A.2.2.1 i0 = 4 := (qeq (rfl : nI (kd A.2.2.1 i0) = _) (show (4 : Int32) = nI 4 from rfl) (by omega) (by decide)).mp c_35
        refine g_aload0 C dX6_partner_38 (n := 39) rfl ?_
        refine kg_X6_35 C sh_0 rfl dX6_partner_39 (n := 42) rfl ?_
        refine kg_X6_131 C sh_40 rfl dX6_partner_42 (n := 45) rfl ?_
        refine g_iload1 C dX6_partner_45 (n := 46) rfl ?_
        refine kc_X6_61 C (ct_X4_at SH M2 50 120 i0 _ row_50 hi (by omega)) sh_50 ⟨Nat.le_of_ble_eq_true rfl, Nat.le_of_ble_eq_true rfl⟩ ⟨Nat.zero_le _, Nat.zero_le _⟩ (Nat.le_of_ble_eq_true rfl) dX6_partner_46 (n := 49) rfl (fun r_46 M_46 h_46 => ?_)
        rw [h_46.2, h_46.1]
        have hv : M2 (50 + 1) i0 = opPart A x := by
          unfold opPart; rw [if_neg hno, htn]
          have hp := hR2.2.1 i0 hi3
          first
            | (rw [if_pos w30]; exact hp.2.2.1 w30)
            | (rw [if_neg w30, if_pos w35]
               obtain ⟨o, ho, e⟩ := hp.2.2.2.1 w35
               rw [List.head?_eq_getElem?] at ho
               rw [ho]; exact e)
        refine g_goto C dX6_partner_49 (t := 54) (by decide) ?_
        refine r_I C dX6_partner_54 ?_
        exact ⟨hv, hab⟩
  · have hb := blw.mp c_11
    refine g_iconst C ic_m1 dX6_partner_14 (n := 15) rfl ?_
    refine r_I C dX6_partner_15 ?_
    exact ⟨(if_pos hb).symm, hA, fun _ _ => rfl⟩
set_option maxHeartbeats 4000000 in
set_option maxRecDepth 100000 in
theorem ct_X6_fact {l : Launch} {D : va_G} {cI cO : ClassId} {z tP : Nat} {aK aV : Nat → Nat} (M : Mem) (k n nr wd w0 : Nat) (rr ww x y : Int32) (hrow : isRow SH k n) (hrr : rr = nI nr) (hww : ww = nI wd) (hx : ¬ x < -1) (hy : y = nI w0) (hnr : nr < 2 ^ 31) (hfit : ∀ q, q < nr → wd * q + w0 < n) : Cm l D cI cO z tP aK aV yX6_fact cX6_fact 5 (some .int) 1 21 [.ref (z + k), .int rr, .int ww, .int x, .int y] SH M (pI (fun r M1 => ((x = -1 ∧ r = nI nr) ∨ ∃ q, q < 2 ^ 31 ∧ x = nI q ∧ ((q < nr ∧ r = M (k + 1) (wd * q + w0)) ∨ (nr ≤ q ∧ r = -4))) ∧ M1 = M)) := by
  refine cm_intro (lv0 := [some (.ref (z + k)), some (.int rr), some (.int ww), some (.int x), some (.int y)]) (by decide) rfl (Nat.le_of_ble_eq_true rfl) rfl (fun p e s m below meth c C => ?_)
  refine g_iload3 C dX6_fact_0 (n := 1) rfl ?_
  refine g_iconst C ic_m1 dX6_fact_1 (n := 2) rfl ?_
  refine g_icmp_ne C dX6_fact_2 (t := 7) (by decide) (n := 5) rfl (fun c_2 => ?_) (fun c_2 => ?_)
  · obtain ⟨q, hq, hxq⟩ := (m1_cases hx).resolve_left c_2
    refine g_iload3 C dX6_fact_7 (n := 8) rfl ?_
    refine g_iload1 C dX6_fact_8 (n := 9) rfl ?_
    refine kc_X6_95 C (ct_X6_isBelow SH M x rr) ⟨Nat.le_of_ble_eq_true rfl, Nat.le_of_ble_eq_true rfl⟩ ⟨Nat.zero_le _, Nat.zero_le _⟩ (Nat.le_of_ble_eq_true rfl) dX6_fact_9 (n := 12) rfl (fun r_9 M_9 h_9 => ?_)
    rw [h_9.1, h_9.2]
    refine g_if_eq C dX6_fact_12 (t := 28) (by decide) (n := 15) rfl (fun c_12 => ?_) (fun c_12 => ?_)
    · have hb := blw.mp c_12
      have hge : nr ≤ q := by
        rcases hb with h | h
        · exact absurd h (by rw [hxq]; exact nI_pos hq)
        · by_cases hh : q < nr
          · exact absurd ((qlt hxq hrr hq hnr).mpr hh) h
          · omega
      have hv : (q < nr ∧ (-4 : Int32) = M (k + 1) (wd * q + w0)) ∨ (nr ≤ q ∧ (-4 : Int32) = -4) := Or.inr ⟨hge, rfl⟩
      refine g_bipush C bp_m4 dX6_fact_28 (n := 30) rfl ?_
      refine r_I C dX6_fact_30 ?_
      exact ⟨Or.inr ⟨q, hq, hxq, hv⟩, rfl⟩
    · have hb := blw'.mp c_12
      have hlt : q < nr := (qlt hxq hrr hq hnr).mp hb.2
      refine g_aload0 C dX6_fact_15 (n := 16) rfl ?_
      refine g_iload3 C dX6_fact_16 (n := 17) rfl ?_
      refine g_iload2 C dX6_fact_17 (n := 18) rfl ?_
      refine g_imul C dX6_fact_18 (n := 19) rfl ?_
      refine g_iload4 C dX6_fact_19 (n := 21) rfl ?_
      refine g_iadd C dX6_fact_21 (n := 22) rfl ?_
      refine kc_X6_61 C (ct_X4_at SH M k n (wd * q + w0) _ hrow (e_add (by rw [e_mul hxq hww, Nat.mul_comm]) hy) (hfit q hlt)) hrow.1 ⟨Nat.le_of_ble_eq_true rfl, Nat.le_of_ble_eq_true rfl⟩ ⟨Nat.zero_le _, Nat.zero_le _⟩ (Nat.le_of_ble_eq_true rfl) dX6_fact_22 (n := 25) rfl (fun r_22 M_22 h_22 => ?_)
      rw [h_22.2, h_22.1]
      have hv : (q < nr ∧ M (k + 1) (wd * q + w0) = M (k + 1) (wd * q + w0)) ∨ (nr ≤ q ∧ M (k + 1) (wd * q + w0) = -4) := Or.inl ⟨hlt, rfl⟩
      refine g_goto C dX6_fact_25 (t := 30) (by decide) ?_
      refine r_I C dX6_fact_30 ?_
      exact ⟨Or.inr ⟨q, hq, hxq, hv⟩, rfl⟩
  · have _u := True.intro
    refine g_iload1 C dX6_fact_5 (n := 6) rfl ?_
    refine r_I C dX6_fact_6 ?_
    exact ⟨Or.inl ⟨c_2, hrr⟩, rfl⟩
set_option maxHeartbeats 4000000 in
set_option maxRecDepth 100000 in
theorem ct_X6_wrong {l : Launch} {D : va_G} {cI cO : ClassId} {z tP : Nat} {aK aV : Nat → Nat} (M : Mem) (A : Abs) (x y : Int32) (hA : absC M A) (hw : wfA A) : Cm l D cI cO z tP aK aV yX6_wrong cX6_wrong 3 (some .int) 6 137 [.ref (z + 0), .int x, .int y] SH M (pI (fun r M1 => r = opWrong A x y ∧ absC M1 A ∧ fr80 M M1)) := by
  refine cm_intro (lv0 := [some (.ref (z + 0)), some (.int x), some (.int y)]) (by decide) rfl (Nat.le_of_ble_eq_true rfl) rfl (fun p e s m below meth c C => ?_)
  have hwS := hw.2.1
  have hn120 := hwS.1
  have hsp := hA.2.2.1
  refine g_iload1 C dX6_wrong_0 (n := 1) rfl ?_
  refine g_iconst C ic_m1 dX6_wrong_1 (n := 2) rfl ?_
  refine g_icmp_lt C dX6_wrong_2 (t := 13) (by decide) (n := 5) rfl (fun c_2 => ?_) (fun c_2 => ?_)
  · have hbad : x < -1 ∨ y < 0 ∨ ¬ y < 2 := Or.inl c_2
    refine g_iconst C ic_m1 dX6_wrong_13 (n := 14) rfl ?_
    refine r_I C dX6_wrong_14 ?_
    exact ⟨(if_pos hbad).symm, hA, fun _ _ => rfl⟩
  · have _u := True.intro
    refine g_iload2 C dX6_wrong_5 (n := 6) rfl ?_
    refine g_iconst C ic_2 dX6_wrong_6 (n := 7) rfl ?_
    refine kc_X6_95 C (ct_X6_isBelow SH M y 2) ⟨Nat.le_of_ble_eq_true rfl, Nat.le_of_ble_eq_true rfl⟩ ⟨Nat.zero_le _, Nat.zero_le _⟩ (Nat.le_of_ble_eq_true rfl) dX6_wrong_7 (n := 10) rfl (fun r_7 M_7 h_7 => ?_)
    rw [h_7.1, h_7.2]
    refine g_if_ne C dX6_wrong_10 (t := 15) (by decide) (n := 13) rfl (fun c_10 => ?_) (fun c_10 => ?_)
    · have hb := blw'.mp c_10
      have hno : ¬ (x < -1 ∨ y < 0 ∨ ¬ y < 2) := by
        rintro (h | h | h)
        · exact c_2 h
        · exact hb.1 h
        · exact h hb.2
      obtain ⟨y0, hy0, hy⟩ := ix_of (n := 2) hb.1 hb.2 (by decide)
      have hwl := wlE_len hn120
      refine g_aload0 C dX6_wrong_15 (n := 16) rfl ?_
      refine kc_X6_121 C (ct_X6_freshReading M A hA hw) sh_0 ⟨Nat.le_of_ble_eq_true rfl, Nat.le_of_ble_eq_true rfl⟩ ⟨Nat.zero_le _, Nat.zero_le _⟩ (Nat.le_of_ble_eq_true rfl) dX6_wrong_16 (n := 19) rfl (fun r2 M2 h2 => ?_)
      rw [h2.1]
      obtain ⟨_, hA2, hR2, _, hf2⟩ := h2
      have hab : absC M2 A ∧ fr80 M M2 := ⟨hA2, fun a ha => hf2.1 a (by omega) (by omega)⟩
      refine kg_X6_134 C sh_40 rfl dX6_wrong_19 (n := 22) rfl ?_
      refine g_aload0 C dX6_wrong_22 (n := 23) rfl ?_
      refine kg_X6_35 C sh_0 rfl dX6_wrong_23 (n := 26) rfl ?_
      refine kg_X6_137 C sh_40 rfl dX6_wrong_26 (n := 29) rfl ?_
      refine g_iconst C ic_2 dX6_wrong_29 (n := 30) rfl ?_
      refine g_iload1 C dX6_wrong_30 (n := 31) rfl ?_
      refine g_iload2 C dX6_wrong_31 (n := 32) rfl ?_
      refine kc_X6_140 C (ct_X6_fact M2 54 484 ((wlE A.2.2.1).length) 2 y0 _ _ x y row_54 hR2.1.1 rfl c_2 hy (by omega) (fun q hq => by omega)) ⟨Nat.le_of_ble_eq_true rfl, Nat.le_of_ble_eq_true rfl⟩ ⟨Nat.zero_le _, Nat.zero_le _⟩ (Nat.le_of_ble_eq_true rfl) dX6_wrong_32 (n := 35) rfl (fun r3 M3 h3 => ?_)
      rw [h3.2]
      replace h3 := h3.1
      refine r_I C dX6_wrong_35 ?_
      refine ⟨?_, hab⟩
      unfold opWrong; rw [if_neg hno]
      rcases h3 with ⟨h, e⟩ | ⟨q, hq, hxq, ⟨h, e⟩ | ⟨h, e⟩⟩
      · rw [if_pos h]; exact e
      · rw [if_neg (fun w => by rw [hxq] at w; exact nI_neg hq (by decide) w), hxq, tn_nI hq]
        obtain ⟨g, hg⟩ : ∃ g, (wlE A.2.2.1)[q]? = some g := ⟨_, List.getElem?_eq_getElem h⟩
        have hgg := hR2.1.2 q g hg
        rw [hg, e]
        show _ = if y = 0 then _ else _
        rcases (show y0 = 0 ∨ y0 = 1 by omega) with h0 | h0
        · rw [if_pos (by rw [hy, h0]; rfl), h0]; exact hgg.1
        · rw [if_neg (by rw [hy, h0]; decide), h0]; exact hgg.2
      · rw [if_neg (fun w => by rw [hxq] at w; exact nI_neg hq (by decide) w), hxq, tn_nI hq, List.getElem?_eq_none h]; exact e
    · have hbad : x < -1 ∨ y < 0 ∨ ¬ y < 2 := Or.inr (blw.mp c_10)
      refine g_iconst C ic_m1 dX6_wrong_13 (n := 14) rfl ?_
      refine r_I C dX6_wrong_14 ?_
      exact ⟨(if_pos hbad).symm, hA, fun _ _ => rfl⟩
set_option maxHeartbeats 4000000 in
set_option maxRecDepth 100000 in
theorem ct_X6_quote {l : Launch} {D : va_G} {cI cO : ClassId} {z tP : Nat} {aK aV : Nat → Nat} (M : Mem) (A : Abs) (x y : Int32) (hA : absC M A) (hw : wfA A) : Cm l D cI cO z tP aK aV yX6_quote cX6_quote 3 (some .int) 6 137 [.ref (z + 0), .int x, .int y] SH M (pI (fun r M1 => qtS A x y r ∧ absC M1 A ∧ fr80 M M1)) := by
  refine cm_intro (lv0 := [some (.ref (z + 0)), some (.int x), some (.int y)]) (by decide) rfl (Nat.le_of_ble_eq_true rfl) rfl (fun p e s m below meth c C => ?_)
  have hwS := hw.2.1
  have hn120 := hwS.1
  have hsp := hA.2.2.1
  refine g_iload1 C dX6_quote_0 (n := 1) rfl ?_
  refine g_iconst C ic_m1 dX6_quote_1 (n := 2) rfl ?_
  refine g_icmp_lt C dX6_quote_2 (t := 14) (by decide) (n := 5) rfl (fun c_2 => ?_) (fun c_2 => ?_)
  · have hbad : x < -1 ∨ y < 0 ∨ ¬ y < 7 := Or.inl c_2
    refine g_iconst C ic_m1 dX6_quote_14 (n := 15) rfl ?_
    refine r_I C dX6_quote_15 ?_
    exact ⟨Or.inl ⟨hbad, rfl⟩, hA, fun _ _ => rfl⟩
  · have _u := True.intro
    refine g_iload2 C dX6_quote_5 (n := 6) rfl ?_
    refine g_bipush C bp_7 dX6_quote_6 (n := 8) rfl ?_
    refine kc_X6_95 C (ct_X6_isBelow SH M y 7) ⟨Nat.le_of_ble_eq_true rfl, Nat.le_of_ble_eq_true rfl⟩ ⟨Nat.zero_le _, Nat.zero_le _⟩ (Nat.le_of_ble_eq_true rfl) dX6_quote_8 (n := 11) rfl (fun r_8 M_8 h_8 => ?_)
    rw [h_8.1, h_8.2]
    refine g_if_ne C dX6_quote_11 (t := 16) (by decide) (n := 14) rfl (fun c_11 => ?_) (fun c_11 => ?_)
    · have hb := blw'.mp c_11
      have hno : ¬ (x < -1 ∨ y < 0 ∨ ¬ y < 7) := by
        rintro (h | h | h)
        · exact c_2 h
        · exact hb.1 h
        · exact h hb.2
      obtain ⟨y0, hy0, hy⟩ := ix_of (n := 7) hb.1 hb.2 (by decide)
      have hct := ctn_le (kdIs A.2.2.1 3) (spn A.2.2.1)
      refine g_aload0 C dX6_quote_16 (n := 17) rfl ?_
      refine kc_X6_121 C (ct_X6_freshReading M A hA hw) sh_0 ⟨Nat.le_of_ble_eq_true rfl, Nat.le_of_ble_eq_true rfl⟩ ⟨Nat.zero_le _, Nat.zero_le _⟩ (Nat.le_of_ble_eq_true rfl) dX6_quote_17 (n := 20) rfl (fun r2 M2 h2 => ?_)
      rw [h2.1]
      obtain ⟨_, hA2, hR2, _, hf2⟩ := h2
      have hab : absC M2 A ∧ fr80 M M2 := ⟨hA2, fun a ha => hf2.1 a (by omega) (by omega)⟩
      refine kg_X6_144 C sh_40 rfl dX6_quote_20 (n := 23) rfl ?_
      refine g_aload0 C dX6_quote_23 (n := 24) rfl ?_
      refine kg_X6_35 C sh_0 rfl dX6_quote_24 (n := 27) rfl ?_
      refine kg_X6_147 C sh_40 rfl dX6_quote_27 (n := 30) rfl ?_
      refine g_bipush C bp_7 dX6_quote_30 (n := 32) rfl ?_
      refine g_iload1 C dX6_quote_32 (n := 33) rfl ?_
      refine g_iload2 C dX6_quote_33 (n := 34) rfl ?_
      refine kc_X6_140 C (ct_X6_fact M2 56 840 (ctn (kdIs A.2.2.1 3) (spn A.2.2.1)) 7 y0 _ _ x y row_56 hR2.2.2.1.1 rfl c_2 hy (by omega) (fun q hq => by omega)) ⟨Nat.le_of_ble_eq_true rfl, Nat.le_of_ble_eq_true rfl⟩ ⟨Nat.zero_le _, Nat.zero_le _⟩ (Nat.le_of_ble_eq_true rfl) dX6_quote_34 (n := 37) rfl (fun r3 M3 h3 => ?_)
      rw [h3.2]
      replace h3 := h3.1
      refine r_I C dX6_quote_37 ?_
      refine ⟨?_, hab⟩
      rcases h3 with ⟨h, e⟩ | ⟨q, hq, hxq, ⟨h, e⟩ | ⟨h, e⟩⟩
      · exact Or.inr ⟨hno, Or.inl ⟨h, e⟩⟩
      · obtain ⟨o0, ho1, ho2, ho3⟩ := ctn_ex h
        have hisq : isQ A.2.2.1 (spn A.2.2.1) q o0 := ⟨ho1, by simpa using ho2, ho3⟩
        refine Or.inr ⟨hno, Or.inr ⟨q, hxq, hq, Or.inr ⟨o0, hisq, ?_⟩⟩⟩
        rw [e, hy, tn_nI (by omega)]; exact hR2.2.2.1.2 q o0 hisq y0 hy0
      · exact Or.inr ⟨hno, Or.inr ⟨q, hxq, hq, Or.inl ⟨h, e⟩⟩⟩
    · have hbad : x < -1 ∨ y < 0 ∨ ¬ y < 7 := Or.inr (blw.mp c_11)
      refine g_iconst C ic_m1 dX6_quote_14 (n := 15) rfl ?_
      refine r_I C dX6_quote_15 ?_
      exact ⟨Or.inl ⟨hbad, rfl⟩, hA, fun _ _ => rfl⟩
set_option maxHeartbeats 4000000 in
set_option maxRecDepth 100000 in
theorem ct_X6_paragraph {l : Launch} {D : va_G} {cI cO : ClassId} {z tP : Nat} {aK aV : Nat → Nat} (M : Mem) (A : Abs) (x y : Int32) (hA : absC M A) (hw : wfA A) : Cm l D cI cO z tP aK aV yX6_paragraph cX6_paragraph 3 (some .int) 6 137 [.ref (z + 0), .int x, .int y] SH M (pI (fun r M1 => paS A x y r ∧ absC M1 A ∧ fr80 M M1)) := by
  refine cm_intro (lv0 := [some (.ref (z + 0)), some (.int x), some (.int y)]) (by decide) rfl (Nat.le_of_ble_eq_true rfl) rfl (fun p e s m below meth c C => ?_)
  have hwS := hw.2.1
  have hn120 := hwS.1
  have hsp := hA.2.2.1
  refine g_iload1 C dX6_paragraph_0 (n := 1) rfl ?_
  refine g_iconst C ic_m1 dX6_paragraph_1 (n := 2) rfl ?_
  refine g_icmp_lt C dX6_paragraph_2 (t := 13) (by decide) (n := 5) rfl (fun c_2 => ?_) (fun c_2 => ?_)
  · have hbad : x < -1 ∨ y < 0 ∨ ¬ y < 3 := Or.inl c_2
    refine g_iconst C ic_m1 dX6_paragraph_13 (n := 14) rfl ?_
    refine r_I C dX6_paragraph_14 ?_
    exact ⟨Or.inl ⟨hbad, rfl⟩, hA, fun _ _ => rfl⟩
  · have _u := True.intro
    refine g_iload2 C dX6_paragraph_5 (n := 6) rfl ?_
    refine g_iconst C ic_3 dX6_paragraph_6 (n := 7) rfl ?_
    refine kc_X6_95 C (ct_X6_isBelow SH M y 3) ⟨Nat.le_of_ble_eq_true rfl, Nat.le_of_ble_eq_true rfl⟩ ⟨Nat.zero_le _, Nat.zero_le _⟩ (Nat.le_of_ble_eq_true rfl) dX6_paragraph_7 (n := 10) rfl (fun r_7 M_7 h_7 => ?_)
    rw [h_7.1, h_7.2]
    refine g_if_ne C dX6_paragraph_10 (t := 15) (by decide) (n := 13) rfl (fun c_10 => ?_) (fun c_10 => ?_)
    · have hb := blw'.mp c_10
      have hno : ¬ (x < -1 ∨ y < 0 ∨ ¬ y < 3) := by
        rintro (h | h | h)
        · exact c_2 h
        · exact hb.1 h
        · exact h hb.2
      obtain ⟨y0, hy0, hy⟩ := ix_of (n := 3) hb.1 hb.2 (by decide)
      have hct := ctn_le (kdIs A.2.2.1 2) (spn A.2.2.1)
      refine g_aload0 C dX6_paragraph_15 (n := 16) rfl ?_
      refine kc_X6_121 C (ct_X6_freshReading M A hA hw) sh_0 ⟨Nat.le_of_ble_eq_true rfl, Nat.le_of_ble_eq_true rfl⟩ ⟨Nat.zero_le _, Nat.zero_le _⟩ (Nat.le_of_ble_eq_true rfl) dX6_paragraph_16 (n := 19) rfl (fun r2 M2 h2 => ?_)
      rw [h2.1]
      obtain ⟨_, hA2, hR2, _, hf2⟩ := h2
      have hab : absC M2 A ∧ fr80 M M2 := ⟨hA2, fun a ha => hf2.1 a (by omega) (by omega)⟩
      refine kg_X6_153 C sh_40 rfl dX6_paragraph_19 (n := 22) rfl ?_
      refine g_aload0 C dX6_paragraph_22 (n := 23) rfl ?_
      refine kg_X6_35 C sh_0 rfl dX6_paragraph_23 (n := 26) rfl ?_
      refine kg_X6_156 C sh_40 rfl dX6_paragraph_26 (n := 29) rfl ?_
      refine g_iconst C ic_3 dX6_paragraph_29 (n := 30) rfl ?_
      refine g_iload1 C dX6_paragraph_30 (n := 31) rfl ?_
      refine g_iload2 C dX6_paragraph_31 (n := 32) rfl ?_
      refine kc_X6_140 C (ct_X6_fact M2 58 363 (ctn (kdIs A.2.2.1 2) (spn A.2.2.1) + 1) 3 y0 _ _ x y row_58 hR2.2.2.2.1.1 rfl c_2 hy (by omega) (fun q hq => by omega)) ⟨Nat.le_of_ble_eq_true rfl, Nat.le_of_ble_eq_true rfl⟩ ⟨Nat.zero_le _, Nat.zero_le _⟩ (Nat.le_of_ble_eq_true rfl) dX6_paragraph_32 (n := 35) rfl (fun r3 M3 h3 => ?_)
      rw [h3.2]
      replace h3 := h3.1
      refine r_I C dX6_paragraph_35 ?_
      refine ⟨?_, hab⟩
      rcases h3 with ⟨h, e⟩ | ⟨q, hq, hxq, ⟨h, e⟩ | ⟨h, e⟩⟩
      · exact Or.inr ⟨hno, Or.inl ⟨h, e⟩⟩
      · refine Or.inr ⟨hno, Or.inr ⟨q, hxq, hq, Or.inr ⟨by omega, ?_⟩⟩⟩
        rw [e, hy, tn_nI (by omega)]; exact hR2.2.2.2.1.2 q (by omega) y0 hy0
      · exact Or.inr ⟨hno, Or.inr ⟨q, hxq, hq, Or.inl ⟨by omega, e⟩⟩⟩
    · have hbad : x < -1 ∨ y < 0 ∨ ¬ y < 3 := Or.inr (blw.mp c_10)
      refine g_iconst C ic_m1 dX6_paragraph_13 (n := 14) rfl ?_
      refine r_I C dX6_paragraph_14 ?_
      exact ⟨Or.inl ⟨hbad, rfl⟩, hA, fun _ _ => rfl⟩
set_option maxHeartbeats 4000000 in
set_option maxRecDepth 100000 in
theorem ct_X6_said {l : Launch} {D : va_G} {cI cO : ClassId} {z tP : Nat} {aK aV : Nat → Nat} (M : Mem) (A : Abs) (x : Int32) (hA : absC M A) (hw : wfA A) : Cm l D cI cO z tP aK aV yX6_said cX6_said 2 (some .int) 6 137 [.ref (z + 0), .int x] SH M (pI (fun r M1 => r = opSaid A x ∧ absC M1 A ∧ fr80 M M1)) := by
  refine cm_intro (lv0 := [some (.ref (z + 0)), some (.int x)]) (by decide) rfl (Nat.le_of_ble_eq_true rfl) rfl (fun p e s m below meth c C => ?_)
  have hwS := hw.2.1
  have hn120 := hwS.1
  have hsp := hA.2.2.1
  refine g_iload1 C dX6_said_0 (n := 1) rfl ?_
  refine g_if_lt C dX6_said_1 (t := 24) (by decide) (n := 4) rfl (fun c_1 => ?_) (fun c_1 => ?_)
  · have hv : (-1 : Int32) = opSaid A x := (if_pos (Or.inl c_1)).symm
    have hab : absC M A ∧ fr80 M M := ⟨hA, fun _ _ => rfl⟩
    refine g_iconst C ic_m1 dX6_said_24 (n := 25) rfl ?_
    refine r_I C dX6_said_25 ?_
    exact ⟨hv, hab⟩
  · have _u := True.intro
    refine g_iload1 C dX6_said_4 (n := 5) rfl ?_
    refine g_bipush C bp_6 dX6_said_5 (n := 7) rfl ?_
    refine g_icmp_gt C dX6_said_7 (t := 24) (by decide) (n := 10) rfl (fun c_7 => ?_) (fun c_7 => ?_)
    · have hv : (-1 : Int32) = opSaid A x := (if_pos (Or.inr c_7)).symm
      have hab : absC M A ∧ fr80 M M := ⟨hA, fun _ _ => rfl⟩
      refine g_iconst C ic_m1 dX6_said_24 (n := 25) rfl ?_
      refine r_I C dX6_said_25 ?_
      exact ⟨hv, hab⟩
    · obtain ⟨d0, hd0, hd⟩ := ix_le (n := 6) c_1 c_7 (by decide)
      refine g_aload0 C dX6_said_10 (n := 11) rfl ?_
      refine kc_X6_121 C (ct_X6_freshReading M A hA hw) sh_0 ⟨Nat.le_of_ble_eq_true rfl, Nat.le_of_ble_eq_true rfl⟩ ⟨Nat.zero_le _, Nat.zero_le _⟩ (Nat.le_of_ble_eq_true rfl) dX6_said_11 (n := 14) rfl (fun r2 M2 h2 => ?_)
      rw [h2.1]
      obtain ⟨_, hA2, hR2, _, hf2⟩ := h2
      have hab : absC M2 A ∧ fr80 M M2 := ⟨hA2, fun a ha => hf2.1 a (by omega) (by omega)⟩
      refine kg_X6_150 C sh_40 rfl dX6_said_14 (n := 17) rfl ?_
      refine g_iload1 C dX6_said_17 (n := 18) rfl ?_
      refine kc_X6_61 C (ct_X4_at SH M2 60 7 d0 _ row_60 hd (by omega)) sh_60 ⟨Nat.le_of_ble_eq_true rfl, Nat.le_of_ble_eq_true rfl⟩ ⟨Nat.zero_le _, Nat.zero_le _⟩ (Nat.le_of_ble_eq_true rfl) dX6_said_18 (n := 21) rfl (fun r_18 M_18 h_18 => ?_)
      rw [h_18.2, h_18.1]
      have hv : M2 (60 + 1) d0 = opSaid A x := by unfold opSaid; rw [if_neg (fun h => h.elim c_1 c_7), hd, tn_nI (by omega)]; exact hR2.2.2.2.2.1 d0 hd0
      refine g_goto C dX6_said_21 (t := 25) (by decide) ?_
      refine r_I C dX6_said_25 ?_
      exact ⟨hv, hab⟩
set_option maxHeartbeats 4000000 in
set_option maxRecDepth 100000 in
theorem ct_X6_count {l : Launch} {D : va_G} {cI cO : ClassId} {z tP : Nat} {aK aV : Nat → Nat} (M : Mem) (A : Abs) (x : Int32) (hA : absC M A) (hw : wfA A) : Cm l D cI cO z tP aK aV yX6_count cX6_count 2 (some .int) 7 149 [.ref (z + 0), .int x] SH M (pI (fun r M1 => r = opCount A x ∧ absC M1 A ∧ fr80 M M1)) := by
  refine cm_intro (lv0 := [some (.ref (z + 0)), some (.int x)]) (by decide) rfl (Nat.le_of_ble_eq_true rfl) rfl (fun p e s m below meth c C => ?_)
  have hwS := hw.2.1
  have hn120 := hwS.1
  have hsp := hA.2.2.1
  have hkp := hsC_len hA.2.2.2.1
  refine g_iload1 C dX6_count_0 (n := 1) rfl ?_
  by_cases c_1_0 : x = 0
  · refine g_tblIn C dX6_count_1 (by rw [c_1_0]; decide) (by rw [c_1_0]; decide) (off := 59) (by rw [c_1_0]; rfl) (t := 60) (by decide) ?_
    refine g_aload0 C dX6_count_60 (n := 61) rfl ?_
    refine kg_X6_21 C sh_0 rfl dX6_count_61 (n := 64) rfl ?_
    refine kg_X6_83 C sh_3 rfl dX6_count_64 (n := 67) rfl ?_
    refine r_I C dX6_count_67 ?_
    exact ⟨by rw [oc_0 c_1_0]; exact hsp.1, hA, fun _ _ => rfl⟩
  by_cases c_1_1 : x = 1
  · refine g_tblIn C dX6_count_1 (by rw [c_1_1]; decide) (by rw [c_1_1]; decide) (off := 67) (by rw [c_1_1]; rfl) (t := 68) (by decide) ?_
    refine g_aload0 C dX6_count_68 (n := 69) rfl ?_
    refine kg_X6_21 C sh_0 rfl dX6_count_69 (n := 72) rfl ?_
    refine kc_X6_180 C (ct_X5_marks SH M 3 A.2.2.1 speech_3 hsp hn120) sh_3 ⟨Nat.le_of_ble_eq_true rfl, Nat.le_of_ble_eq_true rfl⟩ ⟨Nat.zero_le _, Nat.zero_le _⟩ (Nat.le_of_ble_eq_true rfl) dX6_count_72 (n := 75) rfl (fun r_72 M_72 h_72 => ?_)
    rw [h_72.1, h_72.2]
    refine r_I C dX6_count_75 ?_
    exact ⟨by rw [oc_1 c_1_1], hA, fun _ _ => rfl⟩
  by_cases c_1_2 : x = 2
  · refine g_tblIn C dX6_count_1 (by rw [c_1_2]; decide) (by rw [c_1_2]; decide) (off := 75) (by rw [c_1_2]; rfl) (t := 76) (by decide) ?_
    refine g_aload0 C dX6_count_76 (n := 77) rfl ?_
    refine kg_X6_21 C sh_0 rfl dX6_count_77 (n := 80) rfl ?_
    refine kg_X6_89 C sh_3 rfl dX6_count_80 (n := 83) rfl ?_
    refine r_I C dX6_count_83 ?_
    exact ⟨by rw [oc_2 c_1_2]; exact hsp.2.2.1, hA, fun _ _ => rfl⟩
  by_cases c_1_3 : x = 3
  · refine g_tblIn C dX6_count_1 (by rw [c_1_3]; decide) (by rw [c_1_3]; decide) (off := 83) (by rw [c_1_3]; rfl) (t := 84) (by decide) ?_
    refine g_aload0 C dX6_count_84 (n := 85) rfl ?_
    refine kg_X6_21 C sh_0 rfl dX6_count_85 (n := 88) rfl ?_
    refine kg_X6_99 C sh_3 rfl dX6_count_88 (n := 91) rfl ?_
    refine r_I C dX6_count_91 ?_
    exact ⟨by rw [oc_3 c_1_3]; exact hsp.2.2.2.1, hA, fun _ _ => rfl⟩
  by_cases c_1_4 : x = 4
  · refine g_tblIn C dX6_count_1 (by rw [c_1_4]; decide) (by rw [c_1_4]; decide) (off := 91) (by rw [c_1_4]; rfl) (t := 92) (by decide) ?_
    refine g_aload0 C dX6_count_92 (n := 93) rfl ?_
    refine kg_X6_21 C sh_0 rfl dX6_count_93 (n := 96) rfl ?_
    refine kg_X6_102 C sh_3 rfl dX6_count_96 (n := 99) rfl ?_
    refine g_iconst C ic_0 dX6_count_99 (n := 100) rfl ?_
    refine kc_X6_61 C (ct_X4_at SH M 6 3 0 _ row_6 nI_0.symm (by decide)) sh_6 ⟨Nat.le_of_ble_eq_true rfl, Nat.le_of_ble_eq_true rfl⟩ ⟨Nat.zero_le _, Nat.zero_le _⟩ (Nat.le_of_ble_eq_true rfl) dX6_count_100 (n := 103) rfl (fun r_100 M_100 h_100 => ?_)
    rw [h_100.1, h_100.2]
    refine r_I C dX6_count_103 ?_
    exact ⟨by rw [oc_4 c_1_4]; exact hsp.2.2.2.2 0 (by decide), hA, fun _ _ => rfl⟩
  by_cases c_1_5 : x = 5
  · refine g_tblIn C dX6_count_1 (by rw [c_1_5]; decide) (by rw [c_1_5]; decide) (off := 103) (by rw [c_1_5]; rfl) (t := 104) (by decide) ?_
    refine g_aload0 C dX6_count_104 (n := 105) rfl ?_
    refine kg_X6_21 C sh_0 rfl dX6_count_105 (n := 108) rfl ?_
    refine kg_X6_102 C sh_3 rfl dX6_count_108 (n := 111) rfl ?_
    refine g_iconst C ic_1 dX6_count_111 (n := 112) rfl ?_
    refine kc_X6_61 C (ct_X4_at SH M 6 3 1 _ row_6 rfl (by decide)) sh_6 ⟨Nat.le_of_ble_eq_true rfl, Nat.le_of_ble_eq_true rfl⟩ ⟨Nat.zero_le _, Nat.zero_le _⟩ (Nat.le_of_ble_eq_true rfl) dX6_count_112 (n := 115) rfl (fun r_112 M_112 h_112 => ?_)
    rw [h_112.1, h_112.2]
    refine r_I C dX6_count_115 ?_
    exact ⟨by rw [oc_5 c_1_5]; exact hsp.2.2.2.2 1 (by decide), hA, fun _ _ => rfl⟩
  by_cases c_1_6 : x = 6
  · refine g_tblIn C dX6_count_1 (by rw [c_1_6]; decide) (by rw [c_1_6]; decide) (off := 115) (by rw [c_1_6]; rfl) (t := 116) (by decide) ?_
    refine g_aload0 C dX6_count_116 (n := 117) rfl ?_
    refine kg_X6_21 C sh_0 rfl dX6_count_117 (n := 120) rfl ?_
    refine kg_X6_102 C sh_3 rfl dX6_count_120 (n := 123) rfl ?_
    refine g_iconst C ic_2 dX6_count_123 (n := 124) rfl ?_
    refine kc_X6_61 C (ct_X4_at SH M 6 3 2 _ row_6 rfl (by decide)) sh_6 ⟨Nat.le_of_ble_eq_true rfl, Nat.le_of_ble_eq_true rfl⟩ ⟨Nat.zero_le _, Nat.zero_le _⟩ (Nat.le_of_ble_eq_true rfl) dX6_count_124 (n := 127) rfl (fun r_124 M_124 h_124 => ?_)
    rw [h_124.1, h_124.2]
    refine r_I C dX6_count_127 ?_
    exact ⟨by rw [oc_6 c_1_6]; exact hsp.2.2.2.2 2 (by decide), hA, fun _ _ => rfl⟩
  by_cases c_1_7 : x = 7
  · refine g_tblIn C dX6_count_1 (by rw [c_1_7]; decide) (by rw [c_1_7]; decide) (off := 127) (by rw [c_1_7]; rfl) (t := 128) (by decide) ?_
    refine g_aload0 C dX6_count_128 (n := 129) rfl ?_
    refine kg_X6_46 C sh_0 rfl dX6_count_129 (n := 132) rfl ?_
    refine r_I C dX6_count_132 ?_
    exact ⟨by rw [oc_7 c_1_7]; exact hA.1, hA, fun _ _ => rfl⟩
  by_cases c_1_8 : x = 8
  · refine g_tblIn C dX6_count_1 (by rw [c_1_8]; decide) (by rw [c_1_8]; decide) (off := 132) (by rw [c_1_8]; rfl) (t := 133) (by decide) ?_
    refine g_aload0 C dX6_count_133 (n := 134) rfl ?_
    refine kg_X6_28 C sh_0 rfl dX6_count_134 (n := 137) rfl ?_
    refine kg_X6_114 C sh_8 rfl dX6_count_137 (n := 140) rfl ?_
    refine r_I C dX6_count_140 ?_
    exact ⟨by rw [oc_8 c_1_8]; exact hkp, hA, fun _ _ => rfl⟩
  by_cases c_1_9 : x = 9
  · refine g_tblIn C dX6_count_1 (by rw [c_1_9]; decide) (by rw [c_1_9]; decide) (off := 140) (by rw [c_1_9]; rfl) (t := 141) (by decide) ?_
    refine g_aload0 C dX6_count_141 (n := 142) rfl ?_
    refine kc_X6_121 C (ct_X6_freshReading M A hA hw) sh_0 ⟨Nat.le_of_ble_eq_true rfl, Nat.le_of_ble_eq_true rfl⟩ ⟨Nat.zero_le _, Nat.zero_le _⟩ (Nat.le_of_ble_eq_true rfl) dX6_count_142 (n := 145) rfl (fun r2 M2 h2 => ?_)
    rw [h2.1]
    obtain ⟨_, hA2, hR2, _, hf2⟩ := h2
    have hab : absC M2 A ∧ fr80 M M2 := ⟨hA2, fun a ha => hf2.1 a (by omega) (by omega)⟩
    refine kg_X6_183 C sh_40 rfl dX6_count_145 (n := 148) rfl ?_
    refine r_I C dX6_count_148 ?_
    exact ⟨by rw [oc_9 c_1_9]; exact hR2.2.2.2.2.2.1, hab⟩
  by_cases c_1_10 : x = 10
  · refine g_tblIn C dX6_count_1 (by rw [c_1_10]; decide) (by rw [c_1_10]; decide) (off := 148) (by rw [c_1_10]; rfl) (t := 149) (by decide) ?_
    refine g_aload0 C dX6_count_149 (n := 150) rfl ?_
    refine kc_X6_121 C (ct_X6_freshReading M A hA hw) sh_0 ⟨Nat.le_of_ble_eq_true rfl, Nat.le_of_ble_eq_true rfl⟩ ⟨Nat.zero_le _, Nat.zero_le _⟩ (Nat.le_of_ble_eq_true rfl) dX6_count_150 (n := 153) rfl (fun r2 M2 h2 => ?_)
    rw [h2.1]
    obtain ⟨_, hA2, hR2, _, hf2⟩ := h2
    have hab : absC M2 A ∧ fr80 M M2 := ⟨hA2, fun a ha => hf2.1 a (by omega) (by omega)⟩
    refine kg_X6_186 C sh_40 rfl dX6_count_153 (n := 156) rfl ?_
    refine kc_X6_189 C (ct_X0_depthOf SH M2 (rD A.2.2.1 (spn A.2.2.1)) (rU A.2.2.1 (spn A.2.2.1)) _ hR2.2.2.2.2.2.2 (rD_le _ _) (rU_lt _ _)) ⟨Nat.le_of_ble_eq_true rfl, Nat.le_of_ble_eq_true rfl⟩ ⟨Nat.zero_le _, Nat.zero_le _⟩ (Nat.le_of_ble_eq_true rfl) dX6_count_156 (n := 159) rfl (fun r_156 M_156 h_156 => ?_)
    rw [h_156.1, h_156.2]
    refine r_I C dX6_count_159 ?_
    exact ⟨by rw [oc_10 c_1_10], hab⟩
  refine g_tblOut C dX6_count_1 (sw_out_0_10 c_1_0 c_1_1 c_1_2 c_1_3 c_1_4 c_1_5 c_1_6 c_1_7 c_1_8 c_1_9 c_1_10) (t := 160) (by decide) ?_
  refine g_iconst C ic_m1 dX6_count_160 (n := 161) rfl ?_
  refine r_I C dX6_count_161 ?_
  exact ⟨by rw [oc_n c_1_0 c_1_1 c_1_2 c_1_3 c_1_4 c_1_5 c_1_6 c_1_7 c_1_8 c_1_9 c_1_10], hA, fun _ _ => rfl⟩
set_option maxHeartbeats 4000000 in
set_option maxRecDepth 100000 in
theorem ct_X6_retellSign {l : Launch} {D : va_G} {cI cO : ClassId} {z tP : Nat} {aK aV : Nat → Nat} (M : Mem) (S : Spt) (i t : Nat) (x y : Int32) (hR : RdOK M S) (hx : x = nI i) (hi : i < spn S) (hn : spn S ≤ 120) (hy : y = nI t) (ht : t < 4) : Cm l D cI cO z tP aK aV yX6_retellSign cX6_retellSign 5 none 2 43 [.ref (z + 0), .int x, .int y] SH M (pV (fun M1 => (M1 = M ∧ kd S i ≠ 3 ∧ kd S i ≠ 4 ∧ kd S i ≠ 5) ∨ (M1 = up2 M 5 i (spg (sRet S t) i)))) := by
  refine cm_intro (lv0 := [some (.ref (z + 0)), some (.int x), some (.int y), none, none]) (by decide) rfl (Nat.le_of_ble_eq_true rfl) rfl (fun p e s m below meth c C => ?_)
  have hkl := kd_lt S i
  have hp := hR.2.1 i hi
  have hlv : levS S i ≤ 6 := by
    have h1 := rD_le S i
    have h2 := dmy_le (spr S) (rD S i)
    unfold levS; split <;> omega
  refine g_aload0 C dX6_retellSign_0 (n := 1) rfl ?_
  refine kg_X6_35 C sh_0 rfl dX6_retellSign_1 (n := 4) rfl ?_
  refine kg_X6_125 C sh_40 rfl dX6_retellSign_4 (n := 7) rfl ?_
  refine g_iload1 C dX6_retellSign_7 (n := 8) rfl ?_
  refine kc_X6_61 C (ct_X4_at SH M 46 120 i _ row_46 hx (by omega)) sh_46 ⟨Nat.le_of_ble_eq_true rfl, Nat.le_of_ble_eq_true rfl⟩ ⟨Nat.zero_le _, Nat.zero_le _⟩ (Nat.le_of_ble_eq_true rfl) dX6_retellSign_8 (n := 11) rfl (fun r_8 M_8 h_8 => ?_)
  rw [h_8.2, h_8.1, show M (46 + 1) i = nI (kd S i) from hp.1]
  refine g_istore3 C dX6_retellSign_11 (n := 12) rfl ?_
  refine g_aload0 C dX6_retellSign_12 (n := 13) rfl ?_
  refine kg_X6_35 C sh_0 rfl dX6_retellSign_13 (n := 16) rfl ?_
  refine kg_X6_203 C sh_40 rfl dX6_retellSign_16 (n := 19) rfl ?_
  refine g_iload1 C dX6_retellSign_19 (n := 20) rfl ?_
  refine kc_X6_61 C (ct_X4_at SH M 52 120 i _ row_52 hx (by omega)) sh_52 ⟨Nat.le_of_ble_eq_true rfl, Nat.le_of_ble_eq_true rfl⟩ ⟨Nat.zero_le _, Nat.zero_le _⟩ (Nat.le_of_ble_eq_true rfl) dX6_retellSign_20 (n := 23) rfl (fun r_20 M_20 h_20 => ?_)
  rw [h_20.1, h_20.2]
  refine g_istore4 C dX6_retellSign_23 (n := 25) rfl ?_
  refine g_iload3 C dX6_retellSign_25 (n := 26) rfl ?_
  refine g_iconst C ic_3 dX6_retellSign_26 (n := 27) rfl ?_
  refine g_icmp_eq C dX6_retellSign_27 (t := 35) (by decide) (n := 30) rfl (fun c_27 => ?_) (fun c_27 => ?_)
  · have w27 : kd S i = 3 := (qeq (rfl : nI (kd S i) = _) (show (3 : Int32) = nI 3 from rfl) (by omega) (by decide)).mp c_27
    refine g_aload0 C dX6_retellSign_35 (n := 36) rfl ?_
    refine kg_X6_21 C sh_0 rfl dX6_retellSign_36 (n := 39) rfl ?_
    refine kg_X6_108 C sh_3 rfl dX6_retellSign_39 (n := 42) rfl ?_
    refine g_iload1 C dX6_retellSign_42 (n := 43) rfl ?_
    refine g_iload2 C dX6_retellSign_43 (n := 44) rfl ?_
    refine g_iload4 C dX6_retellSign_44 (n := 46) rfl ?_
    refine kc_X6_206 C (ct_X6_openerOf SH M t (levS S i) y _ hy (hp.2.2.2.2 (by omega)) ht (by omega)) ⟨Nat.le_of_ble_eq_true rfl, Nat.le_of_ble_eq_true rfl⟩ ⟨Nat.zero_le _, Nat.zero_le _⟩ (Nat.le_of_ble_eq_true rfl) dX6_retellSign_46 (n := 49) rfl (fun r_46 M_46 h_46 => ?_)
    rw [h_46.1, h_46.2]
    refine kc_X6_57 C (ct_X4_set SH M 4 120 i _ _ row_4 hx (by omega)) sh_4 ⟨Nat.le_of_ble_eq_true rfl, Nat.le_of_ble_eq_true rfl⟩ ⟨Nat.zero_le _, Nat.zero_le _⟩ (Nat.le_of_ble_eq_true rfl) dX6_retellSign_49 (n := 52) rfl (fun M2 e2 => ?_)
    have hfin : (M2 = M ∧ kd S i ≠ 3 ∧ kd S i ≠ 4 ∧ kd S i ≠ 5) ∨ (M2 = up2 M 5 i (spg (sRet S t) i)) := by
      right
      rw [e2]
      show _ = up2 M 5 i (if kd S i = 3 ∨ kd S i = 5 then _ else _)
      rw [if_pos (by omega)]
    refine g_goto C dX6_retellSign_52 (t := 77) (by decide) ?_
    refine r_V C dX6_retellSign_77 ?_
    first | exact hfin | exact Or.inl ⟨rfl, w27, w57, w32⟩
  · have w27 : ¬ kd S i = 3 := fun h => c_27 ((qeq (rfl : nI (kd S i) = _) (show (3 : Int32) = nI 3 from rfl) (by omega) (by decide)).mpr h)
    refine g_iload3 C dX6_retellSign_30 (n := 31) rfl ?_
    refine g_iconst C ic_5 dX6_retellSign_31 (n := 32) rfl ?_
    refine g_icmp_ne C dX6_retellSign_32 (t := 55) (by decide) (n := 35) rfl (fun c_32 => ?_) (fun c_32 => ?_)
    · have w32 : ¬ kd S i = 5 := fun h => c_32 ((qeq (rfl : nI (kd S i) = _) (show (5 : Int32) = nI 5 from rfl) (by omega) (by decide)).mpr h)
      refine g_iload3 C dX6_retellSign_55 (n := 56) rfl ?_
      refine g_iconst C ic_4 dX6_retellSign_56 (n := 57) rfl ?_
      refine g_icmp_ne C dX6_retellSign_57 (t := 77) (by decide) (n := 60) rfl (fun c_57 => ?_) (fun c_57 => ?_)
      · have w57 : ¬ kd S i = 4 := fun h => c_57 ((qeq (rfl : nI (kd S i) = _) (show (4 : Int32) = nI 4 from rfl) (by omega) (by decide)).mpr h)
        refine r_V C dX6_retellSign_77 ?_
        first | exact hfin | exact Or.inl ⟨rfl, w27, w57, w32⟩
      · have w57 : kd S i = 4 := (qeq (rfl : nI (kd S i) = _) (show (4 : Int32) = nI 4 from rfl) (by omega) (by decide)).mp c_57
        refine g_aload0 C dX6_retellSign_60 (n := 61) rfl ?_
        refine kg_X6_21 C sh_0 rfl dX6_retellSign_61 (n := 64) rfl ?_
        refine kg_X6_108 C sh_3 rfl dX6_retellSign_64 (n := 67) rfl ?_
        refine g_iload1 C dX6_retellSign_67 (n := 68) rfl ?_
        refine g_iload2 C dX6_retellSign_68 (n := 69) rfl ?_
        refine g_iload4 C dX6_retellSign_69 (n := 71) rfl ?_
        refine kc_X6_210 C (ct_X6_closerOf SH M t (levS S i) y _ hy (hp.2.2.2.2 (by omega)) ht (by omega) (by rw [lev_34 (by omega)]; exact kd4_pos w57)) ⟨Nat.le_of_ble_eq_true rfl, Nat.le_of_ble_eq_true rfl⟩ ⟨Nat.zero_le _, Nat.zero_le _⟩ (Nat.le_of_ble_eq_true rfl) dX6_retellSign_71 (n := 74) rfl (fun r_71 M_71 h_71 => ?_)
        rw [h_71.1, h_71.2]
        refine kc_X6_57 C (ct_X4_set SH M 4 120 i _ _ row_4 hx (by omega)) sh_4 ⟨Nat.le_of_ble_eq_true rfl, Nat.le_of_ble_eq_true rfl⟩ ⟨Nat.zero_le _, Nat.zero_le _⟩ (Nat.le_of_ble_eq_true rfl) dX6_retellSign_74 (n := 77) rfl (fun M2 e2 => ?_)
        have hfin : (M2 = M ∧ kd S i ≠ 3 ∧ kd S i ≠ 4 ∧ kd S i ≠ 5) ∨ (M2 = up2 M 5 i (spg (sRet S t) i)) := by
          right
          rw [e2]
          show _ = up2 M 5 i (if kd S i = 3 ∨ kd S i = 5 then _ else _)
          rw [if_neg (by omega), if_pos w57]
        refine r_V C dX6_retellSign_77 ?_
        first | exact hfin | exact Or.inl ⟨rfl, w27, w57, w32⟩
    · have w32 : kd S i = 5 := (qeq (rfl : nI (kd S i) = _) (show (5 : Int32) = nI 5 from rfl) (by omega) (by decide)).mp c_32
      refine g_aload0 C dX6_retellSign_35 (n := 36) rfl ?_
      refine kg_X6_21 C sh_0 rfl dX6_retellSign_36 (n := 39) rfl ?_
      refine kg_X6_108 C sh_3 rfl dX6_retellSign_39 (n := 42) rfl ?_
      refine g_iload1 C dX6_retellSign_42 (n := 43) rfl ?_
      refine g_iload2 C dX6_retellSign_43 (n := 44) rfl ?_
      refine g_iload4 C dX6_retellSign_44 (n := 46) rfl ?_
      refine kc_X6_206 C (ct_X6_openerOf SH M t (levS S i) y _ hy (hp.2.2.2.2 (by omega)) ht (by omega)) ⟨Nat.le_of_ble_eq_true rfl, Nat.le_of_ble_eq_true rfl⟩ ⟨Nat.zero_le _, Nat.zero_le _⟩ (Nat.le_of_ble_eq_true rfl) dX6_retellSign_46 (n := 49) rfl (fun r_46 M_46 h_46 => ?_)
      rw [h_46.1, h_46.2]
      refine kc_X6_57 C (ct_X4_set SH M 4 120 i _ _ row_4 hx (by omega)) sh_4 ⟨Nat.le_of_ble_eq_true rfl, Nat.le_of_ble_eq_true rfl⟩ ⟨Nat.zero_le _, Nat.zero_le _⟩ (Nat.le_of_ble_eq_true rfl) dX6_retellSign_49 (n := 52) rfl (fun M2 e2 => ?_)
      have hfin : (M2 = M ∧ kd S i ≠ 3 ∧ kd S i ≠ 4 ∧ kd S i ≠ 5) ∨ (M2 = up2 M 5 i (spg (sRet S t) i)) := by
        right
        rw [e2]
        show _ = up2 M 5 i (if kd S i = 3 ∨ kd S i = 5 then _ else _)
        rw [if_pos (by omega)]
      refine g_goto C dX6_retellSign_52 (t := 77) (by decide) ?_
      refine r_V C dX6_retellSign_77 ?_
      first | exact hfin | exact Or.inl ⟨rfl, w27, w57, w32⟩
