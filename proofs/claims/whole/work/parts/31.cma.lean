/-! what is asked of the least change: the class -/
def opLeast (A : Abs) : Int32 := nI (cS A.2.2.1 0 0 0)
def opChanges (A : Abs) (x : Int32) : Int32 := if x < 0 ∨ ¬ x < 3 then -1 else nI (mdC A.2.2.1 (tn x))
def opMended (A : Abs) (x : Int32) : Int32 := if x < -1 then -1 else if x = -1 then nI (mdS A.2.2.1).length else match (mdS A.2.2.1)[tn x]? with
  | none => -4
  | some q => q
def sMend (S : Spt) : Spt := ((mdS S).length, fun j => (mdS S).getD j 0, spt S, spr S, spw S)
def opMend (A : Abs) : Int32 × Abs := if (wlE A.2.2.1).length = 0 then (-2, A) else if 120 < (mdS A.2.2.1).length then (-3, A) else (nI (cS A.2.2.1 0 0 0), chg A (sMend A.2.2.1))
def opWould (A : Abs) (x y : Int32) : Int32 := if (x < 0 ∨ ¬ x < 4) ∨ (y < 0 ∨ ¬ y < 3) then -1 else nI (cS (sTR A.2.2.1 (tn x) (tn y)) 0 0 0)
abbrev frD (M M1 : Mem) : Prop := (∀ a, (a < 64 ∨ 80 ≤ a) → a ≠ 0 → M1 a = M a) ∧ ∀ j, j ≠ 7 → M1 0 j = M 0 j
theorem MC_gI {M : Mem} {S : Spt} (h : MC M S) (hs : wfS S) : gI M 65 := Or.inr ⟨_, _, hs.2.2.1, hs.2.2.2.1, h.2.2.2.2.1, h.2.2.2.2.2, h.2.2.2.1⟩
theorem absC_md {M M1 : Mem} {A : Abs} (hA : absC M A) (hg : gI M1 65) (h7 : M1 0 7 = 0 ∨ (M1 0 7 = 1 ∧ MdOK M1 A.2.2.1)) (hf : frD M M1) : absC M1 A := by
  obtain ⟨h1, h2, h3, h4, h5, h6, h8, h9⟩ := hA
  refine ⟨by rw [hf.2 1 (by omega)]; exact h1, fun j hj => by rw [hf.1 2 (by omega) (by omega)]; exact h2 j hj, spC_cong (hf.1 _ (by omega) (by omega)) (hf.1 _ (by omega) (by omega)) (hf.1 _ (by omega) (by omega)) h3, hsC_cong (fun a _ _ => hf.1 a (by omega) (by omega)) h4, gI_cong (hf.1 _ (by omega) (by omega)) (hf.1 _ (by omega) (by omega)) (hf.1 _ (by omega) (by omega)) h5, hg, ?_, h7⟩
  rw [hf.2 6 (by omega)]
  rcases h8 with h | ⟨h, h'⟩
  · exact Or.inl h
  · exact Or.inr ⟨h, RdOK_cong h' (fun a _ _ => hf.1 a (by omega) (by omega))⟩
theorem WY_md {M : Mem} {S : Spt} (hC : CT M 75 S 0) (hW : WY M (mst S 1200)) : MdOK M S :=
  ⟨hC 0 (Nat.le_refl _) (Nat.zero_le _) 0 (Nat.zero_le _) 0 (Nat.zero_le _), hW.2.2.1, hW.2.2.2.1, hW.2.2.2.2⟩
theorem spC_mend {M M1 : Mem} {S : Spt} {m : Nat} (h : spC M 3 S) (e : M1 = cpr (up2 M 3 1 (nI m)) 5 77 m) (hm : m = (mdS S).length) (hq : ∀ (j : Nat) q, (mdS S)[j]? = some q → M 77 j = q) : spC M1 3 (sMend S) := by
  obtain ⟨h1, h2, h3, h4, h5⟩ := h
  subst hm
  refine ⟨by rw [e]; simp [cpr, up2]; rfl, fun j hj => ?_, by rw [e]; simp [cpr, up2]; exact h3, by rw [e]; simp [cpr, up2]; exact h4, fun j hj => by rw [e]; simp [cpr, up2]; exact h5 j hj⟩
  have hj2 : j < (mdS S).length := hj
  have e2 : M1 5 j = M 77 j := by rw [e]; simp [cpr, up2]; intro h; omega
  show M1 5 j = (mdS S).getD j 0
  rw [e2, List.getD_eq_getElem?_getD, List.getElem?_eq_getElem hj2]
  exact hq j _ (List.getElem?_eq_getElem hj2)

set_option maxHeartbeats 4000000 in
set_option maxRecDepth 100000 in
theorem ct_X6_freshMending {l : Launch} {D : va_G} {cI cO : ClassId} {z tP : Nat} {aK aV : Nat → Nat} (M : Mem) (A : Abs) (hA : absC M A) (hw : wfA A) : Cm l D cI cO z tP aK aV yX6_freshMending cX6_freshMending 1 (some (.object "SpeechMarks$Mending")) 8 178 [.ref (z + 0)] SH M (pA (fun r M1 => r = z + 64 ∧ absC M1 A ∧ MdOK M1 A.2.2.1 ∧ frD M M1)) := by
  refine cm_intro (lv0 := [some (.ref (z + 0))]) (by decide) rfl (Nat.le_of_ble_eq_true rfl) rfl (fun p e s m below meth c C => ?_)
  have hwS := hw.2.1
  have hn120 := hwS.1
  have hsp := hA.2.2.1
  refine g_aload0 C dX6_freshMending_0 (n := 1) rfl ?_
  refine kg_X6_54 C sh_0 rfl dX6_freshMending_1 (n := 4) rfl ?_
  refine g_if_ne C dX6_freshMending_4 (t := 44) (by decide) (n := 7) rfl (fun c_4 => ?_) (fun c_4 => ?_)
  · have hfin : absC M A ∧ MdOK M A.2.2.1 ∧ frD M M := by
      rcases hA.2.2.2.2.2.2.2 with h | h
      · exact absurd h c_4
      · exact ⟨hA, h.2, fun _ _ _ => rfl, fun _ _ => rfl⟩
    refine g_aload0 C dX6_freshMending_44 (n := 45) rfl ?_
    refine kg_X6_42 C sh_0 rfl dX6_freshMending_45 (n := 48) rfl ?_
    refine r_A C dX6_freshMending_48 ?_
    exact ⟨rfl, hfin⟩
  · have _u := True.intro
    refine g_aload0 C dX6_freshMending_7 (n := 8) rfl ?_
    refine kg_X6_42 C sh_0 rfl dX6_freshMending_8 (n := 11) rfl ?_
    refine g_aload0 C dX6_freshMending_11 (n := 12) rfl ?_
    refine kg_X6_21 C sh_0 rfl dX6_freshMending_12 (n := 15) rfl ?_
    refine g_aload0 C dX6_freshMending_15 (n := 16) rfl ?_
    refine kg_X6_21 C sh_0 rfl dX6_freshMending_16 (n := 19) rfl ?_
    refine kg_X6_89 C sh_3 rfl dX6_freshMending_19 (n := 22) rfl ?_
    refine g_aload0 C dX6_freshMending_22 (n := 23) rfl ?_
    refine kg_X6_21 C sh_0 rfl dX6_freshMending_23 (n := 26) rfl ?_
    refine kg_X6_99 C sh_3 rfl dX6_freshMending_26 (n := 29) rfl ?_
    refine kc_X6_173 C (ct_X2_reckon M A.2.2.1 (spt A.2.2.1) (spr A.2.2.1) _ _ hsp hwS hA.2.2.2.2.2.1 hsp.2.2.1 hsp.2.2.2.1 hwS.2.2.1 hwS.2.2.2.1) sh_64 ⟨Nat.le_of_ble_eq_true rfl, Nat.le_of_ble_eq_true rfl⟩ ⟨Nat.zero_le _, Nat.zero_le _⟩ (Nat.le_of_ble_eq_true rfl) dX6_freshMending_29 (n := 32) rfl (fun M2 h2 => ?_)
    refine g_aload0 C dX6_freshMending_32 (n := 33) rfl ?_
    refine kg_X6_42 C sh_0 rfl dX6_freshMending_33 (n := 36) rfl ?_
    refine kc_X6_200 C (ct_X2_followLeastWay M2 A.2.2.1 h2.2.1 hwS h2.1) sh_64 ⟨Nat.le_of_ble_eq_true rfl, Nat.le_of_ble_eq_true rfl⟩ ⟨Nat.zero_le _, Nat.zero_le _⟩ (Nat.le_of_ble_eq_true rfl) dX6_freshMending_36 (n := 39) rfl (fun M3 h3 => ?_)
    refine g_aload0 C dX6_freshMending_39 (n := 40) rfl ?_
    refine g_iconst C ic_1 dX6_freshMending_40 (n := 41) rfl ?_
    refine kp_X6_54 C rfl rfl sh_0 rfl dX6_freshMending_41 (n := 44) rfl (fun M4 e4 => ?_)
    have f4 : ∀ a, a ≠ 0 → M4 a = M3 a := fun a ha => by rw [e4, up2_ne _ _ ha]
    have hf : frD M M4 := ⟨fun a h1 h0 => by rw [f4 a h0, h3.2.1 a (by omega) (by omega) (by omega)]; exact h2.2.2 a h1, fun j hj => by rw [e4]; simp [up2, hj]; rw [h3.2.1 0 (by omega) (by omega) (by omega), h2.2.2 0 (by omega)]⟩
    have h7 : M4 0 7 = 1 := by rw [e4, up2_at]
    have hMd : MdOK M4 A.2.2.1 := MdOK_cong (WY_md (CT_W h2.1 h3.2) h3.1) (fun a _ _ => f4 a (by omega))
    have hg : gI M4 65 := gI_cong (f4 _ (by omega)) (f4 _ (by omega)) (f4 _ (by omega)) (MC_gI (MC_W h2.2.1 h3.2) hwS)
    have hfin : absC M4 A ∧ MdOK M4 A.2.2.1 ∧ frD M M4 := ⟨absC_md hA hg (Or.inr ⟨h7, hMd⟩) hf, hMd, hf⟩
    refine g_aload0 C dX6_freshMending_44 (n := 45) rfl ?_
    refine kg_X6_42 C sh_0 rfl dX6_freshMending_45 (n := 48) rfl ?_
    refine r_A C dX6_freshMending_48 ?_
    exact ⟨rfl, hfin⟩
set_option maxHeartbeats 4000000 in
set_option maxRecDepth 100000 in
theorem ct_X6_least {l : Launch} {D : va_G} {cI cO : ClassId} {z tP : Nat} {aK aV : Nat → Nat} (M : Mem) (A : Abs) (hA : absC M A) (hw : wfA A) : Cm l D cI cO z tP aK aV yX6_least cX6_least 1 (some .int) 9 198 [.ref (z + 0)] SH M (pI (fun r M1 => r = opLeast A ∧ absC M1 A ∧ fr80 M M1)) := by
  refine cm_intro (lv0 := [some (.ref (z + 0))]) (by decide) rfl (Nat.le_of_ble_eq_true rfl) rfl (fun p e s m below meth c C => ?_)
  have hwS := hw.2.1
  have hn120 := hwS.1
  have hsp := hA.2.2.1
  refine g_aload0 C dX6_least_0 (n := 1) rfl ?_
  refine kc_X6_159 C (ct_X6_freshMending M A hA hw) sh_0 ⟨Nat.le_of_ble_eq_true rfl, Nat.le_of_ble_eq_true rfl⟩ ⟨Nat.zero_le _, Nat.zero_le _⟩ (Nat.le_of_ble_eq_true rfl) dX6_least_1 (n := 4) rfl (fun r2 M2 h2 => ?_)
  rw [h2.1]
  obtain ⟨_, hA2, hD2, hf2⟩ := h2
  have hab : absC M2 A ∧ fr80 M M2 := ⟨hA2, fun a ha => hf2.1 a (by omega) (by omega)⟩
  refine kc_X6_163 C (ct_X2_leastSum M2) sh_64 ⟨Nat.le_of_ble_eq_true rfl, Nat.le_of_ble_eq_true rfl⟩ ⟨Nat.zero_le _, Nat.zero_le _⟩ (Nat.le_of_ble_eq_true rfl) dX6_least_4 (n := 7) rfl (fun r_4 M_4 h_4 => ?_)
  rw [h_4.1, h_4.2]
  refine r_I C dX6_least_7 ?_
  exact ⟨hD2.1, hab⟩
set_option maxHeartbeats 4000000 in
set_option maxRecDepth 100000 in
theorem ct_X6_changes {l : Launch} {D : va_G} {cI cO : ClassId} {z tP : Nat} {aK aV : Nat → Nat} (M : Mem) (A : Abs) (x : Int32) (hA : absC M A) (hw : wfA A) : Cm l D cI cO z tP aK aV yX6_changes cX6_changes 2 (some .int) 9 198 [.ref (z + 0), .int x] SH M (pI (fun r M1 => r = opChanges A x ∧ absC M1 A ∧ fr80 M M1)) := by
  refine cm_intro (lv0 := [some (.ref (z + 0)), some (.int x)]) (by decide) rfl (Nat.le_of_ble_eq_true rfl) rfl (fun p e s m below meth c C => ?_)
  have hwS := hw.2.1
  have hn120 := hwS.1
  have hsp := hA.2.2.1
  refine g_iload1 C dX6_changes_0 (n := 1) rfl ?_
  refine g_iconst C ic_3 dX6_changes_1 (n := 2) rfl ?_
  refine kc_X6_95 C (ct_X6_isBelow SH M x 3) ⟨Nat.le_of_ble_eq_true rfl, Nat.le_of_ble_eq_true rfl⟩ ⟨Nat.zero_le _, Nat.zero_le _⟩ (Nat.le_of_ble_eq_true rfl) dX6_changes_2 (n := 5) rfl (fun r_2 M_2 h_2 => ?_)
  rw [h_2.1, h_2.2]
  refine g_if_eq C dX6_changes_5 (t := 22) (by decide) (n := 8) rfl (fun c_5 => ?_) (fun c_5 => ?_)
  · have hb := blw.mp c_5
    have hv : (-1 : Int32) = opChanges A x := (if_pos hb).symm
    have hab : absC M A ∧ fr80 M M := ⟨hA, fun _ _ => rfl⟩
    refine g_iconst C ic_m1 dX6_changes_22 (n := 23) rfl ?_
    refine r_I C dX6_changes_23 ?_
    exact ⟨hv, hab⟩
  · have hb := blw'.mp c_5
    have hno : ¬ (x < 0 ∨ ¬ x < 3) := fun h => h.elim hb.1 (fun q => q hb.2)
    obtain ⟨i0, hi3, hi⟩ := ix_of (n := 3) hb.1 hb.2 (by decide)
    refine g_aload0 C dX6_changes_8 (n := 9) rfl ?_
    refine kc_X6_159 C (ct_X6_freshMending M A hA hw) sh_0 ⟨Nat.le_of_ble_eq_true rfl, Nat.le_of_ble_eq_true rfl⟩ ⟨Nat.zero_le _, Nat.zero_le _⟩ (Nat.le_of_ble_eq_true rfl) dX6_changes_9 (n := 12) rfl (fun r2 M2 h2 => ?_)
    rw [h2.1]
    obtain ⟨_, hA2, hD2, hf2⟩ := h2
    have hab : absC M2 A ∧ fr80 M M2 := ⟨hA2, fun a ha => hf2.1 a (by omega) (by omega)⟩
    refine kg_X6_166 C sh_64 rfl dX6_changes_12 (n := 15) rfl ?_
    refine g_iload1 C dX6_changes_15 (n := 16) rfl ?_
    refine kc_X6_61 C (ct_X4_at SH M2 78 3 i0 _ row_78 hi hi3) sh_78 ⟨Nat.le_of_ble_eq_true rfl, Nat.le_of_ble_eq_true rfl⟩ ⟨Nat.zero_le _, Nat.zero_le _⟩ (Nat.le_of_ble_eq_true rfl) dX6_changes_16 (n := 19) rfl (fun r_16 M_16 h_16 => ?_)
    rw [h_16.2, h_16.1]
    have hv : M2 (78 + 1) i0 = opChanges A x := by unfold opChanges; rw [if_neg hno, hi, tn_nI (by omega)]; exact hD2.2.2.2 i0 hi3
    refine g_goto C dX6_changes_19 (t := 23) (by decide) ?_
    refine r_I C dX6_changes_23 ?_
    exact ⟨hv, hab⟩
set_option maxHeartbeats 4000000 in
set_option maxRecDepth 100000 in
theorem ct_X6_mended {l : Launch} {D : va_G} {cI cO : ClassId} {z tP : Nat} {aK aV : Nat → Nat} (M : Mem) (A : Abs) (x : Int32) (hA : absC M A) (hw : wfA A) : Cm l D cI cO z tP aK aV yX6_mended cX6_mended 2 (some .int) 9 198 [.ref (z + 0), .int x] SH M (pI (fun r M1 => r = opMended A x ∧ absC M1 A ∧ fr80 M M1)) := by
  refine cm_intro (lv0 := [some (.ref (z + 0)), some (.int x)]) (by decide) rfl (Nat.le_of_ble_eq_true rfl) rfl (fun p e s m below meth c C => ?_)
  have hwS := hw.2.1
  have hn120 := hwS.1
  have hsp := hA.2.2.1
  have hml := (mdS_ok hwS).1
  refine g_iload1 C dX6_mended_0 (n := 1) rfl ?_
  refine g_iconst C ic_m1 dX6_mended_1 (n := 2) rfl ?_
  refine g_icmp_ge C dX6_mended_2 (t := 7) (by decide) (n := 5) rfl (fun c_2 => ?_) (fun c_2 => ?_)
  · have _u := True.intro
    refine g_aload0 C dX6_mended_7 (n := 8) rfl ?_
    refine kc_X6_159 C (ct_X6_freshMending M A hA hw) sh_0 ⟨Nat.le_of_ble_eq_true rfl, Nat.le_of_ble_eq_true rfl⟩ ⟨Nat.zero_le _, Nat.zero_le _⟩ (Nat.le_of_ble_eq_true rfl) dX6_mended_8 (n := 11) rfl (fun r2 M2 h2 => ?_)
    rw [h2.1]
    obtain ⟨_, hA2, hD2, hf2⟩ := h2
    have hab : absC M2 A ∧ fr80 M M2 := ⟨hA2, fun a ha => hf2.1 a (by omega) (by omega)⟩
    refine kg_X6_169 C sh_64 rfl dX6_mended_11 (n := 14) rfl ?_
    refine g_aload0 C dX6_mended_14 (n := 15) rfl ?_
    refine kg_X6_42 C sh_0 rfl dX6_mended_15 (n := 18) rfl ?_
    refine kg_X6_172 C sh_64 rfl dX6_mended_18 (n := 21) rfl ?_
    refine g_iconst C ic_1 dX6_mended_21 (n := 22) rfl ?_
    refine g_iload1 C dX6_mended_22 (n := 23) rfl ?_
    refine g_iconst C ic_0 dX6_mended_23 (n := 24) rfl ?_
    refine kc_X6_140 C (ct_X6_fact M2 76 1200 (mdS A.2.2.1).length 1 0 _ _ x 0 row_76 hD2.2.1 rfl c_2 nI_0.symm (by omega) (fun q hq => by omega)) ⟨Nat.le_of_ble_eq_true rfl, Nat.le_of_ble_eq_true rfl⟩ ⟨Nat.zero_le _, Nat.zero_le _⟩ (Nat.le_of_ble_eq_true rfl) dX6_mended_24 (n := 27) rfl (fun r3 M3 h3 => ?_)
    rw [h3.2]
    replace h3 := h3.1
    refine r_I C dX6_mended_27 ?_
    refine ⟨?_, hab⟩
    unfold opMended; rw [if_neg c_2]
    rcases h3 with ⟨h, e⟩ | ⟨q, hq, hxq, ⟨h, e⟩ | ⟨h, e⟩⟩
    · rw [if_pos h]; exact e
    · rw [if_neg (fun w => by rw [hxq] at w; exact nI_neg hq (by decide) w), hxq, tn_nI hq, List.getElem?_eq_getElem h, e, show 1 * q + 0 = q by omega]
      exact hD2.2.2.1 q _ (List.getElem?_eq_getElem h)
    · rw [if_neg (fun w => by rw [hxq] at w; exact nI_neg hq (by decide) w), hxq, tn_nI hq, List.getElem?_eq_none h]; exact e
  · have _u := True.intro
    refine g_iconst C ic_m1 dX6_mended_5 (n := 6) rfl ?_
    refine r_I C dX6_mended_6 ?_
    exact ⟨(if_pos c_2).symm, hA, fun _ _ => rfl⟩
set_option maxHeartbeats 4000000 in
set_option maxRecDepth 100000 in
theorem ct_X6_mend {l : Launch} {D : va_G} {cI cO : ClassId} {z tP : Nat} {aK aV : Nat → Nat} (M : Mem) (A : Abs) (hA : absC M A) (hw : wfA A) : Cm l D cI cO z tP aK aV yX6_mend cX6_mend 2 (some .int) 9 198 [.ref (z + 0)] SH M (pI (fun r M1 => r = (opMend A).1 ∧ absC M1 (opMend A).2 ∧ fr80 M M1)) := by
  refine cm_intro (lv0 := [some (.ref (z + 0)), none]) (by decide) rfl (Nat.le_of_ble_eq_true rfl) rfl (fun p e s m below meth c C => ?_)
  have hwS := hw.2.1
  have hn120 := hwS.1
  have hsp := hA.2.2.1
  have hml := (mdS_ok hwS).1
  have hwl := wlE_len hn120
  refine g_aload0 C dX6_mend_0 (n := 1) rfl ?_
  refine kc_X6_121 C (ct_X6_freshReading M A hA hw) sh_0 ⟨Nat.le_of_ble_eq_true rfl, Nat.le_of_ble_eq_true rfl⟩ ⟨Nat.zero_le _, Nat.zero_le _⟩ (Nat.le_of_ble_eq_true rfl) dX6_mend_1 (n := 4) rfl (fun r1 M1 h1 => ?_)
  rw [h1.1]
  obtain ⟨_, hA1, hR1, _, hf1⟩ := h1
  have hab1 : absC M1 A ∧ fr80 M M1 := ⟨hA1, fun a ha => hf1.1 a (by omega) (by omega)⟩
  refine kg_X6_137 C sh_40 rfl dX6_mend_4 (n := 7) rfl ?_
  refine g_if_ne C dX6_mend_7 (t := 13) (by decide) (n := 10) rfl (fun c_7 => ?_) (fun c_7 => ?_)
  · have hz : ¬ (wlE A.2.2.1).length = 0 := fun h => c_7 (by rw [hR1.1.1, h]; rfl)
    refine g_aload0 C dX6_mend_13 (n := 14) rfl ?_
    refine kc_X6_159 C (ct_X6_freshMending M1 A hA1 hw) sh_0 ⟨Nat.le_of_ble_eq_true rfl, Nat.le_of_ble_eq_true rfl⟩ ⟨Nat.zero_le _, Nat.zero_le _⟩ (Nat.le_of_ble_eq_true rfl) dX6_mend_14 (n := 17) rfl (fun r2 M2 h2 => ?_)
    rw [h2.1]
    obtain ⟨_, hA2, hD2, hf2⟩ := h2
    have hab : absC M2 A ∧ fr80 M1 M2 := ⟨hA2, fun a ha => hf2.1 a (by omega) (by omega)⟩
    refine kc_X6_163 C (ct_X2_leastSum M2) sh_64 ⟨Nat.le_of_ble_eq_true rfl, Nat.le_of_ble_eq_true rfl⟩ ⟨Nat.zero_le _, Nat.zero_le _⟩ (Nat.le_of_ble_eq_true rfl) dX6_mend_17 (n := 20) rfl (fun r_17 M_17 h_17 => ?_)
    rw [h_17.1, h_17.2, show M2 75 0 = nI (cS A.2.2.1 0 0 0) from hD2.1]
    refine g_istore1 C dX6_mend_20 (n := 21) rfl ?_
    refine g_aload0 C dX6_mend_21 (n := 22) rfl ?_
    refine kg_X6_42 C sh_0 rfl dX6_mend_22 (n := 25) rfl ?_
    refine kg_X6_172 C sh_64 rfl dX6_mend_25 (n := 28) rfl ?_
    refine g_bipush C bp_120 dX6_mend_28 (n := 30) rfl ?_
    refine g_icmp_le C dX6_mend_30 (t := 36) (by decide) (n := 33) rfl (fun c_30 => ?_) (fun c_30 => ?_)
    · have hlt : ¬ 120 < (mdS A.2.2.1).length := fun h => c_30 ((qlt (show (120 : Int32) = nI 120 from rfl) hD2.2.1 (by decide) (by omega)).mpr h)
      refine g_aload0 C dX6_mend_36 (n := 37) rfl ?_
      refine kc_X6_92 C (ct2_X6_beginChange M2 A hA2 hw) sh_0 ⟨Nat.le_of_ble_eq_true rfl, Nat.le_of_ble_eq_true rfl⟩ ⟨Nat.zero_le _, Nat.zero_le _⟩ (Nat.le_of_ble_eq_true rfl) dX6_mend_37 (n := 40) rfl (fun M3 h3 => ?_)
      refine g_aload0 C dX6_mend_40 (n := 41) rfl ?_
      refine kg_X6_21 C sh_0 rfl dX6_mend_41 (n := 44) rfl ?_
      refine g_aload0 C dX6_mend_44 (n := 45) rfl ?_
      refine kg_X6_42 C sh_0 rfl dX6_mend_45 (n := 48) rfl ?_
      refine kg_X6_169 C sh_64 rfl dX6_mend_48 (n := 51) rfl ?_
      refine g_aload0 C dX6_mend_51 (n := 52) rfl ?_
      refine kg_X6_42 C sh_0 rfl dX6_mend_52 (n := 55) rfl ?_
      refine kg_X6_172 C sh_64 rfl dX6_mend_55 (n := 58) rfl ?_
      refine kc_X6_73 C (ct_X5_replaceBy SH M3 3 76 1200 (mdS A.2.2.1).length _ speech_3 row_76 (by rw [h3.2.2 64 (by omega)]; exact hD2.2.1) (by omega) hml (by decide) (by decide)) sh_3 ⟨Nat.le_of_ble_eq_true rfl, Nat.le_of_ble_eq_true rfl⟩ ⟨Nat.zero_le _, Nat.zero_le _⟩ (Nat.le_of_ble_eq_true rfl) dX6_mend_58 (n := 61) rfl (fun M4 e4 => ?_)
      refine g_iload1 C dX6_mend_61 (n := 62) rfl ?_
      refine r_I C dX6_mend_62 ?_
      rw [show opMend A = (nI (cS A.2.2.1 0 0 0), chg A (sMend A.2.2.1)) by unfold opMend; rw [if_neg hz, if_neg hlt]]
      have f4 : ∀ a, a ≠ 3 → a ≠ 5 → M4 a = M3 a := fun a a1 a2 => by rw [e4]; funext j; simp [cpr, up2, a1, a2]
      have hS4 : spC M4 3 (sMend A.2.2.1) := spC_mend h3.1.1.2.2.1 e4 rfl (fun j q hq => by rw [h3.2.2 77 (by omega)]; exact hD2.2.2.1 j q hq)
      exact ⟨rfl, (absF_sp h3.1 hS4 (fun a a1 a2 _ => f4 a a1 a2)).1, fun a ha => by rw [f4 a (by omega) (by omega), h3.2.1 a ha, hab.2 a ha]; exact hab1.2 a ha⟩
    · have hlt : 120 < (mdS A.2.2.1).length := (qlt (show (120 : Int32) = nI 120 from rfl) hD2.2.1 (by decide) (by omega)).mp c_30
      refine g_bipush C bp_m3 dX6_mend_33 (n := 35) rfl ?_
      refine r_I C dX6_mend_35 ?_
      rw [show opMend A = (-3, A) by unfold opMend; rw [if_neg hz, if_pos hlt]]
      exact ⟨rfl, hA2, fun a ha => by rw [hab.2 a ha]; exact hab1.2 a ha⟩
  · have hz : (wlE A.2.2.1).length = 0 := (qeq hR1.1.1 nI_0.symm (by omega) (by decide)).mp c_7
    refine g_bipush C bp_m2 dX6_mend_10 (n := 12) rfl ?_
    refine r_I C dX6_mend_12 ?_
    rw [show opMend A = (-2, A) from if_pos hz]
    exact ⟨rfl, hab1⟩
set_option maxHeartbeats 4000000 in
set_option maxRecDepth 100000 in
theorem ct_X6_would {l : Launch} {D : va_G} {cI cO : ClassId} {z tP : Nat} {aK aV : Nat → Nat} (M : Mem) (A : Abs) (x y : Int32) (hA : absC M A) (hw : wfA A) : Cm l D cI cO z tP aK aV yX6_would cX6_would 3 (some .int) 8 178 [.ref (z + 0), .int x, .int y] SH M (pI (fun r M1 => r = opWould A x y ∧ absC M1 A ∧ fr80 M M1)) := by
  refine cm_intro (lv0 := [some (.ref (z + 0)), some (.int x), some (.int y)]) (by decide) rfl (Nat.le_of_ble_eq_true rfl) rfl (fun p e s m below meth c C => ?_)
  have hwS := hw.2.1
  have hn120 := hwS.1
  have hsp := hA.2.2.1
  refine g_iload1 C dX6_would_0 (n := 1) rfl ?_
  refine g_iconst C ic_4 dX6_would_1 (n := 2) rfl ?_
  refine kc_X6_95 C (ct_X6_isBelow SH M x 4) ⟨Nat.le_of_ble_eq_true rfl, Nat.le_of_ble_eq_true rfl⟩ ⟨Nat.zero_le _, Nat.zero_le _⟩ (Nat.le_of_ble_eq_true rfl) dX6_would_2 (n := 5) rfl (fun r_2 M_2 h_2 => ?_)
  rw [h_2.1, h_2.2]
  refine g_if_eq C dX6_would_5 (t := 16) (by decide) (n := 8) rfl (fun c_5 => ?_) (fun c_5 => ?_)
  · have hbad : (x < 0 ∨ ¬ x < 4) ∨ (y < 0 ∨ ¬ y < 3) := Or.inl (blw.mp c_5)
    refine g_iconst C ic_m1 dX6_would_16 (n := 17) rfl ?_
    refine r_I C dX6_would_17 ?_
    exact ⟨(if_pos hbad).symm, hA, fun _ _ => rfl⟩
  · have hb := blw'.mp c_5
    obtain ⟨t, ht, hxt⟩ := ix_of (n := 4) hb.1 hb.2 (by decide)
    refine g_iload2 C dX6_would_8 (n := 9) rfl ?_
    refine g_iconst C ic_3 dX6_would_9 (n := 10) rfl ?_
    refine kc_X6_95 C (ct_X6_isBelow SH M y 3) ⟨Nat.le_of_ble_eq_true rfl, Nat.le_of_ble_eq_true rfl⟩ ⟨Nat.zero_le _, Nat.zero_le _⟩ (Nat.le_of_ble_eq_true rfl) dX6_would_10 (n := 13) rfl (fun r_10 M_10 h_10 => ?_)
    rw [h_10.1, h_10.2]
    refine g_if_ne C dX6_would_13 (t := 18) (by decide) (n := 16) rfl (fun c_13 => ?_) (fun c_13 => ?_)
    · have hb2 := blw'.mp c_13
      obtain ⟨r0, hr, hyr⟩ := ix_of (n := 3) hb2.1 hb2.2 (by decide)
      have hno : ¬ ((x < 0 ∨ ¬ x < 4) ∨ (y < 0 ∨ ¬ y < 3)) := by
        rintro ((h | h) | (h | h))
        · exact hb.1 h
        · exact h hb.2
        · exact hb2.1 h
        · exact h hb2.2
      refine g_aload0 C dX6_would_18 (n := 19) rfl ?_
      refine kg_X6_42 C sh_0 rfl dX6_would_19 (n := 22) rfl ?_
      refine g_aload0 C dX6_would_22 (n := 23) rfl ?_
      refine kg_X6_21 C sh_0 rfl dX6_would_23 (n := 26) rfl ?_
      refine g_iload1 C dX6_would_26 (n := 27) rfl ?_
      refine g_iload2 C dX6_would_27 (n := 28) rfl ?_
      refine kc_X6_173 C (ct_X2_reckon M A.2.2.1 t r0 _ _ hsp hwS hA.2.2.2.2.2.1 hxt hyr ht hr) sh_64 ⟨Nat.le_of_ble_eq_true rfl, Nat.le_of_ble_eq_true rfl⟩ ⟨Nat.zero_le _, Nat.zero_le _⟩ (Nat.le_of_ble_eq_true rfl) dX6_would_28 (n := 31) rfl (fun M2 h2 => ?_)
      refine g_aload0 C dX6_would_31 (n := 32) rfl ?_
      refine g_iconst C ic_0 dX6_would_32 (n := 33) rfl ?_
      refine kp_X6_54 C rfl rfl sh_0 rfl dX6_would_33 (n := 36) rfl (fun M3 e3 => ?_)
      refine g_aload0 C dX6_would_36 (n := 37) rfl ?_
      refine kg_X6_42 C sh_0 rfl dX6_would_37 (n := 40) rfl ?_
      refine kc_X6_163 C (ct_X2_leastSum M3) sh_64 ⟨Nat.le_of_ble_eq_true rfl, Nat.le_of_ble_eq_true rfl⟩ ⟨Nat.zero_le _, Nat.zero_le _⟩ (Nat.le_of_ble_eq_true rfl) dX6_would_40 (n := 43) rfl (fun r_40 M_40 h_40 => ?_)
      rw [h_40.1, h_40.2]
      refine r_I C dX6_would_43 ?_
      have f3 : ∀ a, a ≠ 0 → M3 a = M2 a := fun a ha => by rw [e3, up2_ne _ _ ha]
      have hf : frD M M3 := ⟨fun a h1 h0 => by rw [f3 a h0]; exact h2.2.2 a h1, fun j hj => by rw [e3]; simp [up2, hj]; rw [h2.2.2 0 (by omega)]⟩
      have hg : gI M3 65 := gI_cong (f3 _ (by omega)) (f3 _ (by omega)) (f3 _ (by omega)) (MC_gI h2.2.1 (sTR_wf hwS ht hr))
      refine ⟨?_, absC_md hA hg (Or.inl (by rw [e3, up2_at])) hf, fun a ha => hf.1 a (by omega) (by omega)⟩
      unfold opWould; rw [if_neg hno, hxt, hyr, tn_nI (by omega), tn_nI (by omega), f3 75 (by omega)]
      exact h2.1 0 (Nat.le_refl _) (Nat.zero_le _) 0 (Nat.zero_le _) 0 (Nat.zero_le _)
    · have hbad : (x < 0 ∨ ¬ x < 4) ∨ (y < 0 ∨ ¬ y < 3) := Or.inr (blw.mp c_13)
      refine g_iconst C ic_m1 dX6_would_16 (n := 17) rfl ?_
      refine r_I C dX6_would_17 ?_
      exact ⟨(if_pos hbad).symm, hA, fun _ _ => rfl⟩
