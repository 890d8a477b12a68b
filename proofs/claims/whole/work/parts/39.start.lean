/-! what holds at the law's entry -/
def tmS (i : Nat) : Term := .string RX6 (strIdx.getD i 0)
def flS : List Cond := flatC (Jvm.Cond.and given_1 narrow_1)
theorem fl_ex : ∀ i, i < 5 → Cond.exactly (tmS i) "java/lang/String" ∈ flS := by decide +kernel
theorem fl_co : ∀ i, i < 5 → Cond.eq (.field (tmS i) "java/lang/String" "coder" "B") (.int 0) ∈ flS := by decide +kernel
theorem fl_ar : ∀ i, i < 5 → Cond.arrayOf (.field (tmS i) "java/lang/String" "value" "[B") .byte ∈ flS := by decide +kernel
theorem fl_le : ∀ i, i < 5 → Cond.eq (.length (.field (tmS i) "java/lang/String" "value" "[B")) (.int (Int32.ofNat (strLen.getD i 0))) ∈ flS := by decide +kernel
theorem fl_el : ∀ i, i < 5 → ∀ j, j < strLen.getD i 0 → Cond.eq (.elem (.field (tmS i) "java/lang/String" "value" "[B") (.int (Int32.ofNat j))) (.int ((strByt.getD i []).getD j 0)) ∈ flS := by decide +kernel
theorem fl_ne : ∀ i, i < 5 → ∀ j, j < 5 → i ≠ j → Cond.not (Cond.eq (tmS i) (tmS j)) ∈ flS ∨ Cond.not (Cond.eq (tmS j) (tmS i)) ∈ flS := by decide +kernel
theorem fl_pa : Cond.arrayOf (.static RX6 "PAIRS" "[C") .char ∈ flS := by decide +kernel
theorem fl_pl : Cond.eq (.length (.static RX6 "PAIRS" "[C")) (.int (Int32.ofNat 16)) ∈ flS := by decide +kernel
theorem fl_pe : ∀ j, j < 16 → Cond.eq (.elem (.static RX6 "PAIRS" "[C") (.int (Int32.ofNat j))) (.int (pairsL.getD j 0)) ∈ flS := by decide +kernel
theorem fl_cs : Cond.eq (.static RJ0 "COMPACT_STRINGS" "Z") (.int 1) ∈ flS := by decide +kernel
theorem fl_si : Cond.isRef (.static RJ3 "SIOOBE_FORMATTER" "Ljava/util/function/BiFunction;") ∈ flS := by decide +kernel
theorem tb_ao : Cond.arrayOver (.object RX5) ∈ lw_tbl := List.mem_of_getElem? (i := 131) (by decide +kernel)
theorem tb_pp : Cond.laysStatic RX6 "PAIRS" "[C" ∈ lw_tbl := List.mem_of_getElem? (i := 519) (by decide +kernel)
theorem tb_cs : Cond.laysStatic RJ0 "COMPACT_STRINGS" "Z" ∈ lw_tbl := List.mem_of_getElem? (i := 340) (by decide +kernel)
theorem tb_si : Cond.laysStatic RJ3 "SIOOBE_FORMATTER" "Ljava/util/function/BiFunction;" ∈ lw_tbl := List.mem_of_getElem? (i := 356) (by decide +kernel)
theorem tb_s0 : Cond.stringRef RX6 (strIdx.getD 0 0) (strTx.getD 0 "") ∈ lw_tbl := List.mem_of_getElem? (i := 330) (by decide +kernel)
theorem tb_s1 : Cond.stringRef RX6 (strIdx.getD 1 0) (strTx.getD 1 "") ∈ lw_tbl := List.mem_of_getElem? (i := 417) (by decide +kernel)
theorem tb_s2 : Cond.stringRef RX6 (strIdx.getD 2 0) (strTx.getD 2 "") ∈ lw_tbl := List.mem_of_getElem? (i := 418) (by decide +kernel)
theorem tb_s3 : Cond.stringRef RX6 (strIdx.getD 3 0) (strTx.getD 3 "") ∈ lw_tbl := List.mem_of_getElem? (i := 419) (by decide +kernel)
theorem tb_s4 : Cond.stringRef RX6 (strIdx.getD 4 0) (strTx.getD 4 "") ∈ lw_tbl := List.mem_of_getElem? (i := 420) (by decide +kernel)
theorem inv_start {s : State} {args : Array Value} (hts : ∀ w ∈ lw_tbl, w.before args s = true) (hgv : (Jvm.Cond.and given_1 narrow_1).before args s = true) : ∃ (D : va_G) (cI cO : ClassId) (tP : Nat) (aK aV : Nat → Nat), Inv D cI cO s.heap.size tP aK aV s s.heap := by
  have hs : ∀ w ∈ flS, w.before args s = true := flat_of_before _ hgv
  have hA : ∀ a : Nat, a < s.heap.size → ¬ AA s.heap.size a := fun a h => Nat.not_le.mpr h
  have hg : ∀ w ∈ gtbl, w.before args s = true := fun w hw => hts w (List.mem_filter.mp hw).1
  obtain ⟨c0, i0, k0⟩ := u_known hg gin_X0 (hg _ wis_X0)
  obtain ⟨c1, i1, k1⟩ := u_known hg gin_X1 (hg _ wis_X1)
  obtain ⟨c2, i2, k2⟩ := u_known hg gin_X2 (hg _ wis_X2)
  obtain ⟨c3, i3, k3⟩ := u_known hg gin_X3 (hg _ wis_X3)
  obtain ⟨c4, i4, k4⟩ := u_known hg gin_X4 (hg _ wis_X4)
  obtain ⟨c5, i5, k5⟩ := u_known hg gin_X5 (hg _ wis_X5)
  obtain ⟨c6, i6, k6⟩ := u_known hg gin_X6 (hg _ wis_X6)
  obtain ⟨c7, i7, k7⟩ := u_known hg gin_X7 (hg _ wis_X7)
  obtain ⟨cI, kI, cmI, fI, eI, hI⟩ := Cond.arrayClass_spec (hg _ wai)
  obtain ⟨comp, cO, kO, f1, f2, f3, f4, f5⟩ := Cond.arrayOver_spec (hts _ tb_ao)
  obtain ⟨adK, adV, hS, hev⟩ := vk_Sof (N := 5) (tm := tmS) (len := strLen) (byt := strByt) (A := AA s.heap.size) (by decide) (fun i hi => hs _ (fl_ex i hi)) (fun i hi => hs _ (fl_co i hi)) (fun i hi => hs _ (fl_ar i hi)) (fun i hi => hs _ (fl_le i hi)) (fun i hi j hj => hs _ (fl_el i hi j hj)) (fun i j hi hj hij => (fl_ne i hi j hj hij).imp (hs _) (hs _)) hA
  obtain ⟨tP, htP, hT⟩ := va_Tof (tm := .static RX6 "PAIRS" "[C") (ty := .char) (N := 16) (f := fun j => .int (pairsL.getD j 0)) (A := AA s.heap.size) (by decide) (hs _ fl_pa) (va_eqt (hs _ fl_pl)) (fun j hj => va_eqt (hs _ (fl_pe j hj))) hA
  refine ⟨(fun c => match c with | 0 => c0 | 1 => c1 | 2 => c2 | 3 => c3 | 4 => c4 | 5 => c5 | 6 => c6 | _ => c7, fun c => match c with | 0 => i0 | 1 => i1 | 2 => i2 | 3 => i3 | 4 => i4 | 5 => i5 | 6 => i6 | _ => i7), cI, cO, tP, adK, adV, ⟨?_, ?_⟩, ?_, hts _ tb_ao, ⟨va_Zof (hts _ tb_pp) (hg _ wi_X6) htP hA, hT⟩, hS, ?_, va_Zof (hts _ tb_cs) (hg _ wi_J0) (va_eqt (hs _ fl_cs)) hA, va_Zqof (hts _ tb_si) (hg _ wi_J3) (hs _ fl_si) hA⟩
  · intro c q hq
    match c, hq with
    | 0, hq =>
      obtain rfl : (RX0, TX0, 4) = q := Option.some.inj hq
      exact k0
    | 1, hq =>
      obtain rfl : (RX1, TX1, 3) = q := Option.some.inj hq
      exact k1
    | 2, hq =>
      obtain rfl : (RX2, TX2, 10) = q := Option.some.inj hq
      exact k2
    | 3, hq =>
      obtain rfl : (RX3, TX3, 15) = q := Option.some.inj hq
      exact k3
    | 4, hq =>
      obtain rfl : (RX4, TX4, 1) = q := Option.some.inj hq
      exact k4
    | 5, hq =>
      obtain rfl : (RX5, TX5, 5) = q := Option.some.inj hq
      exact k5
    | 6, hq =>
      obtain rfl : (RX6, TX6, 8) = q := Option.some.inj hq
      exact k6
    | 7, hq =>
      obtain rfl : (RX7, TX7, 17) = q := Option.some.inj hq
      exact k7
    | c + 8, hq => exact absurd hq (by rw [List.getElem?_eq_none (by simp)]; exact fun h => nomatch h)
  · intro k q hq
    match k, hq with
    | 0, hq =>
      obtain rfl : (cI, FieldType.int) = q := Option.some.inj hq
      exact ⟨fun n z => ⟨fun k h => (by cases h), kI, eI, cmI, hI⟩, fI⟩
    | 1, hq =>
      obtain rfl : (cO, FieldType.object RX5) = q := Option.some.inj hq
      exact ⟨fun n z => ⟨fun k h => (by cases h), kO, f3, comp, f4⟩, kO, comp, f3, f4, f1, f5⟩
    | k + 2, hq => exact absurd hq (by rw [List.getElem?_eq_none (by simp)]; exact fun h => nomatch h)
  · intro w hw
    have h1 := List.mem_filter.mp hw
    have h2 := hts w h1.1
    have h3 := h1.2
    cases w <;> first | exact va_Nw.of rfl h2 | exact absurd h3 (by simp [isNest])
  · intro i hi
    match i, hi with
    | 0, _ => exact vk_R.of (hts _ tb_s0) (hev 0 (by decide))
    | 1, _ => exact vk_R.of (hts _ tb_s1) (hev 1 (by decide))
    | 2, _ => exact vk_R.of (hts _ tb_s2) (hev 2 (by decide))
    | 3, _ => exact vk_R.of (hts _ tb_s3) (hev 3 (by decide))
    | 4, _ => exact vk_R.of (hts _ tb_s4) (hev 4 (by decide))
    | i + 5, h => exact absurd h (by omega)
/-! what one side does leaves the other's -/
theorem absR_fr {M M1 : Mem} {A : Abs} (h : absR M A) (f : fr80 M M1) : absR M1 A := by
  obtain ⟨h1, h2, h3, h4, h5⟩ := h
  refine ⟨by rw [f 80 (by omega)]; exact h1, fun j hj => by rw [f 81 (by omega)]; exact h2 j hj, by rw [f 82 (by omega)]; exact h3, by rw [f 80 (by omega)]; exact h4, fun i S hi => by rw [f 83 (by omega)]; exact h5 i S hi⟩
theorem absC_fr {M M1 : Mem} {A : Abs} (h : absC M A) (f : fr79 M M1) : absC M1 A := by
  obtain ⟨h1, h2, h3, h4, h5, h6, h7, h8⟩ := h
  refine ⟨by rw [f 0 (by omega)]; exact h1, fun j hj => by rw [f 2 (by omega)]; exact h2 j hj, spC_cong (f _ (by omega)) (f _ (by omega)) (f _ (by omega)) h3, hsC_cong (fun a _ _ => f a (by omega)) h4, gI_cong (f _ (by omega)) (f _ (by omega)) (f _ (by omega)) h5, gI_cong (f _ (by omega)) (f _ (by omega)) (f _ (by omega)) h6, ?_, ?_⟩
  · rw [f 0 (by omega)]
    rcases h7 with h | ⟨h, h'⟩
    · exact Or.inl h
    · exact Or.inr ⟨h, RdOK_cong h' (fun a _ _ => f a (by omega))⟩
  · rw [f 0 (by omega)]
    rcases h8 with h | ⟨h, h'⟩
    · exact Or.inl h
    · exact Or.inr ⟨h, MdOK_cong h' (fun a _ _ => f a (by omega))⟩
/-! the start -/
def A0 : Abs := (0, fun _ => 0, (0, fun _ => 0, 0, 1, fun _ => 1), [])
def M0 : Mem := moM (smM (fun _ _ => 0) 0) 80
theorem wf_A0 : wfA A0 := ⟨by decide, ⟨by decide, fun j hj => absurd hj (Nat.not_lt_zero _), by decide, by decide, fun j _ => ⟨Nat.le_refl 1, (by decide : (1 : Nat) ≤ 9)⟩⟩, by decide, fun S hS => absurd hS List.not_mem_nil, fun j hj => absurd hj (Nat.not_lt_zero _)⟩
theorem absC_0 : absC M0 A0 := by
  refine ⟨by decide, fun j hj => absurd hj (Nat.not_lt_zero _), ⟨by decide, fun j hj => absurd hj (Nat.not_lt_zero _), by decide, by decide, ?_⟩, ⟨0, by decide, by decide, by decide, fun i S h => absurd h (by simp [A0])⟩, Or.inl (by decide), Or.inl (by decide), Or.inl (by decide), Or.inl (by decide)⟩
  exact (by decide : ∀ j, j < 3 → M0 7 j = nI 1)
theorem absR_0 : absR M0 A0 := by
  refine ⟨by decide, fun j hj => absurd hj (Nat.not_lt_zero _), ⟨by decide, fun j hj => absurd hj (Nat.not_lt_zero _), by decide, by decide, ?_⟩, by decide, fun i S h => absurd h (by simp [A0])⟩
  exact (by decide : ∀ j, j < 3 → M0 82 (123 + j) = nI 1)
/-! the script -/
section SC
variable {p : Program} {l : Launch} {e : Env} {R : Room} {s : State} {m : MethodId} {args : Array Value} {below : List Frame} {meth : Method} {c : Code} {D : va_G} {cI cO : ClassId} {z tP : Nat} {aK aV : Nat → Nat} {own nm : String} {cc : ByteArray} {nL : Nat} {rt : Option FieldType} {Q : State → Prop} {cs sl : Nat} {sh : Shp} {M : Mem} {pc n : Nat} {lv : List (Option Value)} {st : List Value}
theorem g_slen0 (C : Cx p s m args meth c D cI cO z tP aK aV own nm cc nL rt) {b L : Nat} {xs : Nat → Int32} (hX : va_X b L xs s s.heap) (hb : b < z) (hd : decode cc pc = .ok (.arraylength, 1)) (hn : pc + 1 = n) (kk : G p l e R s m args below meth c D cI cO z nL Q cs sl sh M n lv (.int (nI L) :: st)) : G p l e R s m args below meth c D cI cO z nL Q cs sl sh M pc lv (.ref b :: st) := by
  subst hn
  intro H locs ls hP hS hl
  exact va_slen C.1 C.2.1 hX (Nat.lt_of_lt_of_le hb C.2.2.2.2.2.2.2.2.2) (Nat.not_le.mpr hb) hS hd (kk H locs ls hP hS hl)
theorem g_sld (C : Cx p s m args meth c D cI cO z tP aK aV own nm cc nL rt) {b L j : Nat} {i : Int32} {xs : Nat → Int32} (hX : va_X b L xs s s.heap) (hb : b < z) (hi : i = nI j) (hj : j < L) (hL : L < 2 ^ 31) (hd : decode cc pc = .ok (.iaload, 1)) (hn : pc + 1 = n) (kk : G p l e R s m args below meth c D cI cO z nL Q cs sl sh M n lv (.int (xs j) :: st)) : G p l e R s m args below meth c D cI cO z nL Q cs sl sh M pc lv (.int i :: .ref b :: st) := by
  subst hn; subst hi
  intro H locs ls hP hS hl
  refine va_sld C.1 C.2.1 hX (Nat.lt_of_lt_of_le hb C.2.2.2.2.2.2.2.2.2) (Nat.not_le.mpr hb) hS (vp_in_nI hj hL) hd ?_
  rw [nI_clamp (Nat.lt_trans hj hL)]
  exact kk H locs ls hP hS hl
end SC
theorem lw_gt {L i : Nat} (hL : L < 2 ^ 30) (hi : i < 2 ^ 30) : nI L - 3 < nI i ↔ L < i + 3 := by
  have e := pk_sub_toInt (a := L) (b := 3) hL (by decide)
  have e1 : (nI i).toInt = (i : Int) := by
    have := pk_sub_toInt (a := i) (b := 0) hi (by decide)
    rw [nI_0, Int32.sub_zero] at this
    simpa using this
  rw [Int32.lt_iff_toInt_lt, show (3 : Int32) = nI 3 from by decide, e, e1]
  omega
theorem sw_out_0_25 {x : Int32} (h0 : ¬ x = 0) (h1 : ¬ x = 1) (h2 : ¬ x = 2) (h3 : ¬ x = 3) (h4 : ¬ x = 4) (h5 : ¬ x = 5) (h6 : ¬ x = 6) (h7 : ¬ x = 7) (h8 : ¬ x = 8) (h9 : ¬ x = 9) (h10 : ¬ x = 10) (h11 : ¬ x = 11) (h12 : ¬ x = 12) (h13 : ¬ x = 13) (h14 : ¬ x = 14) (h15 : ¬ x = 15) (h16 : ¬ x = 16) (h17 : ¬ x = 17) (h18 : ¬ x = 18) (h19 : ¬ x = 19) (h20 : ¬ x = 20) (h21 : ¬ x = 21) (h22 : ¬ x = 22) (h23 : ¬ x = 23) (h24 : ¬ x = 24) (h25 : ¬ x = 25) : x.toInt < 0 ∨ 25 < x.toInt := by
  by_cases hl : x.toInt < 0
  · exact Or.inl hl
  · by_cases hg : 25 < x.toInt
    · exact Or.inr hg
    · have n0 : x.toInt ≠ 0 := fun h => h0 (Int32.toInt_inj.mp (h.trans (by decide)))
      have n1 : x.toInt ≠ 1 := fun h => h1 (Int32.toInt_inj.mp (h.trans (by decide)))
      have n2 : x.toInt ≠ 2 := fun h => h2 (Int32.toInt_inj.mp (h.trans (by decide)))
      have n3 : x.toInt ≠ 3 := fun h => h3 (Int32.toInt_inj.mp (h.trans (by decide)))
      have n4 : x.toInt ≠ 4 := fun h => h4 (Int32.toInt_inj.mp (h.trans (by decide)))
      have n5 : x.toInt ≠ 5 := fun h => h5 (Int32.toInt_inj.mp (h.trans (by decide)))
      have n6 : x.toInt ≠ 6 := fun h => h6 (Int32.toInt_inj.mp (h.trans (by decide)))
      have n7 : x.toInt ≠ 7 := fun h => h7 (Int32.toInt_inj.mp (h.trans (by decide)))
      have n8 : x.toInt ≠ 8 := fun h => h8 (Int32.toInt_inj.mp (h.trans (by decide)))
      have n9 : x.toInt ≠ 9 := fun h => h9 (Int32.toInt_inj.mp (h.trans (by decide)))
      have n10 : x.toInt ≠ 10 := fun h => h10 (Int32.toInt_inj.mp (h.trans (by decide)))
      have n11 : x.toInt ≠ 11 := fun h => h11 (Int32.toInt_inj.mp (h.trans (by decide)))
      have n12 : x.toInt ≠ 12 := fun h => h12 (Int32.toInt_inj.mp (h.trans (by decide)))
      have n13 : x.toInt ≠ 13 := fun h => h13 (Int32.toInt_inj.mp (h.trans (by decide)))
      have n14 : x.toInt ≠ 14 := fun h => h14 (Int32.toInt_inj.mp (h.trans (by decide)))
      have n15 : x.toInt ≠ 15 := fun h => h15 (Int32.toInt_inj.mp (h.trans (by decide)))
      have n16 : x.toInt ≠ 16 := fun h => h16 (Int32.toInt_inj.mp (h.trans (by decide)))
      have n17 : x.toInt ≠ 17 := fun h => h17 (Int32.toInt_inj.mp (h.trans (by decide)))
      have n18 : x.toInt ≠ 18 := fun h => h18 (Int32.toInt_inj.mp (h.trans (by decide)))
      have n19 : x.toInt ≠ 19 := fun h => h19 (Int32.toInt_inj.mp (h.trans (by decide)))
      have n20 : x.toInt ≠ 20 := fun h => h20 (Int32.toInt_inj.mp (h.trans (by decide)))
      have n21 : x.toInt ≠ 21 := fun h => h21 (Int32.toInt_inj.mp (h.trans (by decide)))
      have n22 : x.toInt ≠ 22 := fun h => h22 (Int32.toInt_inj.mp (h.trans (by decide)))
      have n23 : x.toInt ≠ 23 := fun h => h23 (Int32.toInt_inj.mp (h.trans (by decide)))
      have n24 : x.toInt ≠ 24 := fun h => h24 (Int32.toInt_inj.mp (h.trans (by decide)))
      have n25 : x.toInt ≠ 25 := fun h => h25 (Int32.toInt_inj.mp (h.trans (by decide)))
      omega
