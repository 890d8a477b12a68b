/-! the reference reads -/
def WRm (M : Mem) (L : List (Nat × Nat)) : Prop := M 80 8 = nI L.length ∧ ∀ j q, L[j]? = some q → M 87 j = nI q.1 ∧ M 88 j = nI q.2
def QTm (M : Mem) (S : Spt) (i : Nat) : Prop := M 80 11 = nI (ctn (kdIs S 3) i) ∧ ∀ q o, isQ S i q o → M 89 q = nI o
def KDm (M : Mem) (S : Spt) (i : Nat) : Prop := ∀ k, k < i → M 84 k = nI (kd S k)
def DPm (M : Mem) (S : Spt) (i : Nat) : Prop := ∀ k, k < i → M 85 k = nI (rD S (k + 1))
def PTm (M : Mem) (S : Spt) (i : Nat) : Prop := ∀ k, k < i → (kd S k = 3 → M 86 k = oI (clo S i k)) ∧ (kd S k = 4 → ∃ o, (sk S k)[0]? = some o ∧ M 86 k = nI o)
def wrA (S : Spt) (i : Nat) : List (Nat × Nat) := if w3 S i then [(i, 3)] else []
def wrB (S : Spt) (i : Nat) : List (Nat × Nat) := if kd S i = 6 then [(i, if ownS (spt S) (spg S i) then 1 else 2)] else []
theorem wrL_s (S : Spt) (i : Nat) : wrL S (i + 1) = wrL S i ++ wrA S i ++ wrB S i := rfl
theorem wrA_len (S : Spt) (i : Nat) : (wrA S i).length ≤ 1 := by unfold wrA; split <;> simp
theorem wrB_len (S : Spt) (i : Nat) : (wrB S i).length ≤ 1 := by unfold wrB; split <;> simp
theorem wrL_len (S : Spt) : ∀ i, (wrL S i).length ≤ 2 * i
  | 0 => Nat.le_refl 0
  | i + 1 => by
    have := wrL_len S i
    have a := wrA_len S i
    have b := wrB_len S i
    rw [wrL_s, List.length_append, List.length_append]
    omega
theorem app_at {α : Type} {L : List α} {x q : α} {j : Nat} (h : (L ++ [x])[j]? = some q) : (j < L.length ∧ L[j]? = some q) ∨ (j = L.length ∧ q = x) := by
  by_cases hj : j < L.length
  · rw [List.getElem?_append_left hj] at h; exact Or.inl ⟨hj, h⟩
  · rw [List.getElem?_append_right (by omega)] at h
    have hl := (List.getElem?_eq_some_iff.mp h).1
    simp at hl
    have : j = L.length := by omega
    rw [this, Nat.sub_self] at h
    exact Or.inr ⟨this, by simpa using h.symm⟩
theorem isQ_lt {S : Spt} {i q o : Nat} (h : isQ S i q o) : q < ctn (kdIs S 3) i := by
  obtain ⟨h1, h2, h3⟩ := h
  rw [← h3]; exact ctn_lt h1 (by simp [h2])
theorem kd_rn {S : Spt} {i : Nat} (h : isRn S i = true) : kd S i = 5 := by unfold kd; rw [if_pos h]
theorem kd_no {S : Spt} {i : Nat} (h : isRn S i = false) (h1 : isLt (spg S i) = false) (h2 : spg S i ≠ 32) (h3 : spg S i ≠ 124) : kd S i = if isOp S i = true then 3 else if isCl S i = true then 4 else 6 := by
  unfold kd; simp [h, h1, h2, h3]
theorem kd_lt0 {S : Spt} {i : Nat} (h : isRn S i = false) (h1 : isLt (spg S i) = true) : kd S i = 0 := by unfold kd; simp [h, h1]
theorem kd_bl {S : Spt} {i : Nat} (h : isRn S i = false) (h2 : spg S i = 32) : kd S i = 1 := by
  have : isLt 32 = false := by decide
  unfold kd; simp [h, h2, this]
theorem kd_br {S : Spt} {i : Nat} (h : isRn S i = false) (h2 : spg S i = 124) : kd S i = 2 := by
  have : isLt 124 = false := by decide
  unfold kd; simp [h, h2, this]
theorem rn_due {S : Spt} {i : Nat} : isRn S i = true ↔ rU S i ≠ 0 ∧ spg S i = duS S (rD S i) (rU S i) := by unfold isRn; simp
theorem w3_due {S : Spt} {i : Nat} : w3 S i = true ↔ rU S i ≠ 0 ∧ spg S i ≠ duS S (rD S i) (rU S i) := by unfold w3; simp
theorem rn_w3 {S : Spt} {i : Nat} (h : isRn S i = true) : w3 S i = false := by
  cases h2 : w3 S i with
  | false => rfl
  | true => exact absurd (rn_due.mp h).2 (w3_due.mp h2).2
theorem wrB_no {S : Spt} {i : Nat} (h : kd S i ≠ 6) : wrB S i = [] := by unfold wrB; rw [if_neg h]
theorem rU_s (S : Spt) (i : Nat) : rU S (i + 1) = if kd S i = 5 then rU S i - 1 else if kd S i = 2 then dmy (spr S) (rD S i) else 0 := by
  unfold rU; rw [rst_s]; unfold nxK
  rcases kd_cases S i with h | h | h | h | h | h | h <;> simp [h]
theorem KDm_s {M M' : Mem} {S : Spt} {i : Nat} {v : Int32} (h : KDm M S i) (e : M' 84 = upd (M 84) i v) (hv : v = nI (kd S i)) : KDm M' S (i + 1) := fun k hk => by
  rw [e]
  by_cases hki : k = i
  · rw [hki, pk_us]; exact hv
  · rw [pk_un hki]; exact h k (by omega)
theorem clo_sn {S : Spt} {i o : Nat} (h : kd S i ≠ 4) : clo S (i + 1) o = clo S i o := by rw [clo_s, if_neg (fun q => h q.1)]
/-- a sign that neither opens nor closes -/
theorem PTm_n {M M' : Mem} {S : Spt} {i : Nat} (h : PTm M S i) (e : M' 86 = M 86) (h3 : kd S i ≠ 3) (h4 : kd S i ≠ 4) : PTm M' S (i + 1) := fun k hk => by
  rw [e]
  by_cases hki : k = i
  · rw [hki]; exact ⟨fun q => absurd q h3, fun q => absurd q h4⟩
  · have := h k (by omega)
    rw [clo_sn h4]; exact this
theorem QTm_n {M M' : Mem} {S : Spt} {i : Nat} (h : QTm M S i) (e : M' 89 = M 89) (e8 : M' 80 11 = M 80 11) (h3 : kd S i ≠ 3) : QTm M' S (i + 1) := by
  refine ⟨by rw [e8, ctn_no (by simp [h3])]; exact h.1, fun q o hq => ?_⟩
  rw [e]
  obtain ⟨q1, q2, q3⟩ := hq
  have : o ≠ i := fun z => by rw [z] at q2; exact h3 q2
  exact h.2 q o ⟨by omega, q2, q3⟩
theorem QTm_o {M M' : Mem} {S : Spt} {i : Nat} {v : Int32} (h : QTm M S i) (hk : kd S i = 3) (hv : v = nI i) (e : M' 89 = upd (M 89) (ctn (kdIs S 3) i) v) (e8 : M' 80 11 = nI (ctn (kdIs S 3) i + 1)) : QTm M' S (i + 1) := by
  refine ⟨by rw [e8, ctn_yes (by simp [hk])], fun q o hq => ?_⟩
  rw [e]
  obtain ⟨q1, q2, q3⟩ := hq
  by_cases ho : o = i
  · rw [ho] at q3 ⊢; rw [← q3, pk_us]; exact hv
  · have hqi : isQ S i q o := ⟨by omega, q2, q3⟩
    have := isQ_lt hqi
    rw [pk_un (by omega)]; exact h.2 q o hqi
theorem WRm_cong {M M' : Mem} {L : List (Nat × Nat)} (h : WRm M L) (e : M' 80 8 = M 80 8) (e1 : M' 87 = M 87) (e2 : M' 88 = M 88) : WRm M' L := by
  unfold WRm; rw [e, e1, e2]; exact h

set_option maxHeartbeats 4000000 in
set_option maxRecDepth 100000 in
theorem ct_X7_wrong1 {l : Launch} {D : va_G} {cI cO : ClassId} {z tP : Nat} {aK aV : Nat → Nat} (M : Mem) (L : List (Nat × Nat)) (a b : Nat) (x y : Int32) (hW : WRm M L) (hl : L.length < 242) (hx : x = nI a) (hy : y = nI b) : Cm l D cI cO z tP aK aV yX7_wrong1 cX7_wrong1 3 none 0 0 [.ref (z + 80), .int x, .int y] SH M (pV (fun M1 => WRm M1 (L ++ [(a, b)]) ∧ (∀ c, c ≠ 80 → c ≠ 87 → c ≠ 88 → M1 c = M c) ∧ ∀ j, j ≠ 8 → M1 80 j = M 80 j)) := by
  refine cm_intro (lv0 := [some (.ref (z + 80)), some (.int x), some (.int y)]) (by decide) rfl (Nat.le_of_ble_eq_true rfl) rfl (fun p e s m below meth c C => ?_)
  refine g_aload0 C dX7_wrong1_0 (n := 1) rfl ?_
  refine kg_X7_28 C sh_80 rfl dX7_wrong1_1 (n := 4) rfl ?_
  refine g_aload0 C dX7_wrong1_4 (n := 5) rfl ?_
  refine kg_X7_102 C sh_80 rfl dX7_wrong1_5 (n := 8) rfl ?_
  refine g_iload1 C dX7_wrong1_8 (n := 9) rfl ?_
  refine g_iast C (j := L.length) sh_87 (by decide) (hW.1) (hl) dX7_wrong1_9 (n := 10) rfl (fun M2 e2 => ?_)
  refine g_aload0 C dX7_wrong1_10 (n := 11) rfl ?_
  refine kg_X7_31 C sh_80 rfl dX7_wrong1_11 (n := 14) rfl ?_
  refine g_aload0 C dX7_wrong1_14 (n := 15) rfl ?_
  refine kg_X7_102 C sh_80 rfl dX7_wrong1_15 (n := 18) rfl ?_
  refine g_iload2 C dX7_wrong1_18 (n := 19) rfl ?_
  refine g_iast C (j := L.length) sh_88 (by decide) (by rw [e2, up2_ne _ _ (by omega)]; exact hW.1) (hl) dX7_wrong1_19 (n := 20) rfl (fun M3 e3 => ?_)
  refine g_aload0 C dX7_wrong1_20 (n := 21) rfl ?_
  refine g_dup C rfl dX7_wrong1_21 (n := 22) rfl ?_
  refine kg_X7_102 C sh_80 rfl dX7_wrong1_22 (n := 25) rfl ?_
  refine g_iconst C ic_1 dX7_wrong1_25 (n := 26) rfl ?_
  refine g_iadd C dX7_wrong1_26 (n := 27) rfl ?_
  refine kp_X7_102 C sh_80 rfl dX7_wrong1_27 (n := 30) rfl (fun M4 e4 => ?_)
  refine r_V C dX7_wrong1_30 ?_
  refine ⟨⟨?_, fun j q hq => ?_⟩, fun c c1 c2 c3 => by rw [e4, up2_ne _ _ c1, e3, up2_ne _ _ c3, e2, up2_ne _ _ c2], fun j hj => by rw [e4]; simp [up2, hj]; rw [e3, up2_ne _ _ (by omega), e2, up2_ne _ _ (by omega)]⟩
  · rw [e4, up2_at, e3, up2_ne _ _ (by omega), e2, up2_ne _ _ (by omega), hW.1, nI_1, List.length_append, List.length_singleton]
  · have w1 : M4 87 = upd (M 87) L.length x := by rw [e4, up2_ne _ _ (by omega), e3, up2_ne _ _ (by omega), e2, up2_row]
    have w2 : M4 88 = upd (M 88) L.length y := by rw [e4, up2_ne _ _ (by omega), e3, up2_row, e2, up2_ne _ _ (by omega)]
    rw [w1, w2]
    rcases app_at hq with ⟨h1, h2⟩ | ⟨h1, h2⟩
    · rw [pk_un (by omega), pk_un (by omega)]; exact hW.2 j q h2
    · rw [h1, h2, pk_us, pk_us]; exact ⟨hx, hy⟩
set_option maxHeartbeats 4000000 in
set_option maxRecDepth 100000 in
theorem ct_X7_opened {l : Launch} {D : va_G} {cI cO : ClassId} {z tP : Nat} {aK aV : Nat → Nat} (M : Mem) (S : Spt) (i o0 : Nat) (x : Int32) (hx : x = nI i) (hi : i < 120) (hK : KDm M S i) (hp : PTm M S i) (ho : (sk S i)[0]? = some o0) : Cm l D cI cO z tP aK aV yX7_opened cX7_opened 3 (some .int) 0 0 [.ref (z + 80), .int x] SH M (pI (fun r M1 => r = nI o0 ∧ M1 = M)) := by
  refine cm_intro (lv0 := [some (.ref (z + 80)), some (.int x), none]) (by decide) rfl (Nat.le_of_ble_eq_true rfl) rfl (fun p e s m below meth c C => ?_)
  have hlv := sk_lv S i 0 o0 ho
  have hnone : clo S i o0 = none := ((sk_iff S i o0).mp ⟨0, ho⟩).2.2
  refine g_iload1 C dX7_opened_0 (n := 1) rfl ?_
  refine g_iconst C ic_1 dX7_opened_1 (n := 2) rfl ?_
  refine g_isub C dX7_opened_2 (n := 3) rfl ?_
  refine g_istore2 C dX7_opened_3 (n := 4) rfl ?_
  have L_4 : ∀ (fu : Nat) (v : Nat) (y : Int32), v - o0 < fu → (y = nI v) → (v < i) → (o0 ≤ v) → G p l e ({ frames := 0, cells := 0, slots := 0, locals := 0 }) s m ([.ref (z + 80), .int x] : List Value).toArray below meth c D cI cO z 3 (QM below D cI cO z ([.ref (z + 80), .int x] : List Value).toArray s SH (pI (fun r M1 => r = nI o0 ∧ M1 = M))) 0 0 SH M 4 [some (.ref (z + 80)), some (.int x), some (.int y)] [] := by
    intro fu_4
    induction fu_4 with
    | zero => intro v y hfu; exact absurd hfu (Nat.not_lt_zero _)
    | succ fu_4 ih_4 =>
      intro v y hfu_4 hy hv hov
      refine g_aload0 C dX7_opened_4 (n := 5) rfl ?_
      refine kg_X7_19 C sh_80 rfl dX7_opened_5 (n := 8) rfl ?_
      refine g_iload2 C dX7_opened_8 (n := 9) rfl ?_
      refine g_iald C (j := v) sh_84 (by decide) (hy) (by omega) dX7_opened_9 (n := 10) rfl ?_
      refine g_iconst C ic_3 dX7_opened_10 (n := 11) rfl ?_
      refine g_icmp_ne C dX7_opened_11 (t := 25) (by decide) (n := 14) rfl (fun c_11 => ?_) (fun c_11 => ?_)
      · have hne : v ≠ o0 := fun h => c_11 (by rw [hK v hv, h, hlv.2.1]; rfl)
        refine g_iinc2 C (inc_m1 _) dX7_opened_25 (n := 28) rfl ?_
        refine g_goto C dX7_opened_28 (t := 4) (by decide) ?_
        exact ih_4 (v - 1) (y + -1) (by omega) (by rw [hy, show v = (v - 1) + 1 by omega]; exact pk_m1 _) (by omega) (by omega)
      · have k3 : kd S v = 3 := (qeq (hK v hv) (show (3 : Int32) = nI 3 from rfl) (by have := kd_lt S v; omega) (by decide)).mp c_11
        refine g_aload0 C dX7_opened_14 (n := 15) rfl ?_
        refine kg_X7_25 C sh_80 rfl dX7_opened_15 (n := 18) rfl ?_
        refine g_iload2 C dX7_opened_18 (n := 19) rfl ?_
        refine g_iald C (j := v) sh_86 (by decide) (hy) (by omega) dX7_opened_19 (n := 20) rfl ?_
        refine g_bipush C bp_m4 dX7_opened_20 (n := 22) rfl ?_
        refine g_icmp_eq C dX7_opened_22 (t := 31) (by decide) (n := 25) rfl (fun c_22 => ?_) (fun c_22 => ?_)
        · have hcl : clo S i v = none := by
            have := (hp v hv).1 k3
            rw [this] at c_22
            cases h : clo S i v with
            | none => rfl
            | some e => rw [h] at c_22; exact absurd c_22 (nI_neg (by have := (clo_lt S i v e h).2; omega) (by decide))
          have hvo : v = o0 := Nat.le_antisymm (sk_max ho hv k3 hcl) hov
          refine g_iload2 C dX7_opened_31 (n := 32) rfl ?_
          refine r_I C dX7_opened_32 ?_
          exact ⟨by rw [hy, hvo], rfl⟩
        · have hne : v ≠ o0 := fun h => c_22 (by rw [(hp v hv).1 k3, h, hnone]; rfl)
          refine g_iinc2 C (inc_m1 _) dX7_opened_25 (n := 28) rfl ?_
          refine g_goto C dX7_opened_28 (t := 4) (by decide) ?_
          exact ih_4 (v - 1) (y + -1) (by omega) (by rw [hy, show v = (v - 1) + 1 by omega]; exact pk_m1 _) (by omega) (by omega)
  exact L_4 (i - 1 - o0 + 1) (i - 1) _ (by omega) (e_sub hx (show (1 : Int32) = nI 1 from rfl) (by omega)) (by omega) (by omega)
set_option maxHeartbeats 4000000 in
set_option maxRecDepth 100000 in
theorem ct_X7_read {l : Launch} {D : va_G} {cI cO : ClassId} {z tP : Nat} {aK aV : Nat → Nat} (M : Mem) (S : Spt) (hsp : spR (M 82) S) (hwS : wfS S) : Cm l D cI cO z tP aK aV yX7_read cX7_read 8 none 3 65 [.ref (z + 80)] SH M (pV (fun M1 => WRm M1 (wlE S) ∧ QTm M1 S (spn S) ∧ KDm M1 S (spn S) ∧ DPm M1 S (spn S) ∧ PTm M1 S (spn S) ∧ (∀ a, (a < 84 ∨ 89 < a) → a ≠ 80 → M1 a = M a) ∧ ∀ j, j ≠ 8 → j ≠ 11 → M1 80 j = M 80 j)) := by
  refine cm_intro (lv0 := [some (.ref (z + 80)), none, none, none, none, none, none, none]) (by decide) rfl (Nat.le_of_ble_eq_true rfl) rfl (fun p e s m below meth c C => ?_)
  have hn120 := hwS.1
  have ht4 := hwS.2.2.1
  have hr3 := hwS.2.2.2.1
  refine g_aload0 C dX7_read_0 (n := 1) rfl ?_
  refine kg_X7_13 C sh_80 rfl dX7_read_1 (n := 4) rfl ?_
  refine g_bipush C bp_121 dX7_read_4 (n := 6) rfl ?_
  refine g_iald C (j := 121) sh_82 (by decide) (rfl) (by omega) dX7_read_6 (n := 7) rfl ?_
  rw [hsp.2.2.1]
  refine g_istore1 C dX7_read_7 (n := 8) rfl ?_
  refine g_iconst C ic_0 dX7_read_8 (n := 9) rfl ?_
  refine g_istore2 C dX7_read_9 (n := 10) rfl ?_
  refine g_iconst C ic_0 dX7_read_10 (n := 11) rfl ?_
  refine g_istore3 C dX7_read_11 (n := 12) rfl ?_
  refine g_aload0 C dX7_read_12 (n := 13) rfl ?_
  refine g_iconst C ic_0 dX7_read_13 (n := 14) rfl ?_
  refine kp_X7_102 C sh_80 rfl dX7_read_14 (n := 17) rfl (fun Ma ea => ?_)
  refine g_aload0 C dX7_read_17 (n := 18) rfl ?_
  refine g_iconst C ic_0 dX7_read_18 (n := 19) rfl ?_
  refine kp_X7_105 C sh_80 rfl dX7_read_19 (n := 22) rfl (fun Mb eb => ?_)
  refine g_iconst C ic_0 dX7_read_22 (n := 23) rfl ?_
  refine g_istore4 C dX7_read_23 (n := 25) rfl ?_
  have L_25 : ∀ (fu : Nat) (i : Nat) (xd xu xi : Int32) (o5 o6 o7 : Option Value) (M1 : Mem), spn S - i < fu → (xi = nI i) → (i ≤ spn S) → (xd = nI (rD S i)) → (xu = nI (rU S i)) → (WRm M1 (wrL S i)) → (QTm M1 S i) → (KDm M1 S i) → (DPm M1 S i) → (PTm M1 S i) → ((∀ a, (a < 84 ∨ 89 < a) → a ≠ 80 → M1 a = M a) ∧ ∀ j, j ≠ 8 → j ≠ 11 → M1 80 j = M 80 j) → G p l e ({ frames := 3, cells := 0, slots := 0, locals := 65 }) s m ([.ref (z + 80)] : List Value).toArray below meth c D cI cO z 8 (QM below D cI cO z ([.ref (z + 80)] : List Value).toArray s SH (pV (fun M1 => WRm M1 (wlE S) ∧ QTm M1 S (spn S) ∧ KDm M1 S (spn S) ∧ DPm M1 S (spn S) ∧ PTm M1 S (spn S) ∧ (∀ a, (a < 84 ∨ 89 < a) → a ≠ 80 → M1 a = M a) ∧ ∀ j, j ≠ 8 → j ≠ 11 → M1 80 j = M 80 j))) 0 0 SH M1 25 [some (.ref (z + 80)), some (.int (nI (spt S))), some (.int xd), some (.int xu), some (.int xi), o5, o6, o7] [] := by
    intro fu_25
    induction fu_25 with
    | zero => intro i xd xu xi o5 o6 o7 M1 hfu; exact absurd hfu (Nat.not_lt_zero _)
    | succ fu_25 ih_25 =>
      intro i xd xu xi o5 o6 o7 M1 hfu_25 hxi hi hxd hxu hW1 hQ1 hK1 hD1 hP1 hF1
      refine g_iload4 C dX7_read_25 (n := 27) rfl ?_
      have e82 : M1 82 = M 82 := hF1.1 82 (by omega) (by omega)
      have hn1 : M1 82 120 = nI (spn S) := by rw [e82]; exact hsp.1
      have hdi := rD_le S i
      have hui := rU_le S i
      have hud := dmy_le (spr S) (rD S i)
      refine g_aload0 C dX7_read_27 (n := 28) rfl ?_
      refine kg_X7_13 C sh_80 rfl dX7_read_28 (n := 31) rfl ?_
      refine g_bipush C bp_120 dX7_read_31 (n := 33) rfl ?_
      refine g_iald C (j := 120) sh_82 (by decide) (rfl) (by omega) dX7_read_33 (n := 34) rfl ?_
      refine g_icmp_ge C dX7_read_34 (t := 374) (by decide) (n := 37) rfl (fun c_34 => ?_) (fun c_34 => ?_)
      · have w34 : ¬ i < spn S := fun h => c_34 ((qlt hxi hn1 (by omega) (by omega)).mpr h)
        have hin : i = spn S := by omega
        rw [hin] at hxd hxu hW1 hQ1 hK1 hD1 hP1 hdi hui hud
        have J_390 : ∀ (M6 : Mem), (WRm M6 (wrL S (spn S) ++ (if rU S (spn S) ≠ 0 then [(spn S, 3)] else []))) → (∀ a, a ≠ 80 → a ≠ 87 → a ≠ 88 → M6 a = M1 a) → (∀ j, j ≠ 8 → M6 80 j = M1 80 j) → G p l e ({ frames := 3, cells := 0, slots := 0, locals := 65 }) s m ([.ref (z + 80)] : List Value).toArray below meth c D cI cO z 8 (QM below D cI cO z ([.ref (z + 80)] : List Value).toArray s SH (pV (fun M1 => WRm M1 (wlE S) ∧ QTm M1 S (spn S) ∧ KDm M1 S (spn S) ∧ DPm M1 S (spn S) ∧ PTm M1 S (spn S) ∧ (∀ a, (a < 84 ∨ 89 < a) → a ≠ 80 → M1 a = M a) ∧ ∀ j, j ≠ 8 → j ≠ 11 → M1 80 j = M 80 j))) 0 0 SH M6 390 [some (.ref (z + 80)), some (.int (nI (spt S))), some (.int xd), some (.int xu), some (.int xi), o5, o6, o7] [] := by
          intro M6 hW6 hF6 h806
          refine g_iload2 C dX7_read_390 (n := 391) rfl ?_
          refine g_if_le C dX7_read_391 (t := 406) (by decide) (n := 394) rfl (fun c_391 => ?_) (fun c_391 => ?_)
          · have w391 : ¬ 0 < rD S (spn S) := fun h => c_391 ((qlt nI_0.symm hxd (by decide) (by omega)).mpr h)
            refine r_V C dX7_read_406 ?_
            first
              | (have h9 := hX406
                 exact ⟨h9.1, ⟨by rw [h9.2.2 11 (by omega)]; exact hQ1.1, fun q o hq => by rw [h9.2.1 89 (by omega) (by omega) (by omega)]; exact hQ1.2 q o hq⟩, fun k hk => by rw [h9.2.1 84 (by omega) (by omega) (by omega)]; exact hK1 k hk, fun k hk => by rw [h9.2.1 85 (by omega) (by omega) (by omega)]; exact hD1 k hk, fun k hk => by rw [h9.2.1 86 (by omega) (by omega) (by omega)]; exact hP1 k hk, fun a h1 h2 => by rw [h9.2.1 a h2 (by omega) (by omega)]; exact hF1.1 a h1 h2, fun j h1 h2 => by rw [h9.2.2 j h1]; exact hF1.2 j h1 h2⟩)
              | exact ⟨by unfold wlE; rw [if_neg (show ¬ rD S (spn S) ≠ 0 by omega), List.append_nil]; exact hW6, ⟨by rw [h806 11 (by omega)]; exact hQ1.1, fun q o hq => by rw [hF6 89 (by omega) (by omega) (by omega)]; exact hQ1.2 q o hq⟩, fun k hk => by rw [hF6 84 (by omega) (by omega) (by omega)]; exact hK1 k hk, fun k hk => by rw [hF6 85 (by omega) (by omega) (by omega)]; exact hD1 k hk, fun k hk => by rw [hF6 86 (by omega) (by omega) (by omega)]; exact hP1 k hk, fun a h1 h2 => by rw [hF6 a h2 (by omega) (by omega)]; exact hF1.1 a h1 h2, fun j h1 h2 => by rw [h806 j h1]; exact hF1.2 j h1 h2⟩
          · have w391 : 0 < rD S (spn S) := (qlt nI_0.symm hxd (by decide) (by omega)).mp c_391
            refine g_aload0 C dX7_read_394 (n := 395) rfl ?_
            refine g_aload0 C dX7_read_395 (n := 396) rfl ?_
            refine kg_X7_13 C sh_80 rfl dX7_read_396 (n := 399) rfl ?_
            refine g_bipush C bp_120 dX7_read_399 (n := 401) rfl ?_
            refine g_iald C (j := 120) sh_82 (by decide) (rfl) (by omega) dX7_read_401 (n := 402) rfl ?_
            refine g_iconst C ic_4 dX7_read_402 (n := 403) rfl ?_
            refine kc_X7_112 C (ct_X7_wrong1 M6 (wrL S (spn S) ++ (if rU S (spn S) ≠ 0 then [(spn S, 3)] else [])) (spn S) 4 _ _ hW6 (by have := wrL_len S (spn S); rw [List.length_append]; split <;> simp <;> omega) (by rw [hF6 82 (by omega) (by omega) (by omega)]; exact hn1) (show (4 : Int32) = nI 4 from rfl)) sh_80 ⟨Nat.le_of_ble_eq_true rfl, Nat.le_of_ble_eq_true rfl⟩ ⟨Nat.zero_le _, Nat.zero_le _⟩ (Nat.le_of_ble_eq_true rfl) dX7_read_403 (n := 406) rfl (fun M7 h7 => ?_)
            have hX406 : WRm M7 (wlE S) ∧ (∀ a, a ≠ 80 → a ≠ 87 → a ≠ 88 → M7 a = M1 a) ∧ ∀ j, j ≠ 8 → M7 80 j = M1 80 j := ⟨by unfold wlE; rw [if_pos (show rD S (spn S) ≠ 0 by omega)]; exact h7.1, fun a h1 h2 h3 => by rw [h7.2.1 a h1 h2 h3]; exact hF6 a h1 h2 h3, fun j hj => by rw [h7.2.2 j hj]; exact h806 j hj⟩
            refine r_V C dX7_read_406 ?_
            first
              | (have h9 := hX406
                 exact ⟨h9.1, ⟨by rw [h9.2.2 11 (by omega)]; exact hQ1.1, fun q o hq => by rw [h9.2.1 89 (by omega) (by omega) (by omega)]; exact hQ1.2 q o hq⟩, fun k hk => by rw [h9.2.1 84 (by omega) (by omega) (by omega)]; exact hK1 k hk, fun k hk => by rw [h9.2.1 85 (by omega) (by omega) (by omega)]; exact hD1 k hk, fun k hk => by rw [h9.2.1 86 (by omega) (by omega) (by omega)]; exact hP1 k hk, fun a h1 h2 => by rw [h9.2.1 a h2 (by omega) (by omega)]; exact hF1.1 a h1 h2, fun j h1 h2 => by rw [h9.2.2 j h1]; exact hF1.2 j h1 h2⟩)
              | exact ⟨by unfold wlE; rw [if_neg (show ¬ rD S (spn S) ≠ 0 by omega), List.append_nil]; exact hW6, ⟨by rw [h806 11 (by omega)]; exact hQ1.1, fun q o hq => by rw [hF6 89 (by omega) (by omega) (by omega)]; exact hQ1.2 q o hq⟩, fun k hk => by rw [hF6 84 (by omega) (by omega) (by omega)]; exact hK1 k hk, fun k hk => by rw [hF6 85 (by omega) (by omega) (by omega)]; exact hD1 k hk, fun k hk => by rw [hF6 86 (by omega) (by omega) (by omega)]; exact hP1 k hk, fun a h1 h2 => by rw [hF6 a h2 (by omega) (by omega)]; exact hF1.1 a h1 h2, fun j h1 h2 => by rw [h806 j h1]; exact hF1.2 j h1 h2⟩
        refine g_iload3 C dX7_read_374 (n := 375) rfl ?_
        refine g_if_le C dX7_read_375 (t := 390) (by decide) (n := 378) rfl (fun c_375 => ?_) (fun c_375 => ?_)
        · have w375 : ¬ 0 < rU S (spn S) := fun h => c_375 ((qlt nI_0.symm hxu (by decide) (by omega)).mpr h)
          first | (have h9 := hX390; exact J_390 _ h9.1 h9.2.1 h9.2.2) | exact J_390 M1 (by rw [if_neg (by omega), List.append_nil]; exact hW1) (fun _ _ _ _ => rfl) (fun _ _ => rfl)
        · have w375 : 0 < rU S (spn S) := (qlt nI_0.symm hxu (by decide) (by omega)).mp c_375
          refine g_aload0 C dX7_read_378 (n := 379) rfl ?_
          refine g_aload0 C dX7_read_379 (n := 380) rfl ?_
          refine kg_X7_13 C sh_80 rfl dX7_read_380 (n := 383) rfl ?_
          refine g_bipush C bp_120 dX7_read_383 (n := 385) rfl ?_
          refine g_iald C (j := 120) sh_82 (by decide) (rfl) (by omega) dX7_read_385 (n := 386) rfl ?_
          refine g_iconst C ic_3 dX7_read_386 (n := 387) rfl ?_
          refine kc_X7_112 C (ct_X7_wrong1 M1 (wrL S (spn S)) (spn S) 3 _ _ hW1 (by have := wrL_len S (spn S); omega) hn1 (show (3 : Int32) = nI 3 from rfl)) sh_80 ⟨Nat.le_of_ble_eq_true rfl, Nat.le_of_ble_eq_true rfl⟩ ⟨Nat.zero_le _, Nat.zero_le _⟩ (Nat.le_of_ble_eq_true rfl) dX7_read_387 (n := 390) rfl (fun M5 h5 => ?_)
          have hX390 : WRm M5 (wrL S (spn S) ++ (if rU S (spn S) ≠ 0 then [(spn S, 3)] else [])) ∧ (∀ a, a ≠ 80 → a ≠ 87 → a ≠ 88 → M5 a = M1 a) ∧ ∀ j, j ≠ 8 → M5 80 j = M1 80 j := ⟨by rw [if_pos (by omega)]; exact h5.1, h5.2.1, h5.2.2⟩
          first | (have h9 := hX390; exact J_390 _ h9.1 h9.2.1 h9.2.2) | exact J_390 M1 (by rw [if_neg (by omega), List.append_nil]; exact hW1) (fun _ _ _ _ => rfl) (fun _ _ => rfl)
      · have w34 : i < spn S := (qlt hxi hn1 (by omega) (by omega)).mp c_34
        refine g_aload0 C dX7_read_37 (n := 38) rfl ?_
        refine kg_X7_13 C sh_80 rfl dX7_read_38 (n := 41) rfl ?_
        refine g_iload4 C dX7_read_41 (n := 43) rfl ?_
        refine g_iald C (j := i) sh_82 (by decide) (hxi) (by omega) dX7_read_43 (n := 44) rfl ?_
        rw [e82, hsp.2.1 i w34]
        have hsgi := hwS.2.1 i w34
        refine g_istore5 C dX7_read_44 (n := 46) rfl ?_
        refine g_aload0 C dX7_read_46 (n := 47) rfl ?_
        refine kg_X7_25 C sh_80 rfl dX7_read_47 (n := 50) rfl ?_
        refine g_iload4 C dX7_read_50 (n := 52) rfl ?_
        refine g_bipush C bp_m4 dX7_read_52 (n := 54) rfl ?_
        refine g_iast C (j := i) sh_86 (by decide) (hxi) (by omega) dX7_read_54 (n := 55) rfl (fun M2 e2 => ?_)
        have f2 : ∀ a, a ≠ 86 → M2 a = M1 a := fun a ha => by rw [e2, up2_ne _ _ ha]
        have g2 : ∀ k, k < i → M2 86 k = M1 86 k := fun k hk => by rw [e2]; simp [up2]; omega
        have hW2 : WRm M2 (wrL S i) := WRm_cong hW1 (by rw [f2 80 (by omega)]) (f2 87 (by omega)) (f2 88 (by omega))
        have hQ2 : QTm M2 S i := ⟨by rw [f2 80 (by omega)]; exact hQ1.1, fun q o hq => by rw [f2 89 (by omega)]; exact hQ1.2 q o hq⟩
        have hK2 : KDm M2 S i := fun k hk => by rw [f2 84 (by omega)]; exact hK1 k hk
        have hD2 : DPm M2 S i := fun k hk => by rw [f2 85 (by omega)]; exact hD1 k hk
        have hP2 : PTm M2 S i := fun k hk => by rw [g2 k hk]; exact hP1 k hk
        have hF2 : (∀ a, (a < 84 ∨ 89 < a) → a ≠ 80 → M2 a = M a) ∧ ∀ j, j ≠ 8 → j ≠ 11 → M2 80 j = M 80 j := ⟨fun a h1 h2 => by rw [f2 a (by omega)]; exact hF1.1 a h1 h2, fun j h1 h2 => by rw [f2 80 (by omega)]; exact hF1.2 j h1 h2⟩
        have h862 : M2 86 i = -4 := by rw [e2, up2_at]
        have J_102 : ∀ (M3 : Mem) (u3 v6 : Int32), ((v6 = 1 ∧ isRn S i = true ∧ u3 = nI (rU S i)) ∨ (v6 = 0 ∧ isRn S i = false ∧ u3 = 0)) → (WRm M3 (wrL S i ++ wrA S i)) → (QTm M3 S i) → (KDm M3 S i) → (DPm M3 S i) → (PTm M3 S i) → (M3 86 i = -4) → ((∀ a, (a < 84 ∨ 89 < a) → a ≠ 80 → M3 a = M a) ∧ ∀ j, j ≠ 8 → j ≠ 11 → M3 80 j = M 80 j) → G p l e ({ frames := 3, cells := 0, slots := 0, locals := 65 }) s m ([.ref (z + 80)] : List Value).toArray below meth c D cI cO z 8 (QM below D cI cO z ([.ref (z + 80)] : List Value).toArray s SH (pV (fun M1 => WRm M1 (wlE S) ∧ QTm M1 S (spn S) ∧ KDm M1 S (spn S) ∧ DPm M1 S (spn S) ∧ PTm M1 S (spn S) ∧ (∀ a, (a < 84 ∨ 89 < a) → a ≠ 80 → M1 a = M a) ∧ ∀ j, j ≠ 8 → j ≠ 11 → M1 80 j = M 80 j))) 0 0 SH M3 102 [some (.ref (z + 80)), some (.int (nI (spt S))), some (.int xd), some (.int u3), some (.int xi), some (.int (spg S i)), some (.int v6), o7] [] := by
          intro M3 u3 v6 hv6 hW3 hQ3 hK3 hD3 hP3 h86 hF3
          have J_360 : ∀ (M5 : Mem) (d5 u5 : Int32) (o77 : Option Value), (d5 = nI (rD S (i + 1))) → (u5 = nI (rU S (i + 1))) → (WRm M5 (wrL S (i + 1))) → (QTm M5 S (i + 1)) → (KDm M5 S (i + 1)) → (DPm M5 S i) → (PTm M5 S (i + 1)) → ((∀ a, (a < 84 ∨ 89 < a) → a ≠ 80 → M5 a = M a) ∧ ∀ j, j ≠ 8 → j ≠ 11 → M5 80 j = M 80 j) → G p l e ({ frames := 3, cells := 0, slots := 0, locals := 65 }) s m ([.ref (z + 80)] : List Value).toArray below meth c D cI cO z 8 (QM below D cI cO z ([.ref (z + 80)] : List Value).toArray s SH (pV (fun M1 => WRm M1 (wlE S) ∧ QTm M1 S (spn S) ∧ KDm M1 S (spn S) ∧ DPm M1 S (spn S) ∧ PTm M1 S (spn S) ∧ (∀ a, (a < 84 ∨ 89 < a) → a ≠ 80 → M1 a = M a) ∧ ∀ j, j ≠ 8 → j ≠ 11 → M1 80 j = M 80 j))) 0 0 SH M5 360 [some (.ref (z + 80)), some (.int (nI (spt S))), some (.int d5), some (.int u5), some (.int xi), some (.int (spg S i)), some (.int v6), o77] [] := by
            intro M5 d5 u5 o77 hd5 hu5 hW5 hQ5 hK5 hD5 hP5 hF5
            refine g_aload0 C dX7_read_360 (n := 361) rfl ?_
            refine kg_X7_22 C sh_80 rfl dX7_read_361 (n := 364) rfl ?_
            refine g_iload4 C dX7_read_364 (n := 366) rfl ?_
            refine g_iload2 C dX7_read_366 (n := 367) rfl ?_
            refine g_iast C (j := i) sh_85 (by decide) (hxi) (by omega) dX7_read_367 (n := 368) rfl (fun M9 e9 => ?_)
            refine g_iinc4 C (inc_1 _) dX7_read_368 (n := 371) rfl ?_
            refine g_goto C dX7_read_371 (t := 25) (by decide) ?_
            have f9 : ∀ a, a ≠ 85 → M9 a = M5 a := fun a ha => by rw [e9, up2_ne _ _ ha]
            exact ih_25 (i + 1) d5 u5 (xi + 1) _ _ _ M9 (by omega) (by rw [hxi, nI_1]) (by omega) hd5 hu5 (WRm_cong hW5 (by rw [f9 80 (by omega)]) (f9 87 (by omega)) (f9 88 (by omega))) ⟨by rw [f9 80 (by omega)]; exact hQ5.1, fun q o hq => by rw [f9 89 (by omega)]; exact hQ5.2 q o hq⟩ (fun k hk => by rw [f9 84 (by omega)]; exact hK5 k hk) (fun k hk => by
              rw [e9]
              by_cases hki : k = i
              · rw [hki, up2_at]; exact hd5
              · refine (show up2 M5 85 i _ 85 k = M5 85 k by simp [up2, hki]).trans ?_
                exact hD5 k (by omega)) (fun k hk => by rw [f9 86 (by omega)]; exact hP5 k hk) ⟨fun a h1 h2 => by rw [f9 a (by omega)]; exact hF5.1 a h1 h2, fun j h1 h2 => by rw [f9 80 (by omega)]; exact hF5.2 j h1 h2⟩
          refine g_iload6 C dX7_read_102 (n := 104) rfl ?_
          refine g_if_eq C dX7_read_104 (t := 121) (by decide) (n := 107) rfl (fun c_104 => ?_) (fun c_104 => ?_)
          · obtain ⟨hrn9, hu30⟩ : isRn S i = false ∧ u3 = 0 := by
              rcases hv6 with h | h
              · exact absurd (h.1.symm.trans c_104) (by decide)
              · exact h.2
            refine g_iload5 C dX7_read_121 (n := 123) rfl ?_
            refine g_i2l C dX7_read_123 (n := 124) rfl ?_
            refine g_ldc2 C kl_X7_46 dX7_read_124 (n := 127) rfl ?_
            refine g_ldc2 C kl_X7_48 dX7_read_127 (n := 130) rfl ?_
            refine kc_X7_50 C (ct_X7_in SH M3 (spg S i) 97 122) ⟨Nat.le_of_ble_eq_true rfl, Nat.le_of_ble_eq_true rfl⟩ ⟨Nat.zero_le _, Nat.zero_le _⟩ (Nat.le_of_ble_eq_true rfl) dX7_read_130 (n := 133) rfl (fun r_130 M_130 h_130 => ?_)
            rw [h_130.1, h_130.2, show (!decide (spg S i < 97) && !decide (122 < spg S i)) = isLt (spg S i) from rfl]
            refine g_if_ne C dX7_read_133 (t := 143) (by decide) (n := 136) rfl (fun c_133 => ?_) (fun c_133 => ?_)
            · have hl1 : isLt (spg S i) = true := bI_n.mp c_133
              refine g_aload0 C dX7_read_143 (n := 144) rfl ?_
              refine kg_X7_19 C sh_80 rfl dX7_read_144 (n := 147) rfl ?_
              refine g_iload4 C dX7_read_147 (n := 149) rfl ?_
              refine g_iload5 C dX7_read_149 (n := 151) rfl ?_
              refine g_bipush C bp_32 dX7_read_151 (n := 153) rfl ?_
              refine g_icmp_ne C dX7_read_153 (t := 160) (by decide) (n := 156) rfl (fun c_153 => ?_) (fun c_153 => ?_)
              · have hkk : kd S i = 0 := by
                  first | exact kd_lt0 hrn9 hl1 | exact absurd c_140 c_153
                refine g_iconst C ic_0 dX7_read_160 (n := 161) rfl ?_
                refine g_iast C (j := i) sh_84 (by decide) (hxi) (by omega) dX7_read_161 (n := 162) rfl (fun M_161 e_161 => ?_)
                have hB360 : xd = nI (rD S (i + 1)) ∧ u3 = nI (rU S (i + 1)) ∧ WRm M_161 (wrL S (i + 1)) ∧ QTm M_161 S (i + 1) ∧ KDm M_161 S (i + 1) ∧ DPm M_161 S i ∧ PTm M_161 S (i + 1) ∧ ((∀ a, (a < 84 ∨ 89 < a) → a ≠ 80 → M_161 a = M a) ∧ ∀ j, j ≠ 8 → j ≠ 11 → M_161 80 j = M 80 j) := by
                  have f : ∀ a, a ≠ 84 → M_161 a = M3 a := fun a ha => by rw [e_161, up2_ne _ _ ha]
                  have k4 : kd S i ≠ 4 := by rw [hkk]; decide
                  have k3 : kd S i ≠ 3 := by rw [hkk]; decide
                  have k6 : kd S i ≠ 6 := by rw [hkk]; decide
                  refine ⟨by rw [rD_s, if_neg k3, if_neg k4]; exact hxd, by rw [rU_s, hkk]; first | (simp; done) | (simp; exact hu30), ?_, QTm_n hQ3 (f 89 (by omega)) (by rw [f 80 (by omega)]) k3, KDm_s hK3 (by rw [e_161, up2_row]) (by rw [hkk]; rfl), fun k hk9 => by rw [f 85 (by omega)]; exact hD3 k hk9, PTm_n hP3 (f 86 (by omega)) k3 k4, fun a h1 h2 => by rw [f a (by omega)]; exact hF3.1 a h1 h2, fun j h1 h2 => by rw [f 80 (by omega)]; exact hF3.2 j h1 h2⟩
                  rw [wrL_s, wrB_no k6, List.append_nil]
                  exact WRm_cong hW3 (by rw [f 80 (by omega)]) (f 87 (by omega)) (f 88 (by omega))
                refine g_goto C dX7_read_162 (t := 360) (by decide) ?_
                exact J_360 _ _ _ _ hB360.1 hB360.2.1 hB360.2.2.1 hB360.2.2.2.1 hB360.2.2.2.2.1 hB360.2.2.2.2.2.1 hB360.2.2.2.2.2.2.1 hB360.2.2.2.2.2.2.2
              · have hkk : kd S i = 1 := kd_bl hrn9 c_153
                refine g_iconst C ic_1 dX7_read_156 (n := 157) rfl ?_
                refine g_goto C dX7_read_157 (t := 161) (by decide) ?_
                refine g_iast C (j := i) sh_84 (by decide) (hxi) (by omega) dX7_read_161 (n := 162) rfl (fun M_161 e_161 => ?_)
                have hB360 : xd = nI (rD S (i + 1)) ∧ u3 = nI (rU S (i + 1)) ∧ WRm M_161 (wrL S (i + 1)) ∧ QTm M_161 S (i + 1) ∧ KDm M_161 S (i + 1) ∧ DPm M_161 S i ∧ PTm M_161 S (i + 1) ∧ ((∀ a, (a < 84 ∨ 89 < a) → a ≠ 80 → M_161 a = M a) ∧ ∀ j, j ≠ 8 → j ≠ 11 → M_161 80 j = M 80 j) := by
                  have f : ∀ a, a ≠ 84 → M_161 a = M3 a := fun a ha => by rw [e_161, up2_ne _ _ ha]
                  have k4 : kd S i ≠ 4 := by rw [hkk]; decide
                  have k3 : kd S i ≠ 3 := by rw [hkk]; decide
                  have k6 : kd S i ≠ 6 := by rw [hkk]; decide
                  refine ⟨by rw [rD_s, if_neg k3, if_neg k4]; exact hxd, by rw [rU_s, hkk]; first | (simp; done) | (simp; exact hu30), ?_, QTm_n hQ3 (f 89 (by omega)) (by rw [f 80 (by omega)]) k3, KDm_s hK3 (by rw [e_161, up2_row]) (by rw [hkk]; rfl), fun k hk9 => by rw [f 85 (by omega)]; exact hD3 k hk9, PTm_n hP3 (f 86 (by omega)) k3 k4, fun a h1 h2 => by rw [f a (by omega)]; exact hF3.1 a h1 h2, fun j h1 h2 => by rw [f 80 (by omega)]; exact hF3.2 j h1 h2⟩
                  rw [wrL_s, wrB_no k6, List.append_nil]
                  exact WRm_cong hW3 (by rw [f 80 (by omega)]) (f 87 (by omega)) (f 88 (by omega))
                refine g_goto C dX7_read_162 (t := 360) (by decide) ?_
                exact J_360 _ _ _ _ hB360.1 hB360.2.1 hB360.2.2.1 hB360.2.2.2.1 hB360.2.2.2.2.1 hB360.2.2.2.2.2.1 hB360.2.2.2.2.2.2.1 hB360.2.2.2.2.2.2.2
            · have hl0 : isLt (spg S i) = false := bI_0.mp c_133
              refine g_iload5 C dX7_read_136 (n := 138) rfl ?_
              refine g_bipush C bp_32 dX7_read_138 (n := 140) rfl ?_
              refine g_icmp_ne C dX7_read_140 (t := 165) (by decide) (n := 143) rfl (fun c_140 => ?_) (fun c_140 => ?_)
              · have _u := True.intro
                refine g_iload5 C dX7_read_165 (n := 167) rfl ?_
                refine g_bipush C bp_124 dX7_read_167 (n := 169) rfl ?_
                refine g_icmp_ne C dX7_read_169 (t := 195) (by decide) (n := 172) rfl (fun c_169 => ?_) (fun c_169 => ?_)
                · have hl02 : spg S i ≠ 32 ∧ spg S i ≠ 124 := ⟨c_140, c_169⟩
                  have J_300 : (isOp S i = false) → (isCl S i = false) → G p l e ({ frames := 3, cells := 0, slots := 0, locals := 65 }) s m ([.ref (z + 80)] : List Value).toArray below meth c D cI cO z 8 (QM below D cI cO z ([.ref (z + 80)] : List Value).toArray s SH (pV (fun M1 => WRm M1 (wlE S) ∧ QTm M1 S (spn S) ∧ KDm M1 S (spn S) ∧ DPm M1 S (spn S) ∧ PTm M1 S (spn S) ∧ (∀ a, (a < 84 ∨ 89 < a) → a ≠ 80 → M1 a = M a) ∧ ∀ j, j ≠ 8 → j ≠ 11 → M1 80 j = M 80 j))) 0 0 SH M3 300 [some (.ref (z + 80)), some (.int (nI (spt S))), some (.int xd), some (.int u3), some (.int xi), some (.int (spg S i)), some (.int v6), o7] [] := by
                    intro hop hcl
                    refine g_aload0 C dX7_read_300 (n := 301) rfl ?_
                    refine kg_X7_19 C sh_80 rfl dX7_read_301 (n := 304) rfl ?_
                    refine g_iload4 C dX7_read_304 (n := 306) rfl ?_
                    refine g_bipush C bp_6 dX7_read_306 (n := 308) rfl ?_
                    refine g_iast C (j := i) sh_84 (by decide) (hxi) (by omega) dX7_read_308 (n := 309) rfl (fun M6 e6 => ?_)
                    have k6 : kd S i = 6 := by rw [kd_no hrn9 hl0 hl02.1 hl02.2, hop, hcl]; rfl
                    have f6 : ∀ a, a ≠ 84 → M6 a = M3 a := fun a ha => by rw [e6, up2_ne _ _ ha]
                    have hW6 : WRm M6 (wrL S i ++ wrA S i) := WRm_cong hW3 (by rw [f6 80 (by omega)]) (f6 87 (by omega)) (f6 88 (by omega))
                    have hlw : (wrL S i ++ wrA S i).length < 242 := by
                      have h1 := wrL_len S i
                      have h2 := wrA_len S i
                      rw [List.length_append]; omega
                    refine g_aload0 C dX7_read_309 (n := 310) rfl ?_
                    refine g_iload4 C dX7_read_310 (n := 312) rfl ?_
                    refine g_iload5 C dX7_read_312 (n := 314) rfl ?_
                    refine g_iload1 C dX7_read_314 (n := 315) rfl ?_
                    refine g_iconst C ic_0 dX7_read_315 (n := 316) rfl ?_
                    refine kc_X7_58 C (ct_X7_markOf SH M6 (spt S) 0 _ _ rfl nI_0.symm hwS.2.2.1 (by omega)) ⟨Nat.le_of_ble_eq_true rfl, Nat.le_of_ble_eq_true rfl⟩ ⟨Nat.zero_le _, Nat.zero_le _⟩ (Nat.le_of_ble_eq_true rfl) dX7_read_316 (n := 319) rfl (fun r_316 M_316 h_316 => ?_)
                    rw [h_316.1, h_316.2]
                    refine g_icmp_eq C dX7_read_319 (t := 352) (by decide) (n := 322) rfl (fun c_319 => ?_) (fun c_319 => ?_)
                    · have hown : ownS (spt S) (spg S i) = true := by unfold ownS; simp [c_319]
                      have hby : (1 : Int32) = nI (if ownS (spt S) (spg S i) then 1 else 2) := by rw [hown]; rfl
                      refine g_iconst C ic_1 dX7_read_352 (n := 353) rfl ?_
                      refine g_goto C dX7_read_353 (t := 357) (by decide) ?_
                      refine kc_X7_112 C (ct_X7_wrong1 M6 (wrL S i ++ wrA S i) i (if ownS (spt S) (spg S i) then 1 else 2) _ _ hW6 hlw hxi hby) sh_80 ⟨Nat.le_of_ble_eq_true rfl, Nat.le_of_ble_eq_true rfl⟩ ⟨Nat.zero_le _, Nat.zero_le _⟩ (Nat.le_of_ble_eq_true rfl) dX7_read_357 (n := 360) rfl (fun M8 h8 => ?_)
                      have hB360 : xd = nI (rD S (i + 1)) ∧ u3 = nI (rU S (i + 1)) ∧ WRm M8 (wrL S (i + 1)) ∧ QTm M8 S (i + 1) ∧ KDm M8 S (i + 1) ∧ DPm M8 S i ∧ PTm M8 S (i + 1) ∧ ((∀ a, (a < 84 ∨ 89 < a) → a ≠ 80 → M8 a = M a) ∧ ∀ j, j ≠ 8 → j ≠ 11 → M8 80 j = M 80 j) := by
                        have k4 : kd S i ≠ 4 := by rw [k6]; decide
                        have k3 : kd S i ≠ 3 := by rw [k6]; decide
                        have f : ∀ a, a ≠ 80 → a ≠ 84 → a ≠ 87 → a ≠ 88 → M8 a = M3 a := fun a h1 h2 h3 h4 => by rw [h8.2.1 a h1 h3 h4]; exact f6 a h2
                        have f80 : ∀ j, j ≠ 8 → M8 80 j = M3 80 j := fun j hj => by rw [h8.2.2 j hj, f6 80 (by omega)]
                        refine ⟨by rw [rD_s, if_neg k3, if_neg k4]; exact hxd, by rw [rU_s, k6]; simp; exact hu30, ?_, QTm_n hQ3 (f 89 (by omega) (by omega) (by omega) (by omega)) (f80 11 (by omega)) k3, KDm_s hK3 (by rw [h8.2.1 84 (by omega) (by omega) (by omega), e6, up2_row]) (by rw [k6]; rfl), fun k hk9 => by rw [f 85 (by omega) (by omega) (by omega) (by omega)]; exact hD3 k hk9, PTm_n hP3 (f 86 (by omega) (by omega) (by omega) (by omega)) k3 k4, fun a h1 h2 => by rw [f a h2 (by omega) (by omega) (by omega)]; exact hF3.1 a h1 h2, fun j h1 h2 => by rw [f80 j h1]; exact hF3.2 j h1 h2⟩
                        rw [wrL_s]; unfold wrB; rw [if_pos k6]; exact h8.1
                      exact J_360 _ _ _ _ hB360.1 hB360.2.1 hB360.2.2.1 hB360.2.2.2.1 hB360.2.2.2.2.1 hB360.2.2.2.2.2.1 hB360.2.2.2.2.2.2.1 hB360.2.2.2.2.2.2.2
                    · have _u := True.intro
                      refine g_iload5 C dX7_read_322 (n := 324) rfl ?_
                      refine g_iload1 C dX7_read_324 (n := 325) rfl ?_
                      refine g_iconst C ic_1 dX7_read_325 (n := 326) rfl ?_
                      refine kc_X7_58 C (ct_X7_markOf SH M6 (spt S) 1 _ _ rfl (show (1 : Int32) = nI 1 from rfl) hwS.2.2.1 (by omega)) ⟨Nat.le_of_ble_eq_true rfl, Nat.le_of_ble_eq_true rfl⟩ ⟨Nat.zero_le _, Nat.zero_le _⟩ (Nat.le_of_ble_eq_true rfl) dX7_read_326 (n := 329) rfl (fun r_326 M_326 h_326 => ?_)
                      rw [h_326.1, h_326.2]
                      refine g_icmp_eq C dX7_read_329 (t := 352) (by decide) (n := 332) rfl (fun c_329 => ?_) (fun c_329 => ?_)
                      · have hown : ownS (spt S) (spg S i) = true := by unfold ownS; simp [c_329]
                        have hby : (1 : Int32) = nI (if ownS (spt S) (spg S i) then 1 else 2) := by rw [hown]; rfl
                        refine g_iconst C ic_1 dX7_read_352 (n := 353) rfl ?_
                        refine g_goto C dX7_read_353 (t := 357) (by decide) ?_
                        refine kc_X7_112 C (ct_X7_wrong1 M6 (wrL S i ++ wrA S i) i (if ownS (spt S) (spg S i) then 1 else 2) _ _ hW6 hlw hxi hby) sh_80 ⟨Nat.le_of_ble_eq_true rfl, Nat.le_of_ble_eq_true rfl⟩ ⟨Nat.zero_le _, Nat.zero_le _⟩ (Nat.le_of_ble_eq_true rfl) dX7_read_357 (n := 360) rfl (fun M8 h8 => ?_)
                        have hB360 : xd = nI (rD S (i + 1)) ∧ u3 = nI (rU S (i + 1)) ∧ WRm M8 (wrL S (i + 1)) ∧ QTm M8 S (i + 1) ∧ KDm M8 S (i + 1) ∧ DPm M8 S i ∧ PTm M8 S (i + 1) ∧ ((∀ a, (a < 84 ∨ 89 < a) → a ≠ 80 → M8 a = M a) ∧ ∀ j, j ≠ 8 → j ≠ 11 → M8 80 j = M 80 j) := by
                          have k4 : kd S i ≠ 4 := by rw [k6]; decide
                          have k3 : kd S i ≠ 3 := by rw [k6]; decide
                          have f : ∀ a, a ≠ 80 → a ≠ 84 → a ≠ 87 → a ≠ 88 → M8 a = M3 a := fun a h1 h2 h3 h4 => by rw [h8.2.1 a h1 h3 h4]; exact f6 a h2
                          have f80 : ∀ j, j ≠ 8 → M8 80 j = M3 80 j := fun j hj => by rw [h8.2.2 j hj, f6 80 (by omega)]
                          refine ⟨by rw [rD_s, if_neg k3, if_neg k4]; exact hxd, by rw [rU_s, k6]; simp; exact hu30, ?_, QTm_n hQ3 (f 89 (by omega) (by omega) (by omega) (by omega)) (f80 11 (by omega)) k3, KDm_s hK3 (by rw [h8.2.1 84 (by omega) (by omega) (by omega), e6, up2_row]) (by rw [k6]; rfl), fun k hk9 => by rw [f 85 (by omega) (by omega) (by omega) (by omega)]; exact hD3 k hk9, PTm_n hP3 (f 86 (by omega) (by omega) (by omega) (by omega)) k3 k4, fun a h1 h2 => by rw [f a h2 (by omega) (by omega) (by omega)]; exact hF3.1 a h1 h2, fun j h1 h2 => by rw [f80 j h1]; exact hF3.2 j h1 h2⟩
                          rw [wrL_s]; unfold wrB; rw [if_pos k6]; exact h8.1
                        exact J_360 _ _ _ _ hB360.1 hB360.2.1 hB360.2.2.1 hB360.2.2.2.1 hB360.2.2.2.2.1 hB360.2.2.2.2.2.1 hB360.2.2.2.2.2.2.1 hB360.2.2.2.2.2.2.2
                      · have _u := True.intro
                        refine g_iload5 C dX7_read_332 (n := 334) rfl ?_
                        refine g_iload1 C dX7_read_334 (n := 335) rfl ?_
                        refine g_iconst C ic_2 dX7_read_335 (n := 336) rfl ?_
                        refine kc_X7_58 C (ct_X7_markOf SH M6 (spt S) 2 _ _ rfl (show (2 : Int32) = nI 2 from rfl) hwS.2.2.1 (by omega)) ⟨Nat.le_of_ble_eq_true rfl, Nat.le_of_ble_eq_true rfl⟩ ⟨Nat.zero_le _, Nat.zero_le _⟩ (Nat.le_of_ble_eq_true rfl) dX7_read_336 (n := 339) rfl (fun r_336 M_336 h_336 => ?_)
                        rw [h_336.1, h_336.2]
                        refine g_icmp_eq C dX7_read_339 (t := 352) (by decide) (n := 342) rfl (fun c_339 => ?_) (fun c_339 => ?_)
                        · have hown : ownS (spt S) (spg S i) = true := by unfold ownS; simp [c_339]
                          have hby : (1 : Int32) = nI (if ownS (spt S) (spg S i) then 1 else 2) := by rw [hown]; rfl
                          refine g_iconst C ic_1 dX7_read_352 (n := 353) rfl ?_
                          refine g_goto C dX7_read_353 (t := 357) (by decide) ?_
                          refine kc_X7_112 C (ct_X7_wrong1 M6 (wrL S i ++ wrA S i) i (if ownS (spt S) (spg S i) then 1 else 2) _ _ hW6 hlw hxi hby) sh_80 ⟨Nat.le_of_ble_eq_true rfl, Nat.le_of_ble_eq_true rfl⟩ ⟨Nat.zero_le _, Nat.zero_le _⟩ (Nat.le_of_ble_eq_true rfl) dX7_read_357 (n := 360) rfl (fun M8 h8 => ?_)
                          have hB360 : xd = nI (rD S (i + 1)) ∧ u3 = nI (rU S (i + 1)) ∧ WRm M8 (wrL S (i + 1)) ∧ QTm M8 S (i + 1) ∧ KDm M8 S (i + 1) ∧ DPm M8 S i ∧ PTm M8 S (i + 1) ∧ ((∀ a, (a < 84 ∨ 89 < a) → a ≠ 80 → M8 a = M a) ∧ ∀ j, j ≠ 8 → j ≠ 11 → M8 80 j = M 80 j) := by
                            have k4 : kd S i ≠ 4 := by rw [k6]; decide
                            have k3 : kd S i ≠ 3 := by rw [k6]; decide
                            have f : ∀ a, a ≠ 80 → a ≠ 84 → a ≠ 87 → a ≠ 88 → M8 a = M3 a := fun a h1 h2 h3 h4 => by rw [h8.2.1 a h1 h3 h4]; exact f6 a h2
                            have f80 : ∀ j, j ≠ 8 → M8 80 j = M3 80 j := fun j hj => by rw [h8.2.2 j hj, f6 80 (by omega)]
                            refine ⟨by rw [rD_s, if_neg k3, if_neg k4]; exact hxd, by rw [rU_s, k6]; simp; exact hu30, ?_, QTm_n hQ3 (f 89 (by omega) (by omega) (by omega) (by omega)) (f80 11 (by omega)) k3, KDm_s hK3 (by rw [h8.2.1 84 (by omega) (by omega) (by omega), e6, up2_row]) (by rw [k6]; rfl), fun k hk9 => by rw [f 85 (by omega) (by omega) (by omega) (by omega)]; exact hD3 k hk9, PTm_n hP3 (f 86 (by omega) (by omega) (by omega) (by omega)) k3 k4, fun a h1 h2 => by rw [f a h2 (by omega) (by omega) (by omega)]; exact hF3.1 a h1 h2, fun j h1 h2 => by rw [f80 j h1]; exact hF3.2 j h1 h2⟩
                            rw [wrL_s]; unfold wrB; rw [if_pos k6]; exact h8.1
                          exact J_360 _ _ _ _ hB360.1 hB360.2.1 hB360.2.2.1 hB360.2.2.2.1 hB360.2.2.2.2.1 hB360.2.2.2.2.2.1 hB360.2.2.2.2.2.2.1 hB360.2.2.2.2.2.2.2
                        · have _u := True.intro
                          refine g_iload5 C dX7_read_342 (n := 344) rfl ?_
                          refine g_iload1 C dX7_read_344 (n := 345) rfl ?_
                          refine g_iconst C ic_3 dX7_read_345 (n := 346) rfl ?_
                          refine kc_X7_58 C (ct_X7_markOf SH M6 (spt S) 3 _ _ rfl (show (3 : Int32) = nI 3 from rfl) hwS.2.2.1 (by omega)) ⟨Nat.le_of_ble_eq_true rfl, Nat.le_of_ble_eq_true rfl⟩ ⟨Nat.zero_le _, Nat.zero_le _⟩ (Nat.le_of_ble_eq_true rfl) dX7_read_346 (n := 349) rfl (fun r_346 M_346 h_346 => ?_)
                          rw [h_346.1, h_346.2]
                          refine g_icmp_ne C dX7_read_349 (t := 356) (by decide) (n := 352) rfl (fun c_349 => ?_) (fun c_349 => ?_)
                          · have hown : ownS (spt S) (spg S i) = false := by
                              unfold ownS
                              simp [Ne.symm c_319, Ne.symm c_329, Ne.symm c_339, Ne.symm c_349]
                            have hby : (2 : Int32) = nI (if ownS (spt S) (spg S i) then 1 else 2) := by rw [hown]; rfl
                            refine g_iconst C ic_2 dX7_read_356 (n := 357) rfl ?_
                            refine kc_X7_112 C (ct_X7_wrong1 M6 (wrL S i ++ wrA S i) i (if ownS (spt S) (spg S i) then 1 else 2) _ _ hW6 hlw hxi hby) sh_80 ⟨Nat.le_of_ble_eq_true rfl, Nat.le_of_ble_eq_true rfl⟩ ⟨Nat.zero_le _, Nat.zero_le _⟩ (Nat.le_of_ble_eq_true rfl) dX7_read_357 (n := 360) rfl (fun M8 h8 => ?_)
                            have hB360 : xd = nI (rD S (i + 1)) ∧ u3 = nI (rU S (i + 1)) ∧ WRm M8 (wrL S (i + 1)) ∧ QTm M8 S (i + 1) ∧ KDm M8 S (i + 1) ∧ DPm M8 S i ∧ PTm M8 S (i + 1) ∧ ((∀ a, (a < 84 ∨ 89 < a) → a ≠ 80 → M8 a = M a) ∧ ∀ j, j ≠ 8 → j ≠ 11 → M8 80 j = M 80 j) := by
                              have k4 : kd S i ≠ 4 := by rw [k6]; decide
                              have k3 : kd S i ≠ 3 := by rw [k6]; decide
                              have f : ∀ a, a ≠ 80 → a ≠ 84 → a ≠ 87 → a ≠ 88 → M8 a = M3 a := fun a h1 h2 h3 h4 => by rw [h8.2.1 a h1 h3 h4]; exact f6 a h2
                              have f80 : ∀ j, j ≠ 8 → M8 80 j = M3 80 j := fun j hj => by rw [h8.2.2 j hj, f6 80 (by omega)]
                              refine ⟨by rw [rD_s, if_neg k3, if_neg k4]; exact hxd, by rw [rU_s, k6]; simp; exact hu30, ?_, QTm_n hQ3 (f 89 (by omega) (by omega) (by omega) (by omega)) (f80 11 (by omega)) k3, KDm_s hK3 (by rw [h8.2.1 84 (by omega) (by omega) (by omega), e6, up2_row]) (by rw [k6]; rfl), fun k hk9 => by rw [f 85 (by omega) (by omega) (by omega) (by omega)]; exact hD3 k hk9, PTm_n hP3 (f 86 (by omega) (by omega) (by omega) (by omega)) k3 k4, fun a h1 h2 => by rw [f a h2 (by omega) (by omega) (by omega)]; exact hF3.1 a h1 h2, fun j h1 h2 => by rw [f80 j h1]; exact hF3.2 j h1 h2⟩
                              rw [wrL_s]; unfold wrB; rw [if_pos k6]; exact h8.1
                            exact J_360 _ _ _ _ hB360.1 hB360.2.1 hB360.2.2.1 hB360.2.2.2.1 hB360.2.2.2.2.1 hB360.2.2.2.2.2.1 hB360.2.2.2.2.2.2.1 hB360.2.2.2.2.2.2.2
                          · have hown : ownS (spt S) (spg S i) = true := by unfold ownS; simp [c_349]
                            have hby : (1 : Int32) = nI (if ownS (spt S) (spg S i) then 1 else 2) := by rw [hown]; rfl
                            refine g_iconst C ic_1 dX7_read_352 (n := 353) rfl ?_
                            refine g_goto C dX7_read_353 (t := 357) (by decide) ?_
                            refine kc_X7_112 C (ct_X7_wrong1 M6 (wrL S i ++ wrA S i) i (if ownS (spt S) (spg S i) then 1 else 2) _ _ hW6 hlw hxi hby) sh_80 ⟨Nat.le_of_ble_eq_true rfl, Nat.le_of_ble_eq_true rfl⟩ ⟨Nat.zero_le _, Nat.zero_le _⟩ (Nat.le_of_ble_eq_true rfl) dX7_read_357 (n := 360) rfl (fun M8 h8 => ?_)
                            have hB360 : xd = nI (rD S (i + 1)) ∧ u3 = nI (rU S (i + 1)) ∧ WRm M8 (wrL S (i + 1)) ∧ QTm M8 S (i + 1) ∧ KDm M8 S (i + 1) ∧ DPm M8 S i ∧ PTm M8 S (i + 1) ∧ ((∀ a, (a < 84 ∨ 89 < a) → a ≠ 80 → M8 a = M a) ∧ ∀ j, j ≠ 8 → j ≠ 11 → M8 80 j = M 80 j) := by
                              have k4 : kd S i ≠ 4 := by rw [k6]; decide
                              have k3 : kd S i ≠ 3 := by rw [k6]; decide
                              have f : ∀ a, a ≠ 80 → a ≠ 84 → a ≠ 87 → a ≠ 88 → M8 a = M3 a := fun a h1 h2 h3 h4 => by rw [h8.2.1 a h1 h3 h4]; exact f6 a h2
                              have f80 : ∀ j, j ≠ 8 → M8 80 j = M3 80 j := fun j hj => by rw [h8.2.2 j hj, f6 80 (by omega)]
                              refine ⟨by rw [rD_s, if_neg k3, if_neg k4]; exact hxd, by rw [rU_s, k6]; simp; exact hu30, ?_, QTm_n hQ3 (f 89 (by omega) (by omega) (by omega) (by omega)) (f80 11 (by omega)) k3, KDm_s hK3 (by rw [h8.2.1 84 (by omega) (by omega) (by omega), e6, up2_row]) (by rw [k6]; rfl), fun k hk9 => by rw [f 85 (by omega) (by omega) (by omega) (by omega)]; exact hD3 k hk9, PTm_n hP3 (f 86 (by omega) (by omega) (by omega) (by omega)) k3 k4, fun a h1 h2 => by rw [f a h2 (by omega) (by omega) (by omega)]; exact hF3.1 a h1 h2, fun j h1 h2 => by rw [f80 j h1]; exact hF3.2 j h1 h2⟩
                              rw [wrL_s]; unfold wrB; rw [if_pos k6]; exact h8.1
                            exact J_360 _ _ _ _ hB360.1 hB360.2.1 hB360.2.2.1 hB360.2.2.2.1 hB360.2.2.2.2.1 hB360.2.2.2.2.2.1 hB360.2.2.2.2.2.2.1 hB360.2.2.2.2.2.2.2
                  have J_249 : (isCl S i = false) → G p l e ({ frames := 3, cells := 0, slots := 0, locals := 65 }) s m ([.ref (z + 80)] : List Value).toArray below meth c D cI cO z 8 (QM below D cI cO z ([.ref (z + 80)] : List Value).toArray s SH (pV (fun M1 => WRm M1 (wlE S) ∧ QTm M1 S (spn S) ∧ KDm M1 S (spn S) ∧ DPm M1 S (spn S) ∧ PTm M1 S (spn S) ∧ (∀ a, (a < 84 ∨ 89 < a) → a ≠ 80 → M1 a = M a) ∧ ∀ j, j ≠ 8 → j ≠ 11 → M1 80 j = M 80 j))) 0 0 SH M3 249 [some (.ref (z + 80)), some (.int (nI (spt S))), some (.int xd), some (.int u3), some (.int xi), some (.int (spg S i)), some (.int v6), o7] [] := by
                    intro hcl
                    refine g_iload2 C dX7_read_249 (n := 250) rfl ?_
                    refine g_bipush C bp_6 dX7_read_250 (n := 252) rfl ?_
                    refine g_icmp_ge C dX7_read_252 (t := 300) (by decide) (n := 255) rfl (fun c_252 => ?_) (fun c_252 => ?_)
                    · have hop0 : isOp S i = false := by
                        have w252 : ¬ rD S i < 6 := fun h => c_252 ((qlt hxd (show (6 : Int32) = nI 6 from rfl) (by omega) (by decide)).mpr h)
                        unfold isOp
                        simp; intro h; omega
                      exact J_300 hop0 hcl
                    · have w252 : rD S i < 6 := (qlt hxd (show (6 : Int32) = nI 6 from rfl) (by omega) (by decide)).mp c_252
                      refine g_iload5 C dX7_read_255 (n := 257) rfl ?_
                      refine g_iload1 C dX7_read_257 (n := 258) rfl ?_
                      refine g_iload2 C dX7_read_258 (n := 259) rfl ?_
                      refine kc_X7_62 C (ct_X7_opener SH M3 (spt S) (rD S i) _ _ rfl hxd hwS.2.2.1 (by omega)) ⟨Nat.le_of_ble_eq_true rfl, Nat.le_of_ble_eq_true rfl⟩ ⟨Nat.zero_le _, Nat.zero_le _⟩ (Nat.le_of_ble_eq_true rfl) dX7_read_259 (n := 262) rfl (fun r_259 M_259 h_259 => ?_)
                      rw [h_259.1, h_259.2]
                      refine g_icmp_ne C dX7_read_262 (t := 300) (by decide) (n := 265) rfl (fun c_262 => ?_) (fun c_262 => ?_)
                      · have hop0 : isOp S i = false := by
                          unfold isOp
                          simp; intro _; exact c_262
                        exact J_300 hop0 hcl
                      · have hop1 : isOp S i = true := by
                          unfold isOp
                          simp; exact ⟨w252, c_262⟩
                        have k3 : kd S i = 3 := by rw [kd_no hrn9 hl0 hl02.1 hl02.2, hop1]; rfl
                        have hct := ctn_le (kdIs S 3) i
                        refine g_aload0 C dX7_read_265 (n := 266) rfl ?_
                        refine kg_X7_19 C sh_80 rfl dX7_read_266 (n := 269) rfl ?_
                        refine g_iload4 C dX7_read_269 (n := 271) rfl ?_
                        refine g_iconst C ic_3 dX7_read_271 (n := 272) rfl ?_
                        refine g_iast C (j := i) sh_84 (by decide) (hxi) (by omega) dX7_read_272 (n := 273) rfl (fun M6 e6 => ?_)
                        refine g_aload0 C dX7_read_273 (n := 274) rfl ?_
                        refine kg_X7_34 C sh_80 rfl dX7_read_274 (n := 277) rfl ?_
                        refine g_aload0 C dX7_read_277 (n := 278) rfl ?_
                        refine kg_X7_105 C sh_80 rfl dX7_read_278 (n := 281) rfl ?_
                        refine g_iload4 C dX7_read_281 (n := 283) rfl ?_
                        refine g_iast C (j := ctn (kdIs S 3) i) sh_89 (by decide) (by rw [e6, up2_ne _ _ (by omega)]; exact hQ3.1) (by omega) dX7_read_283 (n := 284) rfl (fun M7 e7 => ?_)
                        refine g_aload0 C dX7_read_284 (n := 285) rfl ?_
                        refine g_dup C rfl dX7_read_285 (n := 286) rfl ?_
                        refine kg_X7_105 C sh_80 rfl dX7_read_286 (n := 289) rfl ?_
                        refine g_iconst C ic_1 dX7_read_289 (n := 290) rfl ?_
                        refine g_iadd C dX7_read_290 (n := 291) rfl ?_
                        refine kp_X7_105 C sh_80 rfl dX7_read_291 (n := 294) rfl (fun M8 e8 => ?_)
                        refine g_iinc2 C (inc_1 _) dX7_read_294 (n := 297) rfl ?_
                        have hB360 : (xd + 1) = nI (rD S (i + 1)) ∧ u3 = nI (rU S (i + 1)) ∧ WRm M8 (wrL S (i + 1)) ∧ QTm M8 S (i + 1) ∧ KDm M8 S (i + 1) ∧ DPm M8 S i ∧ PTm M8 S (i + 1) ∧ ((∀ a, (a < 84 ∨ 89 < a) → a ≠ 80 → M8 a = M a) ∧ ∀ j, j ≠ 8 → j ≠ 11 → M8 80 j = M 80 j) := by
                          have f : ∀ a, a ≠ 84 → a ≠ 89 → a ≠ 80 → M8 a = M3 a := fun a ha hb hc => by rw [e8, up2_ne _ _ hc, e7, up2_ne _ _ hb, e6, up2_ne _ _ ha]
                          have f80 : ∀ j, j ≠ 11 → M8 80 j = M3 80 j := fun j hj => by rw [e8]; simp [up2, hj]; rw [e7, up2_ne _ _ (by omega), e6, up2_ne _ _ (by omega)]
                          have k4 : kd S i ≠ 4 := by rw [k3]; decide
                          have k6 : kd S i ≠ 6 := by rw [k3]; decide
                          refine ⟨by rw [rD_s, if_pos k3, hxd, nI_1], by rw [rU_s, k3]; simp; exact hu30, ?_, QTm_o hQ3 k3 hxi (by rw [e8, up2_ne _ _ (by omega), e7, up2_row, e6, up2_ne _ _ (by omega)]) (by rw [e8, up2_at, e7, up2_ne _ _ (by omega), e6, up2_ne _ _ (by omega), hQ3.1, nI_1]), KDm_s hK3 (by rw [e8, up2_ne _ _ (by omega), e7, up2_ne _ _ (by omega), e6, up2_row]) (by rw [k3]; rfl), fun k hk9 => by rw [f 85 (by omega) (by omega) (by omega)]; exact hD3 k hk9, fun k hk9 => ?_, fun a h1 h2 => by rw [f a (by omega) (by omega) h2]; exact hF3.1 a h1 h2, fun j h1 h2 => by rw [f80 j h2]; exact hF3.2 j h1 h2⟩
                          · rw [wrL_s, wrB_no k6, List.append_nil]
                            exact WRm_cong hW3 (f80 8 (by omega)) (f 87 (by omega) (by omega) (by omega)) (f 88 (by omega) (by omega) (by omega))
                          · rw [f 86 (by omega) (by omega) (by omega), clo_sn k4]
                            by_cases h2 : k = i
                            · rw [h2]
                              exact ⟨fun _ => by rw [clo_ge S i i (Nat.le_refl _)]; exact h86, fun q => absurd q k4⟩
                            · exact hP3 k (by omega)
                        refine g_goto C dX7_read_297 (t := 360) (by decide) ?_
                        exact J_360 _ _ _ _ hB360.1 hB360.2.1 hB360.2.2.1 hB360.2.2.2.1 hB360.2.2.2.2.1 hB360.2.2.2.2.2.1 hB360.2.2.2.2.2.2.1 hB360.2.2.2.2.2.2.2
                  refine g_iload2 C dX7_read_195 (n := 196) rfl ?_
                  refine g_if_le C dX7_read_196 (t := 249) (by decide) (n := 199) rfl (fun c_196 => ?_) (fun c_196 => ?_)
                  · have hcl0 : isCl S i = false := by
                      have w196 : ¬ 0 < rD S i := fun h => c_196 ((qlt nI_0.symm hxd (by decide) (by omega)).mpr h)
                      unfold isCl
                      simp; intro h; omega
                    exact J_249 hcl0
                  · have w196 : 0 < rD S i := (qlt nI_0.symm hxd (by decide) (by omega)).mp c_196
                    refine g_iload5 C dX7_read_199 (n := 201) rfl ?_
                    refine g_iload1 C dX7_read_201 (n := 202) rfl ?_
                    refine g_iload2 C dX7_read_202 (n := 203) rfl ?_
                    refine kc_X7_119 C (ct_X7_closer SH M3 (spt S) (rD S i) _ _ rfl hxd hwS.2.2.1 (by omega)) ⟨Nat.le_of_ble_eq_true rfl, Nat.le_of_ble_eq_true rfl⟩ ⟨Nat.zero_le _, Nat.zero_le _⟩ (Nat.le_of_ble_eq_true rfl) dX7_read_203 (n := 206) rfl (fun r_203 M_203 h_203 => ?_)
                    rw [h_203.1, h_203.2]
                    refine g_icmp_ne C dX7_read_206 (t := 249) (by decide) (n := 209) rfl (fun c_206 => ?_) (fun c_206 => ?_)
                    · have hcl0 : isCl S i = false := by
                        unfold isCl
                        simp; intro _; exact c_206
                      exact J_249 hcl0
                    · have hcl1 : isCl S i = true := by
                        unfold isCl
                        simp; exact ⟨by omega, c_206⟩
                      have hop9 : isOp S i = false := by
                        unfold isOp
                        simp; intro _ h; exact opn_ne_cls (spt S) hwS.2.2.1 (rD S i) (h.symm.trans c_206)
                      have k4 : kd S i = 4 := by rw [kd_no hrn9 hl0 hl02.1 hl02.2, hop9, hcl1]; rfl
                      obtain ⟨o0, ho0⟩ := sk_head (S := S) (i := i) (by omega)
                      have hlv0 := sk_lv S i 0 o0 ho0
                      refine g_aload0 C dX7_read_209 (n := 210) rfl ?_
                      refine g_iload4 C dX7_read_210 (n := 212) rfl ?_
                      refine kc_X7_122 C (ct_X7_opened M3 S i o0 _ hxi (by omega) hK3 hP3 ho0) sh_80 ⟨Nat.le_of_ble_eq_true rfl, Nat.le_of_ble_eq_true rfl⟩ ⟨Nat.zero_le _, Nat.zero_le _⟩ (Nat.le_of_ble_eq_true rfl) dX7_read_212 (n := 215) rfl (fun r_212 M_212 h_212 => ?_)
                      rw [h_212.1, h_212.2]
                      refine g_istore7 C dX7_read_215 (n := 217) rfl ?_
                      refine g_aload0 C dX7_read_217 (n := 218) rfl ?_
                      refine kg_X7_25 C sh_80 rfl dX7_read_218 (n := 221) rfl ?_
                      refine g_iload4 C dX7_read_221 (n := 223) rfl ?_
                      refine g_iload7 C dX7_read_223 (n := 225) rfl ?_
                      refine g_iast C (j := i) sh_86 (by decide) (hxi) (by omega) dX7_read_225 (n := 226) rfl (fun M6 e6 => ?_)
                      refine g_aload0 C dX7_read_226 (n := 227) rfl ?_
                      refine kg_X7_25 C sh_80 rfl dX7_read_227 (n := 230) rfl ?_
                      refine g_iload7 C dX7_read_230 (n := 232) rfl ?_
                      refine g_iload4 C dX7_read_232 (n := 234) rfl ?_
                      refine g_iast C (j := o0) sh_86 (by decide) (rfl) (by omega) dX7_read_234 (n := 235) rfl (fun M7 e7 => ?_)
                      refine g_aload0 C dX7_read_235 (n := 236) rfl ?_
                      refine kg_X7_19 C sh_80 rfl dX7_read_236 (n := 239) rfl ?_
                      refine g_iload4 C dX7_read_239 (n := 241) rfl ?_
                      refine g_iconst C ic_4 dX7_read_241 (n := 242) rfl ?_
                      refine g_iast C (j := i) sh_84 (by decide) (hxi) (by omega) dX7_read_242 (n := 243) rfl (fun M8 e8 => ?_)
                      refine g_iinc2 C (inc_m1 _) dX7_read_243 (n := 246) rfl ?_
                      have hB360 : (xd + -1) = nI (rD S (i + 1)) ∧ u3 = nI (rU S (i + 1)) ∧ WRm M8 (wrL S (i + 1)) ∧ QTm M8 S (i + 1) ∧ KDm M8 S (i + 1) ∧ DPm M8 S i ∧ PTm M8 S (i + 1) ∧ ((∀ a, (a < 84 ∨ 89 < a) → a ≠ 80 → M8 a = M a) ∧ ∀ j, j ≠ 8 → j ≠ 11 → M8 80 j = M 80 j) := by
                        have f : ∀ a, a ≠ 84 → a ≠ 86 → M8 a = M3 a := fun a ha hb => by rw [e8, up2_ne _ _ ha, e7, up2_ne _ _ hb, e6, up2_ne _ _ hb]
                        have g86 : ∀ k, M8 86 k = if k = o0 then xi else if k = i then nI o0 else M3 86 k := fun k => by
                          rw [e8, up2_ne _ _ (by omega), e7]
                          by_cases h1 : k = o0
                          · rw [h1, up2_at, if_pos rfl]
                          · rw [if_neg h1, e6]
                            by_cases h2 : k = i
                            · rw [h2]; simp [up2]; intro h; omega
                            · rw [if_neg h2]; simp [up2, h1, h2]
                        have k3 : kd S i ≠ 3 := by rw [k4]; decide
                        have k6 : kd S i ≠ 6 := by rw [k4]; decide
                        refine ⟨by rw [rD_s, if_neg k3, if_pos k4, hxd]; generalize rD S i = d9 at w196 ⊢; rw [show d9 = (d9 - 1) + 1 by omega]; exact pk_m1 _, by rw [rU_s, k4]; simp; exact hu30, ?_, QTm_n hQ3 (f 89 (by omega) (by omega)) (by rw [f 80 (by omega) (by omega)]) k3, KDm_s hK3 (by rw [e8, up2_row, e7, up2_ne _ _ (by omega), e6, up2_ne _ _ (by omega)]) (by rw [k4]; rfl), fun k hk9 => by rw [f 85 (by omega) (by omega)]; exact hD3 k hk9, fun k hk9 => ?_, fun a h1 h2 => by rw [f a (by omega) (by omega)]; exact hF3.1 a h1 h2, fun j h1 h2 => by rw [f 80 (by omega) (by omega)]; exact hF3.2 j h1 h2⟩
                        · rw [wrL_s, wrB_no k6, List.append_nil]
                          exact WRm_cong hW3 (by rw [f 80 (by omega) (by omega)]) (f 87 (by omega) (by omega)) (f 88 (by omega) (by omega))
                        · rw [g86]
                          by_cases h1 : k = o0
                          · rw [if_pos h1, h1]
                            refine ⟨fun _ => ?_, fun q => by rw [hlv0.2.1] at q; cases q⟩
                            rw [clo_s, if_pos ⟨k4, by rw [List.head?_eq_getElem?]; exact ho0⟩]; exact hxi
                          · rw [if_neg h1]
                            by_cases h2 : k = i
                            · rw [if_pos h2, h2]
                              exact ⟨fun q => absurd q k3, fun _ => ⟨o0, ho0, rfl⟩⟩
                            · rw [if_neg h2, clo_s, if_neg]
                              · exact hP3 k (by omega)
                              · rintro ⟨_, h5⟩
                                rw [List.head?_eq_getElem?, ho0] at h5
                                exact h1 (Option.some.inj h5).symm
                      refine g_goto C dX7_read_246 (t := 360) (by decide) ?_
                      exact J_360 _ _ _ _ hB360.1 hB360.2.1 hB360.2.2.1 hB360.2.2.2.1 hB360.2.2.2.2.1 hB360.2.2.2.2.2.1 hB360.2.2.2.2.2.2.1 hB360.2.2.2.2.2.2.2
                · have hkk : kd S i = 2 := kd_br hrn9 c_169
                  refine g_aload0 C dX7_read_172 (n := 173) rfl ?_
                  refine kg_X7_19 C sh_80 rfl dX7_read_173 (n := 176) rfl ?_
                  refine g_iload4 C dX7_read_176 (n := 178) rfl ?_
                  refine g_iconst C ic_2 dX7_read_178 (n := 179) rfl ?_
                  refine g_iast C (j := i) sh_84 (by decide) (hxi) (by omega) dX7_read_179 (n := 180) rfl (fun M_179 e_179 => ?_)
                  have e829 : M_179 82 = M 82 := by rw [e_179, up2_ne _ _ (by omega)]; exact hF3.1 82 (by omega) (by omega)
                  refine g_aload0 C dX7_read_180 (n := 181) rfl ?_
                  refine kg_X7_13 C sh_80 rfl dX7_read_181 (n := 184) rfl ?_
                  refine g_bipush C bp_122 dX7_read_184 (n := 186) rfl ?_
                  refine g_iald C (j := 122) sh_82 (by decide) (rfl) (by omega) dX7_read_186 (n := 187) rfl ?_
                  refine g_iload2 C dX7_read_187 (n := 188) rfl ?_
                  refine kc_X7_116 C (ct_X7_dueMany SH M_179 (spr S) (rD S i) _ _ (by rw [e829]; exact hsp.2.2.2.1) hxd hwS.2.2.2.1 (by omega)) ⟨Nat.le_of_ble_eq_true rfl, Nat.le_of_ble_eq_true rfl⟩ ⟨Nat.zero_le _, Nat.zero_le _⟩ (Nat.le_of_ble_eq_true rfl) dX7_read_188 (n := 191) rfl (fun r_188 M_188 h_188 => ?_)
                  rw [h_188.1, h_188.2]
                  refine g_istore3 C dX7_read_191 (n := 192) rfl ?_
                  have hB360 : xd = nI (rD S (i + 1)) ∧ nI (dmy (spr S) (rD S i)) = nI (rU S (i + 1)) ∧ WRm M_179 (wrL S (i + 1)) ∧ QTm M_179 S (i + 1) ∧ KDm M_179 S (i + 1) ∧ DPm M_179 S i ∧ PTm M_179 S (i + 1) ∧ ((∀ a, (a < 84 ∨ 89 < a) → a ≠ 80 → M_179 a = M a) ∧ ∀ j, j ≠ 8 → j ≠ 11 → M_179 80 j = M 80 j) := by
                    have f : ∀ a, a ≠ 84 → M_179 a = M3 a := fun a ha => by rw [e_179, up2_ne _ _ ha]
                    have k4 : kd S i ≠ 4 := by rw [hkk]; decide
                    have k3 : kd S i ≠ 3 := by rw [hkk]; decide
                    have k6 : kd S i ≠ 6 := by rw [hkk]; decide
                    refine ⟨by rw [rD_s, if_neg k3, if_neg k4]; exact hxd, by rw [rU_s, hkk]; first | (simp; done) | (simp; exact hu30), ?_, QTm_n hQ3 (f 89 (by omega)) (by rw [f 80 (by omega)]) k3, KDm_s hK3 (by rw [e_179, up2_row]) (by rw [hkk]; rfl), fun k hk9 => by rw [f 85 (by omega)]; exact hD3 k hk9, PTm_n hP3 (f 86 (by omega)) k3 k4, fun a h1 h2 => by rw [f a (by omega)]; exact hF3.1 a h1 h2, fun j h1 h2 => by rw [f 80 (by omega)]; exact hF3.2 j h1 h2⟩
                    rw [wrL_s, wrB_no k6, List.append_nil]
                    exact WRm_cong hW3 (by rw [f 80 (by omega)]) (f 87 (by omega)) (f 88 (by omega))
                  refine g_goto C dX7_read_192 (t := 360) (by decide) ?_
                  exact J_360 _ _ _ _ hB360.1 hB360.2.1 hB360.2.2.1 hB360.2.2.2.1 hB360.2.2.2.2.1 hB360.2.2.2.2.2.1 hB360.2.2.2.2.2.2.1 hB360.2.2.2.2.2.2.2
              · have _u := True.intro
                refine g_aload0 C dX7_read_143 (n := 144) rfl ?_
                refine kg_X7_19 C sh_80 rfl dX7_read_144 (n := 147) rfl ?_
                refine g_iload4 C dX7_read_147 (n := 149) rfl ?_
                refine g_iload5 C dX7_read_149 (n := 151) rfl ?_
                refine g_bipush C bp_32 dX7_read_151 (n := 153) rfl ?_
                refine g_icmp_ne C dX7_read_153 (t := 160) (by decide) (n := 156) rfl (fun c_153 => ?_) (fun c_153 => ?_)
                · have hkk : kd S i = 0 := by
                    first | exact kd_lt0 hrn9 hl1 | exact absurd c_140 c_153
                  refine g_iconst C ic_0 dX7_read_160 (n := 161) rfl ?_
                  refine g_iast C (j := i) sh_84 (by decide) (hxi) (by omega) dX7_read_161 (n := 162) rfl (fun M_161 e_161 => ?_)
                  have hB360 : xd = nI (rD S (i + 1)) ∧ u3 = nI (rU S (i + 1)) ∧ WRm M_161 (wrL S (i + 1)) ∧ QTm M_161 S (i + 1) ∧ KDm M_161 S (i + 1) ∧ DPm M_161 S i ∧ PTm M_161 S (i + 1) ∧ ((∀ a, (a < 84 ∨ 89 < a) → a ≠ 80 → M_161 a = M a) ∧ ∀ j, j ≠ 8 → j ≠ 11 → M_161 80 j = M 80 j) := by
                    have f : ∀ a, a ≠ 84 → M_161 a = M3 a := fun a ha => by rw [e_161, up2_ne _ _ ha]
                    have k4 : kd S i ≠ 4 := by rw [hkk]; decide
                    have k3 : kd S i ≠ 3 := by rw [hkk]; decide
                    have k6 : kd S i ≠ 6 := by rw [hkk]; decide
                    refine ⟨by rw [rD_s, if_neg k3, if_neg k4]; exact hxd, by rw [rU_s, hkk]; first | (simp; done) | (simp; exact hu30), ?_, QTm_n hQ3 (f 89 (by omega)) (by rw [f 80 (by omega)]) k3, KDm_s hK3 (by rw [e_161, up2_row]) (by rw [hkk]; rfl), fun k hk9 => by rw [f 85 (by omega)]; exact hD3 k hk9, PTm_n hP3 (f 86 (by omega)) k3 k4, fun a h1 h2 => by rw [f a (by omega)]; exact hF3.1 a h1 h2, fun j h1 h2 => by rw [f 80 (by omega)]; exact hF3.2 j h1 h2⟩
                    rw [wrL_s, wrB_no k6, List.append_nil]
                    exact WRm_cong hW3 (by rw [f 80 (by omega)]) (f 87 (by omega)) (f 88 (by omega))
                  refine g_goto C dX7_read_162 (t := 360) (by decide) ?_
                  exact J_360 _ _ _ _ hB360.1 hB360.2.1 hB360.2.2.1 hB360.2.2.2.1 hB360.2.2.2.2.1 hB360.2.2.2.2.2.1 hB360.2.2.2.2.2.2.1 hB360.2.2.2.2.2.2.2
                · have hkk : kd S i = 1 := kd_bl hrn9 c_153
                  refine g_iconst C ic_1 dX7_read_156 (n := 157) rfl ?_
                  refine g_goto C dX7_read_157 (t := 161) (by decide) ?_
                  refine g_iast C (j := i) sh_84 (by decide) (hxi) (by omega) dX7_read_161 (n := 162) rfl (fun M_161 e_161 => ?_)
                  have hB360 : xd = nI (rD S (i + 1)) ∧ u3 = nI (rU S (i + 1)) ∧ WRm M_161 (wrL S (i + 1)) ∧ QTm M_161 S (i + 1) ∧ KDm M_161 S (i + 1) ∧ DPm M_161 S i ∧ PTm M_161 S (i + 1) ∧ ((∀ a, (a < 84 ∨ 89 < a) → a ≠ 80 → M_161 a = M a) ∧ ∀ j, j ≠ 8 → j ≠ 11 → M_161 80 j = M 80 j) := by
                    have f : ∀ a, a ≠ 84 → M_161 a = M3 a := fun a ha => by rw [e_161, up2_ne _ _ ha]
                    have k4 : kd S i ≠ 4 := by rw [hkk]; decide
                    have k3 : kd S i ≠ 3 := by rw [hkk]; decide
                    have k6 : kd S i ≠ 6 := by rw [hkk]; decide
                    refine ⟨by rw [rD_s, if_neg k3, if_neg k4]; exact hxd, by rw [rU_s, hkk]; first | (simp; done) | (simp; exact hu30), ?_, QTm_n hQ3 (f 89 (by omega)) (by rw [f 80 (by omega)]) k3, KDm_s hK3 (by rw [e_161, up2_row]) (by rw [hkk]; rfl), fun k hk9 => by rw [f 85 (by omega)]; exact hD3 k hk9, PTm_n hP3 (f 86 (by omega)) k3 k4, fun a h1 h2 => by rw [f a (by omega)]; exact hF3.1 a h1 h2, fun j h1 h2 => by rw [f 80 (by omega)]; exact hF3.2 j h1 h2⟩
                    rw [wrL_s, wrB_no k6, List.append_nil]
                    exact WRm_cong hW3 (by rw [f 80 (by omega)]) (f 87 (by omega)) (f 88 (by omega))
                  refine g_goto C dX7_read_162 (t := 360) (by decide) ?_
                  exact J_360 _ _ _ _ hB360.1 hB360.2.1 hB360.2.2.1 hB360.2.2.2.1 hB360.2.2.2.2.1 hB360.2.2.2.2.2.1 hB360.2.2.2.2.2.2.1 hB360.2.2.2.2.2.2.2
          · obtain ⟨hrn9, hu31⟩ : isRn S i = true ∧ u3 = nI (rU S i) := by
              rcases hv6 with h | h
              · exact h.2
              · exact absurd h.1 c_104
            have k5 := kd_rn hrn9
            refine g_aload0 C dX7_read_107 (n := 108) rfl ?_
            refine kg_X7_19 C sh_80 rfl dX7_read_108 (n := 111) rfl ?_
            refine g_iload4 C dX7_read_111 (n := 113) rfl ?_
            refine g_iconst C ic_5 dX7_read_113 (n := 114) rfl ?_
            refine g_iast C (j := i) sh_84 (by decide) (hxi) (by omega) dX7_read_114 (n := 115) rfl (fun M_114 e_114 => ?_)
            refine g_iinc3 C (inc_m1 _) dX7_read_115 (n := 118) rfl ?_
            have hB360 : xd = nI (rD S (i + 1)) ∧ (u3 + -1) = nI (rU S (i + 1)) ∧ WRm M_114 (wrL S (i + 1)) ∧ QTm M_114 S (i + 1) ∧ KDm M_114 S (i + 1) ∧ DPm M_114 S i ∧ PTm M_114 S (i + 1) ∧ ((∀ a, (a < 84 ∨ 89 < a) → a ≠ 80 → M_114 a = M a) ∧ ∀ j, j ≠ 8 → j ≠ 11 → M_114 80 j = M 80 j) := by
              have f : ∀ a, a ≠ 84 → M_114 a = M3 a := fun a ha => by rw [e_114, up2_ne _ _ ha]
              have k4 : kd S i ≠ 4 := by rw [k5]; decide
              have k3 : kd S i ≠ 3 := by rw [k5]; decide
              have k6 : kd S i ≠ 6 := by rw [k5]; decide
              have hp1 := kd5_pos k5
              refine ⟨by rw [rD_s, if_neg k3, if_neg k4]; exact hxd, by rw [rU_s, if_pos k5, hu31]; generalize rU S i = u9 at hp1 ⊢; rw [show u9 = (u9 - 1) + 1 by omega]; exact pk_m1 _, ?_, QTm_n hQ3 (f 89 (by omega)) (by rw [f 80 (by omega)]) k3, KDm_s hK3 (by rw [e_114, up2_row]) (by rw [k5]; rfl), fun k hk9 => by rw [f 85 (by omega)]; exact hD3 k hk9, PTm_n hP3 (f 86 (by omega)) k3 k4, fun a h1 h2 => by rw [f a (by omega)]; exact hF3.1 a h1 h2, fun j h1 h2 => by rw [f 80 (by omega)]; exact hF3.2 j h1 h2⟩
              rw [wrL_s, wrB_no k6, List.append_nil]
              exact WRm_cong hW3 (by rw [f 80 (by omega)]) (f 87 (by omega)) (f 88 (by omega))
            refine g_goto C dX7_read_118 (t := 360) (by decide) ?_
            exact J_360 _ _ _ _ hB360.1 hB360.2.1 hB360.2.2.1 hB360.2.2.2.1 hB360.2.2.2.2.1 hB360.2.2.2.2.2.1 hB360.2.2.2.2.2.2.1 hB360.2.2.2.2.2.2.2
        refine g_iload3 C dX7_read_55 (n := 56) rfl ?_
        refine g_if_le C dX7_read_56 (t := 81) (by decide) (n := 59) rfl (fun c_56 => ?_) (fun c_56 => ?_)
        · have w56 : ¬ 0 < rU S i := fun h => c_56 ((qlt nI_0.symm hxu (by decide) (by omega)).mpr h)
          have hrn0 : isRn S i = false := by
            first | exact hrn | (cases h : isRn S i with
              | false => rfl
              | true => exact absurd (rn_due.mp h).1 (by omega))
          refine g_iconst C ic_0 dX7_read_81 (n := 82) rfl ?_
          refine g_istore6 C dX7_read_82 (n := 84) rfl ?_
          refine g_iload3 C dX7_read_84 (n := 85) rfl ?_
          refine g_if_le C dX7_read_85 (t := 102) (by decide) (n := 88) rfl (fun c_85 => ?_) (fun c_85 => ?_)
          · have w85 : ¬ 0 < rU S i := fun h => c_85 ((qlt nI_0.symm hxu (by decide) (by omega)).mpr h)
            have hB102 : ((0 : Int32) = 1 ∧ isRn S i = true ∧ xu = nI (rU S i) ∨ (0 : Int32) = 0 ∧ isRn S i = false ∧ xu = 0) ∧ WRm M2 (wrL S i ++ wrA S i) ∧ QTm M2 S i ∧ KDm M2 S i ∧ DPm M2 S i ∧ PTm M2 S i ∧ M2 86 i = -4 ∧ ((∀ a, (a < 84 ∨ 89 < a) → a ≠ 80 → M2 a = M a) ∧ ∀ j, j ≠ 8 → j ≠ 11 → M2 80 j = M 80 j) := by
              have hrn9 : isRn S i = false := by
                cases h : isRn S i with
                | false => rfl
                | true => exact absurd (rn_due.mp h).1 (by omega)
              have hw9 : w3 S i = false := by
                cases h : w3 S i with
                | false => rfl
                | true => exact absurd (w3_due.mp h).1 (by omega)
              refine ⟨Or.inr ⟨rfl, hrn9, by rw [hxu, show rU S i = 0 by omega]; rfl⟩, ?_, hQ2, hK2, hD2, hP2, h862, hF2⟩
              unfold wrA; rw [hw9, if_neg (by decide), List.append_nil]; exact hW2
            first
              | exact absurd rfl c_90
              | exact absurd c_90 (by decide)
              | (have h9 := hB102
                 exact J_102 _ _ _ h9.1 h9.2.1 h9.2.2.1 h9.2.2.2.1 h9.2.2.2.2.1 h9.2.2.2.2.2.1 h9.2.2.2.2.2.2.1 h9.2.2.2.2.2.2.2)
              | (exfalso; omega)
          · have w85 : 0 < rU S i := (qlt nI_0.symm hxu (by decide) (by omega)).mp c_85
            refine g_iload6 C dX7_read_88 (n := 90) rfl ?_
            refine g_if_ne C dX7_read_90 (t := 102) (by decide) (n := 93) rfl (fun c_90 => ?_) (fun c_90 => ?_)
            · have hB102 : ((1 : Int32) = 1 ∧ isRn S i = true ∧ xu = nI (rU S i) ∨ (1 : Int32) = 0 ∧ isRn S i = false ∧ xu = 0) ∧ WRm M2 (wrL S i ++ wrA S i) ∧ QTm M2 S i ∧ KDm M2 S i ∧ DPm M2 S i ∧ PTm M2 S i ∧ M2 86 i = -4 ∧ ((∀ a, (a < 84 ∨ 89 < a) → a ≠ 80 → M2 a = M a) ∧ ∀ j, j ≠ 8 → j ≠ 11 → M2 80 j = M 80 j) := by
                first
                  | exact absurd rfl c_90
                  | (refine ⟨Or.inl ⟨rfl, hrn, hxu⟩, ?_, hQ2, hK2, hD2, hP2, h862, hF2⟩
                     unfold wrA; rw [rn_w3 hrn, if_neg (by decide), List.append_nil]; exact hW2)
              first
                | exact absurd rfl c_90
                | exact absurd c_90 (by decide)
                | (have h9 := hB102
                   exact J_102 _ _ _ h9.1 h9.2.1 h9.2.2.1 h9.2.2.2.1 h9.2.2.2.2.1 h9.2.2.2.2.2.1 h9.2.2.2.2.2.2.1 h9.2.2.2.2.2.2.2)
                | (exfalso; omega)
            · have hw3 : w3 S i = true := by
                first
                  | exact absurd c_90 (by decide)
                  | exact w3_due.mpr ⟨by omega, fun h => by rw [rn_due.mpr ⟨by omega, h⟩] at hrn0; cases hrn0⟩
              refine g_aload0 C dX7_read_93 (n := 94) rfl ?_
              refine g_iload4 C dX7_read_94 (n := 96) rfl ?_
              refine g_iconst C ic_3 dX7_read_96 (n := 97) rfl ?_
              refine kc_X7_112 C (ct_X7_wrong1 M2 (wrL S i) i 3 _ _ hW2 (by have := wrL_len S i; omega) hxi (show (3 : Int32) = nI 3 from rfl)) sh_80 ⟨Nat.le_of_ble_eq_true rfl, Nat.le_of_ble_eq_true rfl⟩ ⟨Nat.zero_le _, Nat.zero_le _⟩ (Nat.le_of_ble_eq_true rfl) dX7_read_97 (n := 100) rfl (fun M3 h3 => ?_)
              have hB102 : ((0 : Int32) = 1 ∧ isRn S i = true ∧ (0 : Int32) = nI (rU S i) ∨ (0 : Int32) = 0 ∧ isRn S i = false ∧ (0 : Int32) = 0) ∧ WRm M3 (wrL S i ++ wrA S i) ∧ QTm M3 S i ∧ KDm M3 S i ∧ DPm M3 S i ∧ PTm M3 S i ∧ M3 86 i = -4 ∧ ((∀ a, (a < 84 ∨ 89 < a) → a ≠ 80 → M3 a = M a) ∧ ∀ j, j ≠ 8 → j ≠ 11 → M3 80 j = M 80 j) := by
                have hrn9 : isRn S i = false := by
                  cases h : isRn S i with
                  | false => rfl
                  | true => rw [rn_w3 h] at hw3; cases hw3
                refine ⟨Or.inr ⟨rfl, hrn9, rfl⟩, ?_, ⟨by rw [h3.2.2 11 (by omega)]; exact hQ2.1, fun q o hq => by rw [h3.2.1 89 (by omega) (by omega) (by omega)]; exact hQ2.2 q o hq⟩, fun k hk => by rw [h3.2.1 84 (by omega) (by omega) (by omega)]; exact hK2 k hk, fun k hk => by rw [h3.2.1 85 (by omega) (by omega) (by omega)]; exact hD2 k hk, fun k hk => by rw [h3.2.1 86 (by omega) (by omega) (by omega)]; exact hP2 k hk, by rw [h3.2.1 86 (by omega) (by omega) (by omega)]; exact h862, fun a h1 h2 => by rw [h3.2.1 a h2 (by omega) (by omega)]; exact hF2.1 a h1 h2, fun j h1 h2 => by rw [h3.2.2 j h1]; exact hF2.2 j h1 h2⟩
                unfold wrA; rw [if_pos hw3]; exact h3.1
              refine g_iconst C ic_0 dX7_read_100 (n := 101) rfl ?_
              refine g_istore3 C dX7_read_101 (n := 102) rfl ?_
              first
                | exact absurd rfl c_90
                | exact absurd c_90 (by decide)
                | (have h9 := hB102
                   exact J_102 _ _ _ h9.1 h9.2.1 h9.2.2.1 h9.2.2.2.1 h9.2.2.2.2.1 h9.2.2.2.2.2.1 h9.2.2.2.2.2.2.1 h9.2.2.2.2.2.2.2)
                | (exfalso; omega)
        · have w56 : 0 < rU S i := (qlt nI_0.symm hxu (by decide) (by omega)).mp c_56
          refine g_iload5 C dX7_read_59 (n := 61) rfl ?_
          refine g_iload1 C dX7_read_61 (n := 62) rfl ?_
          refine g_aload0 C dX7_read_62 (n := 63) rfl ?_
          refine kg_X7_13 C sh_80 rfl dX7_read_63 (n := 66) rfl ?_
          refine g_bipush C bp_122 dX7_read_66 (n := 68) rfl ?_
          refine g_iald C (j := 122) sh_82 (by decide) (rfl) (by omega) dX7_read_68 (n := 69) rfl ?_
          refine g_iload2 C dX7_read_69 (n := 70) rfl ?_
          refine g_iload3 C dX7_read_70 (n := 71) rfl ?_
          refine kc_X7_108 C (ct_X7_dueSign SH M2 (spt S) (spr S) (rD S i) (rU S i) _ _ _ _ rfl (by rw [hF2.1 82 (by omega) (by omega)]; exact hsp.2.2.2.1) hxd hxu hwS.2.2.1 hwS.2.2.2.1 (by omega) (by omega) hui) ⟨Nat.le_of_ble_eq_true rfl, Nat.le_of_ble_eq_true rfl⟩ ⟨Nat.zero_le _, Nat.zero_le _⟩ (Nat.le_of_ble_eq_true rfl) dX7_read_71 (n := 74) rfl (fun r_71 M_71 h_71 => ?_)
          rw [h_71.1, h_71.2]
          refine g_icmp_ne C dX7_read_74 (t := 81) (by decide) (n := 77) rfl (fun c_74 => ?_) (fun c_74 => ?_)
          · have hrn : isRn S i = false := by
              cases h : isRn S i with
              | false => rfl
              | true => exact absurd (rn_due.mp h).2 c_74
            have hrn0 : isRn S i = false := by
              first | exact hrn | (cases h : isRn S i with
                | false => rfl
                | true => exact absurd (rn_due.mp h).1 (by omega))
            refine g_iconst C ic_0 dX7_read_81 (n := 82) rfl ?_
            refine g_istore6 C dX7_read_82 (n := 84) rfl ?_
            refine g_iload3 C dX7_read_84 (n := 85) rfl ?_
            refine g_if_le C dX7_read_85 (t := 102) (by decide) (n := 88) rfl (fun c_85 => ?_) (fun c_85 => ?_)
            · have w85 : ¬ 0 < rU S i := fun h => c_85 ((qlt nI_0.symm hxu (by decide) (by omega)).mpr h)
              have hB102 : ((0 : Int32) = 1 ∧ isRn S i = true ∧ xu = nI (rU S i) ∨ (0 : Int32) = 0 ∧ isRn S i = false ∧ xu = 0) ∧ WRm M2 (wrL S i ++ wrA S i) ∧ QTm M2 S i ∧ KDm M2 S i ∧ DPm M2 S i ∧ PTm M2 S i ∧ M2 86 i = -4 ∧ ((∀ a, (a < 84 ∨ 89 < a) → a ≠ 80 → M2 a = M a) ∧ ∀ j, j ≠ 8 → j ≠ 11 → M2 80 j = M 80 j) := by
                have hrn9 : isRn S i = false := by
                  cases h : isRn S i with
                  | false => rfl
                  | true => exact absurd (rn_due.mp h).1 (by omega)
                have hw9 : w3 S i = false := by
                  cases h : w3 S i with
                  | false => rfl
                  | true => exact absurd (w3_due.mp h).1 (by omega)
                refine ⟨Or.inr ⟨rfl, hrn9, by rw [hxu, show rU S i = 0 by omega]; rfl⟩, ?_, hQ2, hK2, hD2, hP2, h862, hF2⟩
                unfold wrA; rw [hw9, if_neg (by decide), List.append_nil]; exact hW2
              first
                | exact absurd rfl c_90
                | exact absurd c_90 (by decide)
                | (have h9 := hB102
                   exact J_102 _ _ _ h9.1 h9.2.1 h9.2.2.1 h9.2.2.2.1 h9.2.2.2.2.1 h9.2.2.2.2.2.1 h9.2.2.2.2.2.2.1 h9.2.2.2.2.2.2.2)
                | (exfalso; omega)
            · have w85 : 0 < rU S i := (qlt nI_0.symm hxu (by decide) (by omega)).mp c_85
              refine g_iload6 C dX7_read_88 (n := 90) rfl ?_
              refine g_if_ne C dX7_read_90 (t := 102) (by decide) (n := 93) rfl (fun c_90 => ?_) (fun c_90 => ?_)
              · have hB102 : ((1 : Int32) = 1 ∧ isRn S i = true ∧ xu = nI (rU S i) ∨ (1 : Int32) = 0 ∧ isRn S i = false ∧ xu = 0) ∧ WRm M2 (wrL S i ++ wrA S i) ∧ QTm M2 S i ∧ KDm M2 S i ∧ DPm M2 S i ∧ PTm M2 S i ∧ M2 86 i = -4 ∧ ((∀ a, (a < 84 ∨ 89 < a) → a ≠ 80 → M2 a = M a) ∧ ∀ j, j ≠ 8 → j ≠ 11 → M2 80 j = M 80 j) := by
                  first
                    | exact absurd rfl c_90
                    | (refine ⟨Or.inl ⟨rfl, hrn, hxu⟩, ?_, hQ2, hK2, hD2, hP2, h862, hF2⟩
                       unfold wrA; rw [rn_w3 hrn, if_neg (by decide), List.append_nil]; exact hW2)
                first
                  | exact absurd rfl c_90
                  | exact absurd c_90 (by decide)
                  | (have h9 := hB102
                     exact J_102 _ _ _ h9.1 h9.2.1 h9.2.2.1 h9.2.2.2.1 h9.2.2.2.2.1 h9.2.2.2.2.2.1 h9.2.2.2.2.2.2.1 h9.2.2.2.2.2.2.2)
                  | (exfalso; omega)
              · have hw3 : w3 S i = true := by
                  first
                    | exact absurd c_90 (by decide)
                    | exact w3_due.mpr ⟨by omega, fun h => by rw [rn_due.mpr ⟨by omega, h⟩] at hrn0; cases hrn0⟩
                refine g_aload0 C dX7_read_93 (n := 94) rfl ?_
                refine g_iload4 C dX7_read_94 (n := 96) rfl ?_
                refine g_iconst C ic_3 dX7_read_96 (n := 97) rfl ?_
                refine kc_X7_112 C (ct_X7_wrong1 M2 (wrL S i) i 3 _ _ hW2 (by have := wrL_len S i; omega) hxi (show (3 : Int32) = nI 3 from rfl)) sh_80 ⟨Nat.le_of_ble_eq_true rfl, Nat.le_of_ble_eq_true rfl⟩ ⟨Nat.zero_le _, Nat.zero_le _⟩ (Nat.le_of_ble_eq_true rfl) dX7_read_97 (n := 100) rfl (fun M3 h3 => ?_)
                have hB102 : ((0 : Int32) = 1 ∧ isRn S i = true ∧ (0 : Int32) = nI (rU S i) ∨ (0 : Int32) = 0 ∧ isRn S i = false ∧ (0 : Int32) = 0) ∧ WRm M3 (wrL S i ++ wrA S i) ∧ QTm M3 S i ∧ KDm M3 S i ∧ DPm M3 S i ∧ PTm M3 S i ∧ M3 86 i = -4 ∧ ((∀ a, (a < 84 ∨ 89 < a) → a ≠ 80 → M3 a = M a) ∧ ∀ j, j ≠ 8 → j ≠ 11 → M3 80 j = M 80 j) := by
                  have hrn9 : isRn S i = false := by
                    cases h : isRn S i with
                    | false => rfl
                    | true => rw [rn_w3 h] at hw3; cases hw3
                  refine ⟨Or.inr ⟨rfl, hrn9, rfl⟩, ?_, ⟨by rw [h3.2.2 11 (by omega)]; exact hQ2.1, fun q o hq => by rw [h3.2.1 89 (by omega) (by omega) (by omega)]; exact hQ2.2 q o hq⟩, fun k hk => by rw [h3.2.1 84 (by omega) (by omega) (by omega)]; exact hK2 k hk, fun k hk => by rw [h3.2.1 85 (by omega) (by omega) (by omega)]; exact hD2 k hk, fun k hk => by rw [h3.2.1 86 (by omega) (by omega) (by omega)]; exact hP2 k hk, by rw [h3.2.1 86 (by omega) (by omega) (by omega)]; exact h862, fun a h1 h2 => by rw [h3.2.1 a h2 (by omega) (by omega)]; exact hF2.1 a h1 h2, fun j h1 h2 => by rw [h3.2.2 j h1]; exact hF2.2 j h1 h2⟩
                  unfold wrA; rw [if_pos hw3]; exact h3.1
                refine g_iconst C ic_0 dX7_read_100 (n := 101) rfl ?_
                refine g_istore3 C dX7_read_101 (n := 102) rfl ?_
                first
                  | exact absurd rfl c_90
                  | exact absurd c_90 (by decide)
                  | (have h9 := hB102
                     exact J_102 _ _ _ h9.1 h9.2.1 h9.2.2.1 h9.2.2.2.1 h9.2.2.2.2.1 h9.2.2.2.2.2.1 h9.2.2.2.2.2.2.1 h9.2.2.2.2.2.2.2)
                  | (exfalso; omega)
          · have hrn : isRn S i = true := rn_due.mpr ⟨by omega, c_74⟩
            refine g_iconst C ic_1 dX7_read_77 (n := 78) rfl ?_
            refine g_goto C dX7_read_78 (t := 82) (by decide) ?_
            refine g_istore6 C dX7_read_82 (n := 84) rfl ?_
            refine g_iload3 C dX7_read_84 (n := 85) rfl ?_
            refine g_if_le C dX7_read_85 (t := 102) (by decide) (n := 88) rfl (fun c_85 => ?_) (fun c_85 => ?_)
            · have w85 : ¬ 0 < rU S i := fun h => c_85 ((qlt nI_0.symm hxu (by decide) (by omega)).mpr h)
              have hB102 : ((0 : Int32) = 1 ∧ isRn S i = true ∧ xu = nI (rU S i) ∨ (0 : Int32) = 0 ∧ isRn S i = false ∧ xu = 0) ∧ WRm M2 (wrL S i ++ wrA S i) ∧ QTm M2 S i ∧ KDm M2 S i ∧ DPm M2 S i ∧ PTm M2 S i ∧ M2 86 i = -4 ∧ ((∀ a, (a < 84 ∨ 89 < a) → a ≠ 80 → M2 a = M a) ∧ ∀ j, j ≠ 8 → j ≠ 11 → M2 80 j = M 80 j) := by
                have hrn9 : isRn S i = false := by
                  cases h : isRn S i with
                  | false => rfl
                  | true => exact absurd (rn_due.mp h).1 (by omega)
                have hw9 : w3 S i = false := by
                  cases h : w3 S i with
                  | false => rfl
                  | true => exact absurd (w3_due.mp h).1 (by omega)
                refine ⟨Or.inr ⟨rfl, hrn9, by rw [hxu, show rU S i = 0 by omega]; rfl⟩, ?_, hQ2, hK2, hD2, hP2, h862, hF2⟩
                unfold wrA; rw [hw9, if_neg (by decide), List.append_nil]; exact hW2
              first
                | exact absurd rfl c_90
                | exact absurd c_90 (by decide)
                | (have h9 := hB102
                   exact J_102 _ _ _ h9.1 h9.2.1 h9.2.2.1 h9.2.2.2.1 h9.2.2.2.2.1 h9.2.2.2.2.2.1 h9.2.2.2.2.2.2.1 h9.2.2.2.2.2.2.2)
                | (exfalso; omega)
            · have w85 : 0 < rU S i := (qlt nI_0.symm hxu (by decide) (by omega)).mp c_85
              refine g_iload6 C dX7_read_88 (n := 90) rfl ?_
              refine g_if_ne C dX7_read_90 (t := 102) (by decide) (n := 93) rfl (fun c_90 => ?_) (fun c_90 => ?_)
              · have hB102 : ((1 : Int32) = 1 ∧ isRn S i = true ∧ xu = nI (rU S i) ∨ (1 : Int32) = 0 ∧ isRn S i = false ∧ xu = 0) ∧ WRm M2 (wrL S i ++ wrA S i) ∧ QTm M2 S i ∧ KDm M2 S i ∧ DPm M2 S i ∧ PTm M2 S i ∧ M2 86 i = -4 ∧ ((∀ a, (a < 84 ∨ 89 < a) → a ≠ 80 → M2 a = M a) ∧ ∀ j, j ≠ 8 → j ≠ 11 → M2 80 j = M 80 j) := by
                  first
                    | exact absurd rfl c_90
                    | (refine ⟨Or.inl ⟨rfl, hrn, hxu⟩, ?_, hQ2, hK2, hD2, hP2, h862, hF2⟩
                       unfold wrA; rw [rn_w3 hrn, if_neg (by decide), List.append_nil]; exact hW2)
                first
                  | exact absurd rfl c_90
                  | exact absurd c_90 (by decide)
                  | (have h9 := hB102
                     exact J_102 _ _ _ h9.1 h9.2.1 h9.2.2.1 h9.2.2.2.1 h9.2.2.2.2.1 h9.2.2.2.2.2.1 h9.2.2.2.2.2.2.1 h9.2.2.2.2.2.2.2)
                  | (exfalso; omega)
              · have hw3 : w3 S i = true := by
                  first
                    | exact absurd c_90 (by decide)
                    | exact w3_due.mpr ⟨by omega, fun h => by rw [rn_due.mpr ⟨by omega, h⟩] at hrn0; cases hrn0⟩
                refine g_aload0 C dX7_read_93 (n := 94) rfl ?_
                refine g_iload4 C dX7_read_94 (n := 96) rfl ?_
                refine g_iconst C ic_3 dX7_read_96 (n := 97) rfl ?_
                refine kc_X7_112 C (ct_X7_wrong1 M2 (wrL S i) i 3 _ _ hW2 (by have := wrL_len S i; omega) hxi (show (3 : Int32) = nI 3 from rfl)) sh_80 ⟨Nat.le_of_ble_eq_true rfl, Nat.le_of_ble_eq_true rfl⟩ ⟨Nat.zero_le _, Nat.zero_le _⟩ (Nat.le_of_ble_eq_true rfl) dX7_read_97 (n := 100) rfl (fun M3 h3 => ?_)
                have hB102 : ((0 : Int32) = 1 ∧ isRn S i = true ∧ (0 : Int32) = nI (rU S i) ∨ (0 : Int32) = 0 ∧ isRn S i = false ∧ (0 : Int32) = 0) ∧ WRm M3 (wrL S i ++ wrA S i) ∧ QTm M3 S i ∧ KDm M3 S i ∧ DPm M3 S i ∧ PTm M3 S i ∧ M3 86 i = -4 ∧ ((∀ a, (a < 84 ∨ 89 < a) → a ≠ 80 → M3 a = M a) ∧ ∀ j, j ≠ 8 → j ≠ 11 → M3 80 j = M 80 j) := by
                  have hrn9 : isRn S i = false := by
                    cases h : isRn S i with
                    | false => rfl
                    | true => rw [rn_w3 h] at hw3; cases hw3
                  refine ⟨Or.inr ⟨rfl, hrn9, rfl⟩, ?_, ⟨by rw [h3.2.2 11 (by omega)]; exact hQ2.1, fun q o hq => by rw [h3.2.1 89 (by omega) (by omega) (by omega)]; exact hQ2.2 q o hq⟩, fun k hk => by rw [h3.2.1 84 (by omega) (by omega) (by omega)]; exact hK2 k hk, fun k hk => by rw [h3.2.1 85 (by omega) (by omega) (by omega)]; exact hD2 k hk, fun k hk => by rw [h3.2.1 86 (by omega) (by omega) (by omega)]; exact hP2 k hk, by rw [h3.2.1 86 (by omega) (by omega) (by omega)]; exact h862, fun a h1 h2 => by rw [h3.2.1 a h2 (by omega) (by omega)]; exact hF2.1 a h1 h2, fun j h1 h2 => by rw [h3.2.2 j h1]; exact hF2.2 j h1 h2⟩
                  unfold wrA; rw [if_pos hw3]; exact h3.1
                refine g_iconst C ic_0 dX7_read_100 (n := 101) rfl ?_
                refine g_istore3 C dX7_read_101 (n := 102) rfl ?_
                first
                  | exact absurd rfl c_90
                  | exact absurd c_90 (by decide)
                  | (have h9 := hB102
                     exact J_102 _ _ _ h9.1 h9.2.1 h9.2.2.1 h9.2.2.2.1 h9.2.2.2.2.1 h9.2.2.2.2.2.1 h9.2.2.2.2.2.2.1 h9.2.2.2.2.2.2.2)
                  | (exfalso; omega)
  have f0 : ∀ a, a ≠ 80 → Mb a = M a := fun a ha => by rw [eb, up2_ne _ _ ha, ea, up2_ne _ _ ha]
  exact L_25 (spn S + 1) 0 0 0 0 none none none Mb (by omega) nI_0.symm (by omega) nI_0.symm nI_0.symm ⟨by rw [eb, ea]; simp [up2]; rfl, fun j q hq => by simp [wrL] at hq⟩ ⟨by rw [eb, up2_at]; rfl, fun q o hq => absurd hq.1 (Nat.not_lt_zero _)⟩ (fun k hk => absurd hk (Nat.not_lt_zero _)) (fun k hk => absurd hk (Nat.not_lt_zero _)) (fun k hk => absurd hk (Nat.not_lt_zero _)) ⟨fun a _ h => f0 a h, fun j h1 h2 => by rw [eb, ea]; simp [up2, h1, h2]⟩
