/-! the class reads: sign by sign, and whole -/
theorem kd_n5 {S : Spt} {i : Nat} (h : kd S i ≠ 5) : (isLt (spg S i) = true ∧ kd S i = 0) ∨ (isLt (spg S i) = false ∧ spg S i = 32 ∧ kd S i = 1) ∨ (isLt (spg S i) = false ∧ spg S i ≠ 32 ∧ spg S i = 124 ∧ kd S i = 2) ∨
    (isLt (spg S i) = false ∧ spg S i ≠ 32 ∧ spg S i ≠ 124 ∧ (kd S i = 3 ∨ kd S i = 4 ∨ kd S i = 6)) := by
  by_cases h5 : isRn S i = true
  · exact absurd (by unfold kd; rw [if_pos h5]) h
  · by_cases h1 : isLt (spg S i) = true
    · exact Or.inl ⟨h1, by unfold kd; rw [if_neg h5, if_pos h1]⟩
    · have h1' : isLt (spg S i) = false := by cases q : isLt (spg S i) with
        | true => exact absurd q h1
        | false => rfl
      by_cases h2 : spg S i = 32
      · exact Or.inr (Or.inl ⟨h1', h2, by unfold kd; rw [if_neg h5, if_neg h1, if_pos h2]⟩)
      · by_cases h3 : spg S i = 124
        · exact Or.inr (Or.inr (Or.inl ⟨h1', h2, h3, by unfold kd; rw [if_neg h5, if_neg h1, if_neg h2, if_pos h3]⟩))
        · refine Or.inr (Or.inr (Or.inr ⟨h1', h2, h3, ?_⟩))
          have e : kd S i = if isOp S i then 3 else if isCl S i then 4 else 6 := by unfold kd; rw [if_neg h5, if_neg h1, if_neg h2, if_neg h3]
          rw [e]
          split
          · exact Or.inl rfl
          · split
            · exact Or.inr (Or.inl rfl)
            · exact Or.inr (Or.inr rfl)
theorem nx_n5 {S : Spt} {i : Nat} (h : kd S i ≠ 5) : nxt (spt S) (spr S) (rD S i) 0 (spg S i) = if kd S i = 6 then none else some (nxK S i) := by
  by_cases h5 : isRn S i = true
  · exact absurd (by unfold kd; rw [if_pos h5]) h
  · have hn : isRn S i = false := by cases q : isRn S i with
      | true => exact absurd q h5
      | false => rfl
    unfold nxt nxK kd
    simp only [hn, Bool.false_eq_true, if_false, if_true]
    by_cases h1 : isLt (spg S i) = true
    · simp [h1]
    · by_cases h2 : spg S i = 32
      · have e32 : isLt 32 = false := by decide
        simp [h2, e32]
      · by_cases h3 : spg S i = 124
        · have e124 : isLt 124 = false := by decide
          simp [h3, e124]
        · by_cases h4 : rD S i < 6 ∧ spg S i = opn (spt S) (rD S i)
          · have : isOp S i = true := by unfold isOp; simp; exact h4
            simp [h1, h2, h3, this]
            exact h4
          · have h4' : isOp S i = false := by
              unfold isOp
              cases h : (decide (rD S i < 6) && decide (spg S i = opn (spt S) (rD S i))) with
              | false => rfl
              | true => simp at h; exact absurd h h4
            by_cases h5 : 1 ≤ rD S i ∧ spg S i = cls (spt S) (rD S i)
            · have : isCl S i = true := by unfold isCl; simp; exact h5
              simp [h1, h2, h3, h4', this]
              rw [if_neg h4, if_pos h5]
            · have h5' : isCl S i = false := by
                unfold isCl
                cases h : (decide (1 ≤ rD S i) && decide (spg S i = cls (spt S) (rD S i))) with
                | false => rfl
                | true => simp at h; exact absurd h h5
              simp [h1, h2, h3, h4', h5']
              rw [if_neg h4, if_neg h5]
theorem nx_u {t ru d u : Nat} {c : Int32} (h : u ≠ 0) : nxt t ru d u c = if c = opn t (dmy ru d - u) then some (d, u - 1) else none := by
  unfold nxt; rw [if_neg h]
theorem kd_5 {S : Spt} {i : Nat} (hu : rU S i ≠ 0) (h : spg S i = duS S (rD S i) (rU S i)) : kd S i = 5 := by
  unfold kd isRn; rw [if_pos]; simp; exact ⟨hu, h⟩
theorem kd_5n {S : Spt} {i : Nat} (h : rU S i = 0 ∨ spg S i ≠ duS S (rD S i) (rU S i)) : kd S i ≠ 5 := by
  intro h5
  unfold kd at h5
  split at h5
  · next h1 =>
    unfold isRn at h1; simp at h1
    rcases h with h | h
    · exact h1.1 h
    · exact h h1.2
  · repeat' split at h5
    all_goals cases h5
theorem w3_y {S : Spt} {i : Nat} (hu : rU S i ≠ 0) (h : spg S i ≠ duS S (rD S i) (rU S i)) : w3 S i = true := by
  unfold w3; simp; exact ⟨hu, h⟩
theorem w3_n {S : Spt} {i : Nat} (h : rU S i = 0 ∨ spg S i = duS S (rD S i) (rU S i)) : w3 S i = false := by
  unfold w3
  rcases h with h | h
  · simp [h]
  · simp [h]
theorem rDU_s (S : Spt) (i : Nat) : 7 * rD S (i + 1) + rU S (i + 1) = 7 * (nxK S i).1 + (nxK S i).2 := by unfold rD rU; rw [rst_s]
theorem wr_s (S : Spt) (i : Nat) : wrL S (i + 1) = wrL S i ++ (if w3 S i then [(i, 3)] else []) ++ (if kd S i = 6 then [(i, if ownS (spt S) (spg S i) then 1 else 2)] else []) := rfl
/-- one sign of the wrongs that a reading is behind -/
def wr3 (S : Spt) (i : Nat) : List (Nat × Nat) := wrL S i ++ (if w3 S i then [(i, 3)] else [])
theorem wr_len (S : Spt) : ∀ i, (wrL S i).length ≤ 2 * i
  | 0 => Nat.le_refl 0
  | i + 1 => by
    have := wr_len S i
    rw [wr_s, List.length_append, List.length_append]
    split <;> split <;> simp <;> omega
theorem wr3_len (S : Spt) (i : Nat) : (wr3 S i).length ≤ 2 * i + 1 := by
  have := wr_len S i
  unfold wr3; rw [List.length_append]; split <;> simp <;> omega
theorem LTc_c {M M' : Mem} {S : Spt} {i : Nat} (h : LTc M S i) (h0 : kd S i = 0) (e : M' 61 = upd (M 61) (rD S i) (M 61 (rD S i) + 1)) : LTc M' S (i + 1) := fun d hd => by
  rw [e]
  by_cases hdd : d = rD S i
  · rw [hdd, pk_us, h _ (rD_le S i)]
    unfold ltA
    rw [ctn_yes (by simp [h0]), nI_1]
  · rw [pk_un hdd, h d hd]
    unfold ltA
    rw [ctn_no (by simp [h0]; omega)]
theorem RC_st {M M' : Mem} {S : Spt} {i st st' : Nat} {L : List (Nat × Nat)} {v : Int32} (h : RC M S i L st) (e : M' = up2 M 40 14 v) (hv : v = nI st') : RC M' S i L st' := by
  obtain ⟨q1, q2, q3, q4, q5, q6, q7, q8, q9, q10, q11⟩ := h
  have f : ∀ a, a ≠ 40 → M' a = M a := fun a ha => by rw [e, up2_ne _ _ ha]
  have g : ∀ j, j ≠ 14 → M' 40 j = M 40 j := fun j hj => by rw [e]; simp [up2, hj]
  refine ⟨WRc_cong q1 (g _ (by omega)) (f _ (by omega)), ?_, ?_, ?_, ?_, ?_, ?_, ?_, by rw [g _ (by omega)]; exact q9, by rw [e, up2_at]; exact hv, GRc_cong q11 (f _ (by omega)) (f _ (by omega)) (f _ (by omega))⟩
  · unfold KDc; rw [f 47 (by omega)]; exact q2
  · unfold PTc; rw [f 51 (by omega)]; exact q3
  · unfold LVc; rw [f 53 (by omega)]; exact q4
  · unfold QTc; rw [g 8 (by omega), f 57 (by omega)]; exact q5
  · unfold OQc; rw [f 63 (by omega)]; exact q6
  · unfold PGc; rw [g 10 (by omega), f 59 (by omega)]; exact q7
  · unfold LTc; rw [f 61 (by omega)]; exact q8
/-- a wrong more -/
theorem RC_wr {M M' : Mem} {S : Spt} {i st : Nat} {L L' : List (Nat × Nat)} (h : RC M S i L st) (hW : WRc M' L') (f : ∀ c, c ≠ 40 → c ≠ 55 → M' c = M c) (g : ∀ j, j ≠ 6 → M' 40 j = M 40 j) : RC M' S i L' st := by
  obtain ⟨q1, q2, q3, q4, q5, q6, q7, q8, q9, q10, q11⟩ := h
  refine ⟨hW, ?_, ?_, ?_, ?_, ?_, ?_, ?_, by rw [g _ (by omega)]; exact q9, by rw [g _ (by omega)]; exact q10, GRc_cong q11 (f _ (by omega) (by omega)) (f _ (by omega) (by omega)) (f _ (by omega) (by omega))⟩
  · unfold KDc; rw [f 47 (by omega) (by omega)]; exact q2
  · unfold PTc; rw [f 51 (by omega) (by omega)]; exact q3
  · unfold LVc; rw [f 53 (by omega) (by omega)]; exact q4
  · unfold QTc; rw [g 8 (by omega), f 57 (by omega) (by omega)]; exact q5
  · unfold OQc; rw [f 63 (by omega) (by omega)]; exact q6
  · unfold PGc; rw [g 10 (by omega), f 59 (by omega) (by omega)]; exact q7
  · unfold LTc; rw [f 61 (by omega) (by omega)]; exact q8
theorem QTc_o {M M' : Mem} {S : Spt} {i : Nat} (h : QTc M S i) (h3 : kd S i = 3) (e8 : M' 40 8 = nI (ctn (kdIs S 3) i + 1))
    (e : ∀ q o, isQ S i q o → ∀ w, w < 7 → M' 57 (7 * q + w) = M 57 (7 * q + w) + (if w = 6 ∧ clo S i o = none then 1 else 0))
    (en : ∀ w, w < 7 → M' 57 (7 * ctn (kdIs S 3) i + w) = if w = 0 then nI i else if w = 1 then -4 else if w = 2 then nI (rD S i + 1) else 0) : QTc M' S (i + 1) := by
  refine ⟨by rw [e8, ctn_yes (by simp [h3])], fun q o hq w hw => ?_⟩
  obtain ⟨q1, q2, q3⟩ := hq
  by_cases ho : o = i
  · subst ho
    rw [← q3, en w hw, qf_new h3]
  · have hqi : isQ S i q o := ⟨by omega, q2, q3⟩
    rw [e q o hqi w hw, h.2 q o hqi w hw, qf_s (by omega) (fun z => by have := z.1; omega)]
    congr 1
    by_cases h6 : w = 6
    · subst h6
      have hs : qsel S o 6 i = true := by unfold qsel; simp [h3]
      by_cases hc : clo S i o = none
      · rw [if_pos ⟨rfl, hc⟩, if_pos ⟨by omega, hc, hs⟩]
      · rw [if_neg (fun z => hc z.2), if_neg (fun z => hc z.2.1)]
    · by_cases hw3 : ¬ 3 ≤ w
      · rw [if_neg (fun z => h6 z.1), if_neg (fun z => hw3 z.1)]
      have hs : qsel S o w i = false := by
        unfold qsel
        split
        · simp [h3]
        · split
          · simp [h3]
          · split
            · simp [h3]
            · exact absurd (show w = 6 by omega) h6
      rw [if_neg (fun z => h6 z.1), if_neg (fun z => by rw [hs] at z; exact Bool.noConfusion z.2.2)]
theorem QTc_x {M M' : Mem} {S : Spt} {i o0 : Nat} (h : QTc M S i) (h4 : kd S i = 4) (ho : (sk S i)[0]? = some o0) (e8 : M' 40 8 = M 40 8) (e : M' 57 = upd (M 57) (7 * ctn (kdIs S 3) o0 + 1) (nI i)) : QTc M' S (i + 1) := by
  refine ⟨by rw [e8, ctn_no (by simp [h4])]; exact h.1, fun q o hq w hw => ?_⟩
  obtain ⟨q1, q2, q3⟩ := hq
  have hoi : o ≠ i := fun z => by rw [z] at q2; omega
  have hqi : isQ S i q o := ⟨by omega, q2, q3⟩
  have hk0 := sk_lv S i 0 o0 ho
  rw [e]
  by_cases hoo : o = o0
  · subst hoo
    rw [qf_c (by omega) h4 (by rw [List.head?_eq_getElem?]; exact ho), q3]
    by_cases h1 : w = 1
    · rw [if_pos h1, h1, pk_us]
    · rw [if_neg h1, pk_un (by omega)]; exact h.2 q o hqi w hw
  · have hqq : q ≠ ctn (kdIs S 3) o0 := fun z => hoo (ctn_one (q := kdIs S 3) (by simp [q2]) (by simp [hk0.2.1]) (q3.trans z))
    rw [pk_un (by omega), h.2 q o hqi w hw, qf_s (by omega) (fun z => by
      have z2 := z.2
      rw [List.head?_eq_getElem?, ho] at z2
      exact hoo (Option.some.inj z2).symm), qsel_4 (by omega) (by omega) (by omega), if_neg (by simp)]
    exact (Int32.add_zero _).symm
theorem PTc_o {M M' : Mem} {S : Spt} {i : Nat} (h : PTc M S i) (h3 : kd S i = 3) (e : M' 51 = upd (M 51) i (-4)) : PTc M' S (i + 1) := fun k hk => by
  rw [e, clo_sn (by omega)]
  by_cases hki : k = i
  · rw [hki, pk_us, clo_ge S i i (Nat.le_refl _)]; exact ⟨fun _ => rfl, fun q => by omega⟩
  · rw [pk_un hki]; exact h k (by omega)
theorem PTc_x {M M' : Mem} {S : Spt} {i o0 : Nat} (h : PTc M S i) (h4 : kd S i = 4) (ho : (sk S i)[0]? = some o0) (e : M' 51 = upd (upd (M 51) i (nI o0)) o0 (nI i)) : PTc M' S (i + 1) := fun k hk => by
  have hk0 := sk_lv S i 0 o0 ho
  rw [e, clo_s]
  by_cases hko : k = o0
  · rw [hko, pk_us, if_pos ⟨h4, by rw [List.head?_eq_getElem?]; exact ho⟩]
    exact ⟨fun _ => rfl, fun q => by omega⟩
  · rw [pk_un hko, if_neg (fun z => by
      have z2 := z.2
      rw [List.head?_eq_getElem?, ho] at z2
      exact hko (Option.some.inj z2).symm)]
    by_cases hki : k = i
    · rw [hki, pk_us]; exact ⟨fun q => by omega, fun _ => ⟨o0, ho, rfl⟩⟩
    · rw [pk_un hki]; exact h k (by omega)
theorem OQc_o {M M' : Mem} {S : Spt} {i : Nat} (h : OQc M S i) (h3 : kd S i = 3) (e : M' 63 = upd (M 63) (rD S i + 1) (nI (ctn (kdIs S 3) i))) : OQc M' S (i + 1) := fun p o hp => by
  rw [sk_s, if_pos h3] at hp
  rw [e, rD_s, if_pos h3]
  cases p with
  | zero => simp at hp; subst hp; exact pk_us
  | succ p =>
    have hp' : (sk S i)[p]? = some o := by simpa using hp
    rw [pk_un (by omega), show rD S i + 1 - (p + 1) = rD S i - p by omega]
    exact h p o hp'
theorem OQc_x {M M' : Mem} {S : Spt} {i : Nat} (h : OQc M S i) (h4 : kd S i = 4) (e : M' 63 = M 63) : OQc M' S (i + 1) := fun p o hp => by
  rw [sk_s, if_neg (by omega), if_pos h4, List.getElem?_tail] at hp
  rw [e, rD_s, if_neg (by omega), if_pos h4, show rD S i - 1 - p = rD S i - (p + 1) by omega]
  exact h (p + 1) o hp
theorem mxD_o {S : Spt} {i : Nat} (h3 : kd S i = 3) : mxD S (i + 1) = max (mxD S i) (rD S i + 1) := by
  have e : mxD S (i + 1) = max (mxD S i) (rD S (i + 1)) := rfl
  rw [e, rD_s, if_pos h3]
theorem mxD_le (S : Spt) : ∀ i, mxD S i ≤ 6
  | 0 => Nat.zero_le _
  | i + 1 => by
    have e : mxD S (i + 1) = max (mxD S i) (rD S (i + 1)) := rfl
    have := mxD_le S i
    have := rD_le S (i + 1)
    rw [e]; omega
theorem lev_34 {S : Spt} {i : Nat} (h : kd S i ≠ 5) : levS S i = rD S i := by unfold levS; rw [if_neg h]

set_option maxHeartbeats 4000000 in
set_option maxRecDepth 100000 in
theorem ct_X3_countLetter {l : Launch} {D : va_G} {cI cO : ClassId} {z tP : Nat} {aK aV : Nat → Nat} (M : Mem) (S : Spt) (i pc : Nat) (hst : M 40 14 = nI (7 * rD S i)) (hO : OQc M S i) (hi : i ≤ 120) (hk : kd S i = 0) (hpc : M 40 10 = nI (pc + 1)) (hp : pc ≤ 120) : Cm l D cI cO z tP aK aV yX3_countLetter cX3_countLetter 2 none 2 45 [.ref (z + 40)] SH M (pV (fun M1 => M1 61 = upd (M 61) (rD S i) (M 61 (rD S i) + 1) ∧ M1 59 = upd (M 59) (3 * pc + 1) (M 59 (3 * pc + 1) + 1) ∧ (∀ q o, isQ S i q o → ∀ w, w < 7 → M1 57 (7 * q + w) = M 57 (7 * q + w) + (if 3 ≤ w ∧ clo S i o = none ∧ qsel S o w i = true then 1 else 0)) ∧ ∀ c, c ≠ 57 → c ≠ 59 → c ≠ 61 → M1 c = M c)) := by
  refine cm_intro (lv0 := [some (.ref (z + 40)), none]) (by decide) rfl (Nat.le_of_ble_eq_true rfl) rfl (fun p e s m below meth c C => ?_)
  have hd6 := rD_le S i
  refine g_aload0 C dX3_countLetter_0 (n := 1) rfl ?_
  refine kg_X3_51 C sh_40 rfl dX3_countLetter_1 (n := 4) rfl ?_
  refine kc_X3_87 C (ct_X0_depthOf SH M (rD S i) 0 _ hst hd6 (by decide)) ⟨Nat.le_of_ble_eq_true rfl, Nat.le_of_ble_eq_true rfl⟩ ⟨Nat.zero_le _, Nat.zero_le _⟩ (Nat.le_of_ble_eq_true rfl) dX3_countLetter_4 (n := 7) rfl (fun r_4 M_4 h_4 => ?_)
  rw [h_4.1, h_4.2]
  refine g_istore1 C dX3_countLetter_7 (n := 8) rfl ?_
  refine g_aload0 C dX3_countLetter_8 (n := 9) rfl ?_
  refine kg_X3_45 C sh_40 rfl dX3_countLetter_9 (n := 12) rfl ?_
  refine g_iload1 C dX3_countLetter_12 (n := 13) rfl ?_
  refine g_iconst C ic_1 dX3_countLetter_13 (n := 14) rfl ?_
  refine kc_X3_146 C (ct_X4_add SH M 60 7 (rD S i) _ 1 row_60 rfl (by omega)) sh_60 ⟨Nat.le_of_ble_eq_true rfl, Nat.le_of_ble_eq_true rfl⟩ ⟨Nat.zero_le _, Nat.zero_le _⟩ (Nat.le_of_ble_eq_true rfl) dX3_countLetter_14 (n := 17) rfl (fun M2 e2 => ?_)
  refine g_aload0 C dX3_countLetter_17 (n := 18) rfl ?_
  refine g_iconst C ic_1 dX3_countLetter_18 (n := 19) rfl ?_
  refine kc_X3_124 C (ct_X3_addToParagraph M2 pc 1 1 (by rw [e2, up2_ne _ _ (by omega)]; exact hpc) hp rfl (by decide)) sh_40 ⟨Nat.le_of_ble_eq_true rfl, Nat.le_of_ble_eq_true rfl⟩ ⟨Nat.zero_le _, Nat.zero_le _⟩ (Nat.le_of_ble_eq_true rfl) dX3_countLetter_19 (n := 22) rfl (fun M3 e3 => ?_)
  refine g_aload0 C dX3_countLetter_22 (n := 23) rfl ?_
  refine g_iconst C ic_3 dX3_countLetter_23 (n := 24) rfl ?_
  refine kc_X3_134 C (ct_X3_addToOpenQuotes M3 S i 0 3 3 (by rw [e3, up2_ne _ _ (by omega), e2, up2_ne _ _ (by omega)]; exact hst) (by decide) (by unfold OQc; rw [e3, up2_ne _ _ (by omega), e2, up2_ne _ _ (by omega)]; exact hO) hi rfl (by decide)) sh_40 ⟨Nat.le_of_ble_eq_true rfl, Nat.le_of_ble_eq_true rfl⟩ ⟨Nat.zero_le _, Nat.zero_le _⟩ (Nat.le_of_ble_eq_true rfl) dX3_countLetter_24 (n := 27) rfl (fun M4 h4 => ?_)
  have f3 : ∀ c, c ≠ 59 → c ≠ 61 → M3 c = M c := fun c c1 c2 => by rw [e3, up2_ne _ _ c1, e2, up2_ne _ _ c2]
  have g61 : M4 61 = upd (M 61) (rD S i) (M 61 (rD S i) + 1) := by rw [h4.2 61 (by omega), e3, up2_ne _ _ (by omega), e2]; exact up2_row _ _ _ _
  have g59 : M4 59 = upd (M 59) (3 * pc + 1) (M 59 (3 * pc + 1) + 1) := by rw [h4.2 59 (by omega), e3, e2]; exact up2_row _ _ _ _
  have s3 : ∀ o, qsel S o 3 i = true := fun o => by unfold qsel; simp [hk]
  have s5 : ∀ o w, 5 ≤ w → qsel S o w i = false := fun o w h => by
    unfold qsel; rw [if_neg (by omega), if_neg (by omega)]
    split <;> simp [hk]
  have s4 : ∀ o, qsel S o 4 i = true ↔ rD S i = rD S o + 1 := fun o => by unfold qsel; simp [hk]
  have q57 : ∀ q o, isQ S i q o → ∀ w, w < 7 → w ≠ 4 → M4 57 (7 * q + w) = M 57 (7 * q + w) + (if 3 ≤ w ∧ clo S i o = none ∧ qsel S o w i = true then 1 else 0) := fun q o hq w hw w4 => by
    rw [h4.1 q o hq w hw, f3 57 (by omega) (by omega)]
    congr 1
    by_cases h3 : w = 3
    · subst h3
      by_cases hc : clo S i o = none
      · rw [if_pos ⟨rfl, hc⟩, if_pos ⟨by omega, hc, s3 o⟩]
      · rw [if_neg (fun z => hc z.2), if_neg (fun z => hc z.2.1)]
    · rw [if_neg (fun z => h3 z.1), if_neg (fun z => by rw [s5 o w (by omega)] at z; exact Bool.noConfusion z.2.2)]
  have q574 : ∀ q o, isQ S i q o → M4 57 (7 * q + 4) = M 57 (7 * q + 4) := fun q o hq => by
    rw [h4.1 q o hq 4 (by omega), f3 57 (by omega) (by omega), if_neg (fun z => by have := z.1; omega)]; exact Int32.add_zero _
  refine g_iload1 C dX3_countLetter_27 (n := 28) rfl ?_
  refine g_if_le C dX3_countLetter_28 (t := 52) (by decide) (n := 31) rfl (fun c_28 => ?_) (fun c_28 => ?_)
  · have hz : rD S i = 0 := by
      by_cases h : rD S i = 0
      · exact h
      · exact absurd ((qlt (show (0 : Int32) = nI 0 from rfl) rfl (by decide) (by omega)).mpr (by omega)) c_28
    refine r_V C dX3_countLetter_52 ?_
    first
      | exact hfin
      | (refine ⟨g61, g59, fun q o hq w hw => ?_, fun c c1 c2 c3 => by rw [h4.2 c c1]; exact f3 c c2 c3⟩
         by_cases h4w : w = 4
         · subst h4w
           rw [q574 q o hq, if_neg (fun z => by have := (s4 o).mp z.2.2; omega)]
           exact (Int32.add_zero _).symm
         · exact q57 q o hq w hw h4w)
  · have hz : 0 < rD S i := (qlt (show (0 : Int32) = nI 0 from rfl) rfl (by decide) (by omega)).mp c_28
    obtain ⟨oh, hoh⟩ := sk_head (S := S) (i := i) hz
    have hso := sk_lv S i 0 oh hoh
    have hcn := ((sk_iff S i oh).mp ⟨0, hoh⟩).2.2
    have hoq : M4 63 (rD S i) = nI (ctn (kdIs S 3) oh) := by
      rw [h4.2 63 (by omega), f3 63 (by omega) (by omega)]
      exact hO 0 oh hoh
    have hle := ctn_le (kdIs S 3) oh
    refine g_aload0 C dX3_countLetter_31 (n := 32) rfl ?_
    refine kg_X3_39 C sh_40 rfl dX3_countLetter_32 (n := 35) rfl ?_
    refine g_aload0 C dX3_countLetter_35 (n := 36) rfl ?_
    refine kg_X3_48 C sh_40 rfl dX3_countLetter_36 (n := 39) rfl ?_
    refine g_iload1 C dX3_countLetter_39 (n := 40) rfl ?_
    refine kc_X3_76 C (ct_X4_at SH M4 62 7 (rD S i) _ row_62 rfl (by omega)) sh_62 ⟨Nat.le_of_ble_eq_true rfl, Nat.le_of_ble_eq_true rfl⟩ ⟨Nat.zero_le _, Nat.zero_le _⟩ (Nat.le_of_ble_eq_true rfl) dX3_countLetter_40 (n := 43) rfl (fun r_40 M_40 h_40 => ?_)
    rw [h_40.1, h_40.2]
    refine g_bipush C bp_7 dX3_countLetter_43 (n := 45) rfl ?_
    refine g_imul C dX3_countLetter_45 (n := 46) rfl ?_
    refine g_iconst C ic_4 dX3_countLetter_46 (n := 47) rfl ?_
    refine g_iadd C dX3_countLetter_47 (n := 48) rfl ?_
    refine g_iconst C ic_1 dX3_countLetter_48 (n := 49) rfl ?_
    refine kc_X3_146 C (ct_X4_add SH M4 56 840 (7 * ctn (kdIs S 3) oh + 4) _ 1 row_56 (e_add (by rw [show M4 (62 + 1) (rD S i) = nI (ctn (kdIs S 3) oh) from hoq, Nat.mul_comm]; exact pk_mul _ 7) rfl) (by omega)) sh_56 ⟨Nat.le_of_ble_eq_true rfl, Nat.le_of_ble_eq_true rfl⟩ ⟨Nat.zero_le _, Nat.zero_le _⟩ (Nat.le_of_ble_eq_true rfl) dX3_countLetter_49 (n := 52) rfl (fun M5 e5 => ?_)
    have hfin : M5 61 = upd (M 61) (rD S i) (M 61 (rD S i) + 1) ∧ M5 59 = upd (M 59) (3 * pc + 1) (M 59 (3 * pc + 1) + 1) ∧ (∀ q o, isQ S i q o → ∀ w, w < 7 → M5 57 (7 * q + w) = M 57 (7 * q + w) + (if 3 ≤ w ∧ clo S i o = none ∧ qsel S o w i = true then 1 else 0)) ∧ ∀ c, c ≠ 57 → c ≠ 59 → c ≠ 61 → M5 c = M c := by
      refine ⟨by rw [e5, up2_ne _ _ (by omega)]; exact g61, by rw [e5, up2_ne _ _ (by omega)]; exact g59, fun q o hq w hw => ?_, fun c c1 c2 c3 => by rw [e5, up2_ne _ _ c1, h4.2 c c1]; exact f3 c c2 c3⟩
      have r5 : M5 57 = upd (M4 57) (7 * ctn (kdIs S 3) oh + 4) (M4 57 (7 * ctn (kdIs S 3) oh + 4) + 1) := by rw [e5]; exact up2_row _ _ _ _
      rw [r5]
      by_cases h4w : w = 4
      · subst h4w
        by_cases hoo : o = oh
        · subst hoo
          rw [hq.2.2, pk_us, q574 q o hq, if_pos ⟨by omega, hcn, (s4 o).mpr (by omega)⟩]
        · have hqq : q ≠ ctn (kdIs S 3) oh := fun z => hoo (ctn_one (q := kdIs S 3) (by simp [hq.2.1]) (by simp [hso.2.1]) (hq.2.2.trans z))
          rw [pk_un (by omega), q574 q o hq, if_neg]
          · exact (Int32.add_zero _).symm
          · rintro ⟨_, z1, z2⟩
            have z3 := (s4 o).mp z2
            obtain ⟨p9, hp9⟩ := (sk_iff S i o).mpr ⟨hq.1, hq.2.1, z1⟩
            have z4 := sk_lv S i p9 o hp9
            have z5 : p9 = 0 := by omega
            rw [z5, hoh] at hp9
            exact hoo (Option.some.inj hp9).symm
      · rw [pk_un (by omega)]; exact q57 q o hq w hw h4w
    refine r_V C dX3_countLetter_52 ?_
    first
      | exact hfin
      | (refine ⟨g61, g59, fun q o hq w hw => ?_, fun c c1 c2 c3 => by rw [h4.2 c c1]; exact f3 c c2 c3⟩
         by_cases h4w : w = 4
         · subst h4w
           rw [q574 q o hq, if_neg (fun z => by have := (s4 o).mp z.2.2; omega)]
           exact (Int32.add_zero _).symm
         · exact q57 q o hq w hw h4w)
set_option maxHeartbeats 4000000 in
set_option maxRecDepth 100000 in
theorem ct_X3_openQuote {l : Launch} {D : va_G} {cI cO : ClassId} {z tP : Nat} {aK aV : Nat → Nat} (M : Mem) (S : Spt) (i : Nat) (L : List (Nat × Nat)) (x : Int32) (hR : RC M S i L (7 * rD S i)) (hx : x = nI i) (hi : i < 120) (hk : kd S i = 3) : Cm l D cI cO z tP aK aV yX3_openQuote cX3_openQuote 5 none 2 45 [.ref (z + 40), .int x] SH M (pV (fun M1 => RC M1 S (i + 1) L (7 * rD S i) ∧ M1 49 = M 49 ∧ frR M M1)) := by
  refine cm_intro (lv0 := [some (.ref (z + 40)), some (.int x), none, none, none]) (by decide) rfl (Nat.le_of_ble_eq_true rfl) rfl (fun p e s m below meth c C => ?_)
  have hd6 := rD_le S i
  have hle3 := ctn_le (kdIs S 3) i
  have hR0 := hR
  obtain ⟨hW, hK, hPT, hLV, hQ, hO, hPG, hLT, h13, hst, hGR⟩ := hR0
  have hlt6 := kd3_lt hk
  refine g_aload0 C dX3_openQuote_0 (n := 1) rfl ?_
  refine kg_X3_51 C sh_40 rfl dX3_openQuote_1 (n := 4) rfl ?_
  refine kc_X3_87 C (ct_X0_depthOf SH M (rD S i) 0 _ hst hd6 (by decide)) ⟨Nat.le_of_ble_eq_true rfl, Nat.le_of_ble_eq_true rfl⟩ ⟨Nat.zero_le _, Nat.zero_le _⟩ (Nat.le_of_ble_eq_true rfl) dX3_openQuote_4 (n := 7) rfl (fun r_4 M_4 h_4 => ?_)
  rw [h_4.1, h_4.2]
  refine g_istore2 C dX3_openQuote_7 (n := 8) rfl ?_
  refine g_aload0 C dX3_openQuote_8 (n := 9) rfl ?_
  refine g_bipush C bp_6 dX3_openQuote_9 (n := 11) rfl ?_
  refine kc_X3_134 C (ct_X3_addToOpenQuotes M S i 0 6 6 hst (by decide) hO (by omega) rfl (by decide)) sh_40 ⟨Nat.le_of_ble_eq_true rfl, Nat.le_of_ble_eq_true rfl⟩ ⟨Nat.zero_le _, Nat.zero_le _⟩ (Nat.le_of_ble_eq_true rfl) dX3_openQuote_11 (n := 14) rfl (fun M2 h2 => ?_)
  have hm : M2 40 8 * 7 = nI (7 * ctn (kdIs S 3) i) := by rw [h2.2 40 (by omega), hQ.1, Nat.mul_comm]; exact pk_mul _ 7
  refine g_aload0 C dX3_openQuote_14 (n := 15) rfl ?_
  refine kg_X3_102 C sh_40 rfl dX3_openQuote_15 (n := 18) rfl ?_
  refine g_bipush C bp_7 dX3_openQuote_18 (n := 20) rfl ?_
  refine g_imul C dX3_openQuote_20 (n := 21) rfl ?_
  refine g_istore3 C dX3_openQuote_21 (n := 22) rfl ?_
  refine g_iconst C ic_0 dX3_openQuote_22 (n := 23) rfl ?_
  refine g_istore4 C dX3_openQuote_23 (n := 25) rfl ?_
  have L_25 : ∀ (fu : Nat) (v : Nat) (y : Int32) (M3 : Mem), 7 - v < fu → (y = nI v) → (v ≤ 7) → (∀ j, M3 57 j = if 7 * ctn (kdIs S 3) i ≤ j ∧ j < 7 * ctn (kdIs S 3) i + v then 0 else M2 57 j) → (∀ c, c ≠ 57 → M3 c = M2 c) → G p l e ({ frames := 2, cells := 0, slots := 0, locals := 45 }) s m ([.ref (z + 40), .int x] : List Value).toArray below meth c D cI cO z 5 (QM below D cI cO z ([.ref (z + 40), .int x] : List Value).toArray s SH (pV (fun M1 => RC M1 S (i + 1) L (7 * rD S i) ∧ M1 49 = M 49 ∧ frR M M1))) 0 0 SH M3 25 [some (.ref (z + 40)), some (.int x), some (.int (nI (rD S i))), some (.int (M2 40 8 * 7)), some (.int y)] [] := by
    intro fu_25
    induction fu_25 with
    | zero => intro v y M3 hfu; exact absurd hfu (Nat.not_lt_zero _)
    | succ fu_25 ih_25 =>
      intro v y M3 hfu_25 hy hv hB hF
      refine g_iload4 C dX3_openQuote_25 (n := 27) rfl ?_
      refine g_bipush C bp_7 dX3_openQuote_27 (n := 29) rfl ?_
      refine g_icmp_ge C dX3_openQuote_29 (t := 50) (by decide) (n := 32) rfl (fun c_29 => ?_) (fun c_29 => ?_)
      · have w29 : ¬ v < 7 := fun h => c_29 ((qlt hy (show (7 : Int32) = nI 7 from rfl) (by omega) (by decide)).mpr h)
        refine g_aload0 C dX3_openQuote_50 (n := 51) rfl ?_
        refine kg_X3_39 C sh_40 rfl dX3_openQuote_51 (n := 54) rfl ?_
        refine g_iload3 C dX3_openQuote_54 (n := 55) rfl ?_
        refine g_iconst C ic_0 dX3_openQuote_55 (n := 56) rfl ?_
        refine g_iadd C dX3_openQuote_56 (n := 57) rfl ?_
        refine g_iload1 C dX3_openQuote_57 (n := 58) rfl ?_
        refine kc_X3_90 C (ct_X4_set SH M3 56 840 (7 * ctn (kdIs S 3) i) _ x row_56 (by rw [hm]; exact nI_add _ 0) (by omega)) sh_56 ⟨Nat.le_of_ble_eq_true rfl, Nat.le_of_ble_eq_true rfl⟩ ⟨Nat.zero_le _, Nat.zero_le _⟩ (Nat.le_of_ble_eq_true rfl) dX3_openQuote_58 (n := 61) rfl (fun M4 e4 => ?_)
        refine g_aload0 C dX3_openQuote_61 (n := 62) rfl ?_
        refine kg_X3_39 C sh_40 rfl dX3_openQuote_62 (n := 65) rfl ?_
        refine g_iload3 C dX3_openQuote_65 (n := 66) rfl ?_
        refine g_iconst C ic_1 dX3_openQuote_66 (n := 67) rfl ?_
        refine g_iadd C dX3_openQuote_67 (n := 68) rfl ?_
        refine g_bipush C bp_m4 dX3_openQuote_68 (n := 70) rfl ?_
        refine kc_X3_90 C (ct_X4_set SH M4 56 840 (7 * ctn (kdIs S 3) i + 1) _ (-4) row_56 (by rw [hm]; exact nI_add _ 1) (by omega)) sh_56 ⟨Nat.le_of_ble_eq_true rfl, Nat.le_of_ble_eq_true rfl⟩ ⟨Nat.zero_le _, Nat.zero_le _⟩ (Nat.le_of_ble_eq_true rfl) dX3_openQuote_70 (n := 73) rfl (fun M5 e5 => ?_)
        refine g_aload0 C dX3_openQuote_73 (n := 74) rfl ?_
        refine kg_X3_39 C sh_40 rfl dX3_openQuote_74 (n := 77) rfl ?_
        refine g_iload3 C dX3_openQuote_77 (n := 78) rfl ?_
        refine g_iconst C ic_2 dX3_openQuote_78 (n := 79) rfl ?_
        refine g_iadd C dX3_openQuote_79 (n := 80) rfl ?_
        refine g_iload2 C dX3_openQuote_80 (n := 81) rfl ?_
        refine g_iconst C ic_1 dX3_openQuote_81 (n := 82) rfl ?_
        refine g_iadd C dX3_openQuote_82 (n := 83) rfl ?_
        refine kc_X3_90 C (ct_X4_set SH M5 56 840 (7 * ctn (kdIs S 3) i + 2) _ _ row_56 (by rw [hm]; exact nI_add _ 2) (by omega)) sh_56 ⟨Nat.le_of_ble_eq_true rfl, Nat.le_of_ble_eq_true rfl⟩ ⟨Nat.zero_le _, Nat.zero_le _⟩ (Nat.le_of_ble_eq_true rfl) dX3_openQuote_83 (n := 86) rfl (fun M6 e6 => ?_)
        refine g_aload0 C dX3_openQuote_86 (n := 87) rfl ?_
        refine kg_X3_48 C sh_40 rfl dX3_openQuote_87 (n := 90) rfl ?_
        refine g_iload2 C dX3_openQuote_90 (n := 91) rfl ?_
        refine g_iconst C ic_1 dX3_openQuote_91 (n := 92) rfl ?_
        refine g_iadd C dX3_openQuote_92 (n := 93) rfl ?_
        refine g_aload0 C dX3_openQuote_93 (n := 94) rfl ?_
        refine kg_X3_102 C sh_40 rfl dX3_openQuote_94 (n := 97) rfl ?_
        refine kc_X3_90 C (ct_X4_set SH M6 62 7 (rD S i + 1) _ _ row_62 (nI_1 _) (by omega)) sh_62 ⟨Nat.le_of_ble_eq_true rfl, Nat.le_of_ble_eq_true rfl⟩ ⟨Nat.zero_le _, Nat.zero_le _⟩ (Nat.le_of_ble_eq_true rfl) dX3_openQuote_97 (n := 100) rfl (fun M7 e7 => ?_)
        refine g_aload0 C dX3_openQuote_100 (n := 101) rfl ?_
        refine g_dup C rfl dX3_openQuote_101 (n := 102) rfl ?_
        refine kg_X3_102 C sh_40 rfl dX3_openQuote_102 (n := 105) rfl ?_
        refine g_iconst C ic_1 dX3_openQuote_105 (n := 106) rfl ?_
        refine g_iadd C dX3_openQuote_106 (n := 107) rfl ?_
        refine kp_X3_102 C sh_40 rfl dX3_openQuote_107 (n := 110) rfl (fun M8 e8 => ?_)
        refine g_aload0 C dX3_openQuote_110 (n := 111) rfl ?_
        refine g_aload0 C dX3_openQuote_111 (n := 112) rfl ?_
        refine kg_X3_108 C sh_40 rfl dX3_openQuote_112 (n := 115) rfl ?_
        refine g_iload2 C dX3_openQuote_115 (n := 116) rfl ?_
        refine g_iconst C ic_1 dX3_openQuote_116 (n := 117) rfl ?_
        refine g_iadd C dX3_openQuote_117 (n := 118) rfl ?_
        refine kc_X3_149 C ⟨Nat.le_of_ble_eq_true rfl, Nat.le_of_ble_eq_true rfl⟩ ⟨Nat.zero_le _, Nat.zero_le _⟩ dX3_openQuote_118 (n := 121) rfl ?_
        refine kp_X3_108 C sh_40 rfl dX3_openQuote_121 (n := 124) rfl (fun M9 e9 => ?_)
        refine g_aload0 C dX3_openQuote_124 (n := 125) rfl ?_
        refine kg_X3_23 C sh_40 rfl dX3_openQuote_125 (n := 128) rfl ?_
        refine g_iload1 C dX3_openQuote_128 (n := 129) rfl ?_
        refine g_iconst C ic_3 dX3_openQuote_129 (n := 130) rfl ?_
        refine kc_X3_90 C (ct_X4_set SH M9 46 120 i _ 3 row_46 hx hi) sh_46 ⟨Nat.le_of_ble_eq_true rfl, Nat.le_of_ble_eq_true rfl⟩ ⟨Nat.zero_le _, Nat.zero_le _⟩ (Nat.le_of_ble_eq_true rfl) dX3_openQuote_130 (n := 133) rfl (fun Ma ea => ?_)
        refine g_aload0 C dX3_openQuote_133 (n := 134) rfl ?_
        refine kg_X3_33 C sh_40 rfl dX3_openQuote_134 (n := 137) rfl ?_
        refine g_iload1 C dX3_openQuote_137 (n := 138) rfl ?_
        refine g_iload2 C dX3_openQuote_138 (n := 139) rfl ?_
        refine kc_X3_90 C (ct_X4_set SH Ma 52 120 i _ _ row_52 hx hi) sh_52 ⟨Nat.le_of_ble_eq_true rfl, Nat.le_of_ble_eq_true rfl⟩ ⟨Nat.zero_le _, Nat.zero_le _⟩ (Nat.le_of_ble_eq_true rfl) dX3_openQuote_139 (n := 142) rfl (fun Mb eb => ?_)
        refine g_aload0 C dX3_openQuote_142 (n := 143) rfl ?_
        refine kg_X3_30 C sh_40 rfl dX3_openQuote_143 (n := 146) rfl ?_
        refine g_iload1 C dX3_openQuote_146 (n := 147) rfl ?_
        refine g_bipush C bp_m4 dX3_openQuote_147 (n := 149) rfl ?_
        refine kc_X3_90 C (ct_X4_set SH Mb 50 120 i _ _ row_50 hx hi) sh_50 ⟨Nat.le_of_ble_eq_true rfl, Nat.le_of_ble_eq_true rfl⟩ ⟨Nat.zero_le _, Nat.zero_le _⟩ (Nat.le_of_ble_eq_true rfl) dX3_openQuote_149 (n := 152) rfl (fun Mc ec => ?_)
        refine r_V C dX3_openQuote_152 ?_
        have hv7 : v = 7 := by omega
        have f : ∀ c, c ≠ 40 → c ≠ 47 → c ≠ 51 → c ≠ 53 → c ≠ 57 → c ≠ 63 → Mc c = M c := fun c c1 c2 c3 c4 c5 c6 => by
          rw [ec, up2_ne _ _ c3, eb, up2_ne _ _ c4, ea, up2_ne _ _ c2, e9, up2_ne _ _ c1, e8, up2_ne _ _ c1, e7, up2_ne _ _ c6, e6, up2_ne _ _ c5, e5, up2_ne _ _ c5, e4, up2_ne _ _ c5, hF c c5, h2.2 c c5]
        have a6 : ∀ c, c ≠ 57 → M6 c = M c := fun c c5 => by rw [e6, up2_ne _ _ c5, e5, up2_ne _ _ c5, e4, up2_ne _ _ c5, hF c c5, h2.2 c c5]
        have a7 : ∀ c, c ≠ 57 → c ≠ 63 → M7 c = M c := fun c c5 c6 => by rw [e7, up2_ne _ _ c6]; exact a6 c c5
        have b40 : Mc 40 = M9 40 := by rw [ec, up2_ne _ _ (by omega), eb, up2_ne _ _ (by omega), ea, up2_ne _ _ (by omega)]
        have b57 : Mc 57 = M6 57 := by rw [ec, up2_ne _ _ (by omega), eb, up2_ne _ _ (by omega), ea, up2_ne _ _ (by omega), e9, up2_ne _ _ (by omega), e8, up2_ne _ _ (by omega), e7, up2_ne _ _ (by omega)]
        have s8 : Mc 40 8 = nI (ctn (kdIs S 3) i + 1) := by rw [b40, e9]; simp [up2]; rw [e8]; simp [up2]; rw [a7 40 (by omega) (by omega), hQ.1, nI_1]
        have s13 : Mc 40 13 = nI (mxD S (i + 1)) := by
          rw [b40, e9, up2_at, mxD_o hk, e8]
          simp [up2]
          rw [a7 40 (by omega) (by omega), h13, nI_1]
          have hm6 := mxD_le S i
          by_cases hl : mxD S i < rD S i + 1
          · rw [if_pos ((nI_ltI (by omega) (by omega)).mpr hl), Nat.max_eq_right (by omega)]
          · rw [if_neg (fun h => hl ((nI_ltI (by omega) (by omega)).mp h)), Nat.max_eq_left (by omega)]
        have s40 : ∀ j, j ≠ 8 → j ≠ 13 → Mc 40 j = M 40 j := fun j j1 j2 => by rw [b40, e9]; simp [up2, j2]; rw [e8]; simp [up2, j1]; rw [a7 40 (by omega) (by omega)]
        have r57 : Mc 57 = upd (upd (upd (M3 57) (7 * ctn (kdIs S 3) i) x) (7 * ctn (kdIs S 3) i + 1) (-4)) (7 * ctn (kdIs S 3) i + 2) (nI (rD S i) + 1) := by
          rw [b57, e6]; refine (up2_row _ _ _ _).trans ?_
          rw [e5]; refine congrArg (fun f => upd f _ _) ((up2_row _ _ _ _).trans ?_)
          rw [e4]; exact congrArg (fun f => upd f _ _) (up2_row _ _ _ _)
        refine ⟨⟨WRc_cong hW (s40 6 (by omega) (by omega)) (f 55 (by omega) (by omega) (by omega) (by omega) (by omega) (by omega)), ?_, ?_, ?_, ?_, ?_, ?_, ?_, s13, by rw [s40 14 (by omega) (by omega)]; exact hst, GRc_cong hGR (f _ (by omega) (by omega) (by omega) (by omega) (by omega) (by omega)) (f _ (by omega) (by omega) (by omega) (by omega) (by omega) (by omega)) (f _ (by omega) (by omega) (by omega) (by omega) (by omega) (by omega))⟩, f 49 (by omega) (by omega) (by omega) (by omega) (by omega) (by omega), fun a ha => f a (by omega) (by omega) (by omega) (by omega) (by omega) (by omega)⟩
        · refine KDc_s (v := 3) hK ?_ (by rw [hk]; rfl)
          rw [ec, up2_ne _ _ (by omega), eb, up2_ne _ _ (by omega), ea]
          refine (up2_row _ _ _ _).trans ?_
          rw [e9, up2_ne _ _ (by omega), e8, up2_ne _ _ (by omega), a7 47 (by omega) (by omega)]
        · refine PTc_o hPT hk ?_
          rw [ec]; refine (up2_row _ _ _ _).trans ?_
          rw [eb, up2_ne _ _ (by omega), ea, up2_ne _ _ (by omega), e9, up2_ne _ _ (by omega), e8, up2_ne _ _ (by omega), a7 51 (by omega) (by omega)]
        · refine LVc_s (v := nI (rD S i)) hLV ?_ (by rw [lev_34 (by omega)])
          rw [ec, up2_ne _ _ (by omega), eb]; refine (up2_row _ _ _ _).trans ?_
          rw [ea, up2_ne _ _ (by omega), e9, up2_ne _ _ (by omega), e8, up2_ne _ _ (by omega), a7 53 (by omega) (by omega)]
        · refine QTc_o hQ hk s8 (fun q o hq w hw => ?_) (fun w hw => ?_)
          · have hq2 : q < ctn (kdIs S 3) i := by rw [← hq.2.2]; exact ctn_lt hq.1 (by simp [hq.2.1])
            rw [r57, pk_un (by omega), pk_un (by omega), pk_un (by omega), hB, if_neg (by omega)]
            exact h2.1 q o hq w hw
          · rw [r57]
            rcases (show w = 0 ∨ w = 1 ∨ w = 2 ∨ 3 ≤ w by omega) with rfl | rfl | rfl | h3
            · rw [pk_un (by omega), pk_un (by omega), if_pos rfl]; exact pk_us.trans hx
            · rw [pk_un (by omega), if_neg (by decide), if_pos rfl]; exact pk_us
            · rw [if_neg (by decide), if_neg (by decide), if_pos rfl]; exact pk_us.trans (nI_1 _)
            · rw [pk_un (by omega), pk_un (by omega), pk_un (by omega), hB, if_pos (by omega), if_neg (by omega), if_neg (by omega), if_neg (by omega)]
        · refine OQc_o hO hk ?_
          rw [ec, up2_ne _ _ (by omega), eb, up2_ne _ _ (by omega), ea, up2_ne _ _ (by omega), e9, up2_ne _ _ (by omega), e8, up2_ne _ _ (by omega), e7]
          refine (up2_row _ _ _ _).trans ?_
          rw [a6 63 (by omega), a6 40 (by omega), hQ.1]
        · exact PGc_n hPG (f 59 (by omega) (by omega) (by omega) (by omega) (by omega) (by omega)) (s40 10 (by omega) (by omega)) (by omega) (by omega) (by omega)
        · exact LTc_n hLT (f 61 (by omega) (by omega) (by omega) (by omega) (by omega) (by omega)) (by omega)
      · have w29 : v < 7 := (qlt hy (show (7 : Int32) = nI 7 from rfl) (by omega) (by decide)).mp c_29
        refine g_aload0 C dX3_openQuote_32 (n := 33) rfl ?_
        refine kg_X3_39 C sh_40 rfl dX3_openQuote_33 (n := 36) rfl ?_
        refine g_iload3 C dX3_openQuote_36 (n := 37) rfl ?_
        refine g_iload4 C dX3_openQuote_37 (n := 39) rfl ?_
        refine g_iadd C dX3_openQuote_39 (n := 40) rfl ?_
        refine g_iconst C ic_0 dX3_openQuote_40 (n := 41) rfl ?_
        refine kc_X3_90 C (ct_X4_set SH M3 56 840 (7 * ctn (kdIs S 3) i + v) _ 0 row_56 (e_add hm hy) (by omega)) sh_56 ⟨Nat.le_of_ble_eq_true rfl, Nat.le_of_ble_eq_true rfl⟩ ⟨Nat.zero_le _, Nat.zero_le _⟩ (Nat.le_of_ble_eq_true rfl) dX3_openQuote_41 (n := 44) rfl (fun M4 e4 => ?_)
        refine g_iinc4 C (inc_1 _) dX3_openQuote_44 (n := 47) rfl ?_
        refine g_goto C dX3_openQuote_47 (t := 25) (by decide) ?_
        exact ih_25 (v + 1) (y + 1) M4 (by omega) (by rw [hy, nI_1]) (by omega) (fun j => by
          have r4 : M4 57 = upd (M3 57) (7 * ctn (kdIs S 3) i + v) 0 := by rw [e4]; exact up2_row _ _ _ _
          rw [r4]
          by_cases hj : j = 7 * ctn (kdIs S 3) i + v
          · rw [hj, pk_us, if_pos (by omega)]
          · rw [pk_un hj, hB j]
            by_cases hc : 7 * ctn (kdIs S 3) i ≤ j ∧ j < 7 * ctn (kdIs S 3) i + v
            · rw [if_pos hc, if_pos (by omega)]
            · rw [if_neg hc, if_neg (by omega)]) (fun c hc => by rw [e4, up2_ne _ _ hc]; exact hF c hc)
  exact L_25 8 0 0 M2 (by omega) nI_0.symm (by omega) (fun j => by rw [if_neg (by omega)]) (fun _ _ => rfl)
set_option maxHeartbeats 4000000 in
set_option maxRecDepth 100000 in
theorem ct_X3_closeQuote {l : Launch} {D : va_G} {cI cO : ClassId} {z tP : Nat} {aK aV : Nat → Nat} (M : Mem) (S : Spt) (i : Nat) (L : List (Nat × Nat)) (x : Int32) (hR : RC M S i L (7 * rD S i)) (hx : x = nI i) (hi : i < 120) (hk : kd S i = 4) : Cm l D cI cO z tP aK aV yX3_closeQuote cX3_closeQuote 5 none 1 22 [.ref (z + 40), .int x] SH M (pV (fun M1 => RC M1 S (i + 1) L (7 * rD S i) ∧ M1 49 = M 49 ∧ frR M M1)) := by
  refine cm_intro (lv0 := [some (.ref (z + 40)), some (.int x), none, none, none]) (by decide) rfl (Nat.le_of_ble_eq_true rfl) rfl (fun p e s m below meth c C => ?_)
  have hd6 := rD_le S i
  have hle3 := ctn_le (kdIs S 3) i
  have hR0 := hR
  obtain ⟨hW, hK, hPT, hLV, hQ, hO, hPG, hLT, h13, hst, hGR⟩ := hR0
  obtain ⟨oh, hoh⟩ := sk_head (kd4_pos hk)
  have hso := sk_lv S i 0 oh hoh
  have hleo := ctn_le (kdIs S 3) oh
  have hoq : M 63 (rD S i) = nI (ctn (kdIs S 3) oh) := hO 0 oh hoh
  have h57 : M 57 (7 * ctn (kdIs S 3) oh) = nI oh := hQ.2 _ oh ⟨hso.1, hso.2.1, rfl⟩ 0 (by decide)
  have hm : M (62 + 1) (rD S i) * 7 = nI (7 * ctn (kdIs S 3) oh) := by rw [show M (62 + 1) (rD S i) = nI (ctn (kdIs S 3) oh) from hoq, Nat.mul_comm]; exact pk_mul _ 7
  refine g_aload0 C dX3_closeQuote_0 (n := 1) rfl ?_
  refine kg_X3_51 C sh_40 rfl dX3_closeQuote_1 (n := 4) rfl ?_
  refine kc_X3_87 C (ct_X0_depthOf SH M (rD S i) 0 _ hst hd6 (by decide)) ⟨Nat.le_of_ble_eq_true rfl, Nat.le_of_ble_eq_true rfl⟩ ⟨Nat.zero_le _, Nat.zero_le _⟩ (Nat.le_of_ble_eq_true rfl) dX3_closeQuote_4 (n := 7) rfl (fun r_4 M_4 h_4 => ?_)
  rw [h_4.1, h_4.2]
  refine g_istore2 C dX3_closeQuote_7 (n := 8) rfl ?_
  refine g_aload0 C dX3_closeQuote_8 (n := 9) rfl ?_
  refine kg_X3_48 C sh_40 rfl dX3_closeQuote_9 (n := 12) rfl ?_
  refine g_iload2 C dX3_closeQuote_12 (n := 13) rfl ?_
  refine kc_X3_76 C (ct_X4_at SH M 62 7 (rD S i) _ row_62 rfl (by omega)) sh_62 ⟨Nat.le_of_ble_eq_true rfl, Nat.le_of_ble_eq_true rfl⟩ ⟨Nat.zero_le _, Nat.zero_le _⟩ (Nat.le_of_ble_eq_true rfl) dX3_closeQuote_13 (n := 16) rfl (fun r_13 M_13 h_13 => ?_)
  rw [h_13.1, h_13.2]
  refine g_bipush C bp_7 dX3_closeQuote_16 (n := 18) rfl ?_
  refine g_imul C dX3_closeQuote_18 (n := 19) rfl ?_
  refine g_istore3 C dX3_closeQuote_19 (n := 20) rfl ?_
  refine g_aload0 C dX3_closeQuote_20 (n := 21) rfl ?_
  refine kg_X3_39 C sh_40 rfl dX3_closeQuote_21 (n := 24) rfl ?_
  refine g_iload3 C dX3_closeQuote_24 (n := 25) rfl ?_
  refine g_iconst C ic_0 dX3_closeQuote_25 (n := 26) rfl ?_
  refine g_iadd C dX3_closeQuote_26 (n := 27) rfl ?_
  refine kc_X3_76 C (ct_X4_at SH M 56 840 (7 * ctn (kdIs S 3) oh) _ row_56 (by rw [hm]; exact nI_add _ 0) (by omega)) sh_56 ⟨Nat.le_of_ble_eq_true rfl, Nat.le_of_ble_eq_true rfl⟩ ⟨Nat.zero_le _, Nat.zero_le _⟩ (Nat.le_of_ble_eq_true rfl) dX3_closeQuote_27 (n := 30) rfl (fun r_27 M_27 h_27 => ?_)
  rw [h_27.1, h_27.2]
  refine g_istore4 C dX3_closeQuote_30 (n := 32) rfl ?_
  refine g_aload0 C dX3_closeQuote_32 (n := 33) rfl ?_
  refine kg_X3_39 C sh_40 rfl dX3_closeQuote_33 (n := 36) rfl ?_
  refine g_iload3 C dX3_closeQuote_36 (n := 37) rfl ?_
  refine g_iconst C ic_1 dX3_closeQuote_37 (n := 38) rfl ?_
  refine g_iadd C dX3_closeQuote_38 (n := 39) rfl ?_
  refine g_iload1 C dX3_closeQuote_39 (n := 40) rfl ?_
  refine kc_X3_90 C (ct_X4_set SH M 56 840 (7 * ctn (kdIs S 3) oh + 1) _ x row_56 (by rw [hm]; exact nI_add _ 1) (by omega)) sh_56 ⟨Nat.le_of_ble_eq_true rfl, Nat.le_of_ble_eq_true rfl⟩ ⟨Nat.zero_le _, Nat.zero_le _⟩ (Nat.le_of_ble_eq_true rfl) dX3_closeQuote_40 (n := 43) rfl (fun M2 e2 => ?_)
  refine g_aload0 C dX3_closeQuote_43 (n := 44) rfl ?_
  refine kg_X3_23 C sh_40 rfl dX3_closeQuote_44 (n := 47) rfl ?_
  refine g_iload1 C dX3_closeQuote_47 (n := 48) rfl ?_
  refine g_iconst C ic_4 dX3_closeQuote_48 (n := 49) rfl ?_
  refine kc_X3_90 C (ct_X4_set SH M2 46 120 i _ 4 row_46 hx hi) sh_46 ⟨Nat.le_of_ble_eq_true rfl, Nat.le_of_ble_eq_true rfl⟩ ⟨Nat.zero_le _, Nat.zero_le _⟩ (Nat.le_of_ble_eq_true rfl) dX3_closeQuote_49 (n := 52) rfl (fun M3 e3 => ?_)
  refine g_aload0 C dX3_closeQuote_52 (n := 53) rfl ?_
  refine kg_X3_33 C sh_40 rfl dX3_closeQuote_53 (n := 56) rfl ?_
  refine g_iload1 C dX3_closeQuote_56 (n := 57) rfl ?_
  refine g_iload2 C dX3_closeQuote_57 (n := 58) rfl ?_
  refine kc_X3_90 C (ct_X4_set SH M3 52 120 i _ _ row_52 hx hi) sh_52 ⟨Nat.le_of_ble_eq_true rfl, Nat.le_of_ble_eq_true rfl⟩ ⟨Nat.zero_le _, Nat.zero_le _⟩ (Nat.le_of_ble_eq_true rfl) dX3_closeQuote_58 (n := 61) rfl (fun M4 e4 => ?_)
  refine g_aload0 C dX3_closeQuote_61 (n := 62) rfl ?_
  refine kg_X3_30 C sh_40 rfl dX3_closeQuote_62 (n := 65) rfl ?_
  refine g_iload1 C dX3_closeQuote_65 (n := 66) rfl ?_
  refine g_iload4 C dX3_closeQuote_66 (n := 68) rfl ?_
  refine kc_X3_90 C (ct_X4_set SH M4 50 120 i _ _ row_50 hx hi) sh_50 ⟨Nat.le_of_ble_eq_true rfl, Nat.le_of_ble_eq_true rfl⟩ ⟨Nat.zero_le _, Nat.zero_le _⟩ (Nat.le_of_ble_eq_true rfl) dX3_closeQuote_68 (n := 71) rfl (fun M5 e5 => ?_)
  refine g_aload0 C dX3_closeQuote_71 (n := 72) rfl ?_
  refine kg_X3_30 C sh_40 rfl dX3_closeQuote_72 (n := 75) rfl ?_
  refine g_iload4 C dX3_closeQuote_75 (n := 77) rfl ?_
  refine g_iload1 C dX3_closeQuote_77 (n := 78) rfl ?_
  refine kc_X3_90 C (ct_X4_set SH M5 50 120 oh _ x row_50 h57 (by omega)) sh_50 ⟨Nat.le_of_ble_eq_true rfl, Nat.le_of_ble_eq_true rfl⟩ ⟨Nat.zero_le _, Nat.zero_le _⟩ (Nat.le_of_ble_eq_true rfl) dX3_closeQuote_78 (n := 81) rfl (fun M6 e6 => ?_)
  refine r_V C dX3_closeQuote_81 ?_
  have f : ∀ c, c ≠ 47 → c ≠ 51 → c ≠ 53 → c ≠ 57 → M6 c = M c := fun c c2 c3 c4 c5 => by
    rw [e6, up2_ne _ _ c3, e5, up2_ne _ _ c3, e4, up2_ne _ _ c4, e3, up2_ne _ _ c2, e2, up2_ne _ _ c5]
  have f40 : M6 40 = M 40 := f 40 (by omega) (by omega) (by omega) (by omega)
  refine ⟨⟨WRc_cong hW (by rw [f40]) (f 55 (by omega) (by omega) (by omega) (by omega)), ?_, ?_, ?_, ?_, ?_, ?_, ?_, by rw [f40, mxD_n (by omega)]; exact h13, by rw [f40]; exact hst, GRc_cong hGR (f _ (by omega) (by omega) (by omega) (by omega)) (f _ (by omega) (by omega) (by omega) (by omega)) (f _ (by omega) (by omega) (by omega) (by omega))⟩, f 49 (by omega) (by omega) (by omega) (by omega), fun a ha => f a (by omega) (by omega) (by omega) (by omega)⟩
  · refine KDc_s (v := 4) hK ?_ (by rw [hk]; rfl)
    rw [e6, up2_ne _ _ (by omega), e5, up2_ne _ _ (by omega), e4, up2_ne _ _ (by omega), e3]
    refine (up2_row _ _ _ _).trans ?_
    rw [e2, up2_ne _ _ (by omega)]
  · refine PTc_x hPT hk hoh ?_
    rw [e6]; refine (up2_row _ _ _ _).trans ?_
    rw [e5, hx]; refine congrArg (fun f => upd f _ _) ((up2_row _ _ _ _).trans ?_)
    rw [e4, up2_ne _ _ (by omega), e3, up2_ne _ _ (by omega), e2, up2_ne _ _ (by omega)]
    rw [show M (56 + 1) (7 * ctn (kdIs S 3) oh) = nI oh from h57]
  · refine LVc_s (v := nI (rD S i)) hLV ?_ (by rw [lev_34 (by omega)])
    rw [e6, up2_ne _ _ (by omega), e5, up2_ne _ _ (by omega), e4]; refine (up2_row _ _ _ _).trans ?_
    rw [e3, up2_ne _ _ (by omega), e2, up2_ne _ _ (by omega)]
  · refine QTc_x hQ hk hoh (by rw [f40]) ?_
    rw [e6, up2_ne _ _ (by omega), e5, up2_ne _ _ (by omega), e4, up2_ne _ _ (by omega), e3, up2_ne _ _ (by omega), e2, hx]
    exact up2_row _ _ _ _
  · exact OQc_x hO hk (f 63 (by omega) (by omega) (by omega) (by omega))
  · exact PGc_n hPG (f 59 (by omega) (by omega) (by omega) (by omega)) (by rw [f40]) (by omega) (by omega) (by omega)
  · exact LTc_n hLT (f 61 (by omega) (by omega) (by omega) (by omega)) (by omega)
