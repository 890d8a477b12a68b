/-! the class reads: its rows, step by step -/
def WRc (M : Mem) (L : List (Nat × Nat)) : Prop := M 40 6 = nI L.length ∧ ∀ j q, L[j]? = some q → M 55 (2 * j) = nI q.1 ∧ M 55 (2 * j + 1) = nI q.2
def KDc (M : Mem) (S : Spt) (i : Nat) : Prop := ∀ k, k < i → M 47 k = nI (kd S k)
def DPc (M : Mem) (S : Spt) (i : Nat) : Prop := ∀ k, k < i → M 49 k = nI (rD S (k + 1))
def PTc (M : Mem) (S : Spt) (i : Nat) : Prop := ∀ k, k < i → (kd S k = 3 → M 51 k = oI (clo S i k)) ∧ (kd S k = 4 → ∃ o, (sk S k)[0]? = some o ∧ M 51 k = nI o)
def LVc (M : Mem) (S : Spt) (i : Nat) : Prop := ∀ k, k < i → kd S k = 3 ∨ kd S k = 4 ∨ kd S k = 5 → M 53 k = nI (levS S k)
def QTc (M : Mem) (S : Spt) (i : Nat) : Prop := M 40 8 = nI (ctn (kdIs S 3) i) ∧ ∀ q o, isQ S i q o → ∀ w, w < 7 → M 57 (7 * q + w) = qfS S i o w
def OQc (M : Mem) (S : Spt) (i : Nat) : Prop := ∀ (p o : Nat), (sk S i)[p]? = some o → M 63 (rD S i - p) = nI (ctn (kdIs S 3) o)
def PGc (M : Mem) (S : Spt) (i : Nat) : Prop := M 40 10 = nI (ctn (kdIs S 2) i + 1) ∧ ∀ q, q ≤ ctn (kdIs S 2) i → ∀ w, w < 3 → pfS S i q w (M 59 (3 * q + w))
def LTc (M : Mem) (S : Spt) (i : Nat) : Prop := ∀ d, d ≤ 6 → M 61 d = nI (ltA S i d)
def GRc (M : Mem) (S : Spt) : Prop := GOK M 41 (spt S) (spr S) ∧ M 41 0 = nI (spt S) ∧ M 41 1 = nI (spr S)
def RC (M : Mem) (S : Spt) (i : Nat) (L : List (Nat × Nat)) (st : Nat) : Prop :=
  WRc M L ∧ KDc M S i ∧ PTc M S i ∧ LVc M S i ∧ QTc M S i ∧ OQc M S i ∧ PGc M S i ∧ LTc M S i ∧ M 40 13 = nI (mxD S i) ∧ M 40 14 = nI st ∧ GRc M S
abbrev frR (M M1 : Mem) : Prop := ∀ a, (a < 40 ∨ 64 ≤ a) → M1 a = M a
theorem GRc_cong {M M' : Mem} {S : Spt} (h : GRc M S) (h1 : M' 41 = M 41) (h2 : M' 43 = M 43) (h3 : M' 45 = M 45) : GRc M' S := ⟨GOK_cong h2 h3 h.1, by rw [h1]; exact h.2.1, by rw [h1]; exact h.2.2⟩
theorem WRc_cong {M M' : Mem} {L : List (Nat × Nat)} (h : WRc M L) (e : M' 40 6 = M 40 6) (e1 : M' 55 = M 55) : WRc M' L := by
  unfold WRc; rw [e, e1]; exact h
theorem qf_s {S : Spt} {i o w : Nat} (ho : o < i) (hh : ¬ (kd S i = 4 ∧ (sk S i).head? = some o)) : qfS S (i + 1) o w = qfS S i o w + (if 3 ≤ w ∧ clo S i o = none ∧ qsel S o w i = true then 1 else 0) := by
  have hc : clo S (i + 1) o = clo S i o := by rw [clo_s, if_neg hh]
  by_cases h3 : 3 ≤ w
  · rw [qf_sel h3, qf_sel h3]
    unfold enQ
    rw [hc]
    cases hcl : clo S i o with
    | some e => rw [if_neg (by simp)]; exact (nI_add _ 0).symm
    | none =>
      show nI (ctR _ (o + 1) (i + 1)) = nI (ctR _ (o + 1) i) + _
      rw [ctR_s (by omega)]
      by_cases hq : qsel S o w i = true
      · rw [if_pos hq, if_pos ⟨h3, rfl, hq⟩]; exact (nI_1 _).symm
      · rw [if_neg hq, if_neg (fun h => hq h.2.2)]; exact (nI_add _ 0).symm
  · rw [if_neg (fun h => h3 h.1)]
    have : ∀ x : Int32, x + 0 = x := fun x => Int32.add_zero x
    rw [this]
    unfold qfS
    rcases (show w = 0 ∨ w = 1 ∨ w = 2 by omega) with rfl | rfl | rfl
    · rfl
    · simp [hc]
    · rfl
theorem qsel_4 {S : Spt} {i o w : Nat} (h : kd S i ≠ 0) (h2 : kd S i ≠ 2) (h3 : kd S i ≠ 3) : qsel S o w i = false := by
  unfold qsel
  split
  · simp [h]
  · split
    · simp [h]
    · split
      · simp [h2]
      · simp [h3]
theorem qf_c {S : Spt} {i o w : Nat} (ho : o < i) (hk : kd S i = 4) (hh : (sk S i).head? = some o) : qfS S (i + 1) o w = if w = 1 then nI i else qfS S i o w := by
  have hc : clo S (i + 1) o = some i := by rw [clo_s, if_pos ⟨hk, hh⟩]
  have hn : clo S i o = none := by
    rw [List.head?_eq_getElem?] at hh
    exact ((sk_iff S i o).mp ⟨0, hh⟩).2.2
  by_cases h3 : 3 ≤ w
  · rw [if_neg (by omega), qf_sel h3, qf_sel h3]
    unfold enQ
    rw [hc, hn]; rfl
  · unfold qfS
    rcases (show w = 0 ∨ w = 1 ∨ w = 2 by omega) with rfl | rfl | rfl
    · rfl
    · simp [hc, oI]
    · rfl
theorem qf_new {S : Spt} {i w : Nat} (hk : kd S i = 3) : qfS S (i + 1) i w = if w = 0 then nI i else if w = 1 then -4 else if w = 2 then nI (rD S i + 1) else 0 := by
  have hc : clo S (i + 1) i = none := by
    rw [clo_s, if_neg (by rw [hk]; intro h; exact absurd h.1 (by decide))]
    exact clo_ge S i i (Nat.le_refl _)
  have hz : ∀ q : Nat → Bool, nI (ctR q (i + 1) (enQ S (i + 1) i)) = 0 := fun q => by
    unfold enQ; rw [hc]
    show nI (ctn q (i + 1) - ctn q (i + 1)) = 0
    rw [Nat.sub_self]; rfl
  unfold qfS
  by_cases h0 : w = 0
  · rw [if_pos h0, if_pos h0]
  · rw [if_neg h0, if_neg h0]
    by_cases h1 : w = 1
    · rw [if_pos h1, if_pos h1, hc]; rfl
    · rw [if_neg h1, if_neg h1]
      by_cases h2 : w = 2
      · rw [if_pos h2, if_pos h2]
      · rw [if_neg h2, if_neg h2, hz, hz, hz, hz]
        simp
/-- the quotes, at a sign that opens nothing and closes nothing -/
theorem QTc_n {M M' : Mem} {S : Spt} {i : Nat} (h : QTc M S i) (h3 : kd S i ≠ 3) (h4 : kd S i ≠ 4) (e8 : M' 40 8 = M 40 8) (e : ∀ q o, isQ S i q o → ∀ w, w < 7 → M' 57 (7 * q + w) = M 57 (7 * q + w) + (if 3 ≤ w ∧ clo S i o = none ∧ qsel S o w i = true then 1 else 0)) : QTc M' S (i + 1) := by
  refine ⟨by rw [e8, ctn_no (by simp [h3])]; exact h.1, fun q o hq w hw => ?_⟩
  obtain ⟨q1, q2, q3⟩ := hq
  have ho : o ≠ i := fun z => by rw [z] at q2; exact h3 q2
  have hqi : isQ S i q o := ⟨by omega, q2, q3⟩
  rw [e q o hqi w hw, h.2 q o hqi w hw, qf_s (by omega) (fun z => h4 z.1)]
theorem PTc_n {M M' : Mem} {S : Spt} {i : Nat} (h : PTc M S i) (e : M' 51 = M 51) (h3 : kd S i ≠ 3) (h4 : kd S i ≠ 4) : PTc M' S (i + 1) := fun k hk => by
  rw [e]
  by_cases hki : k = i
  · rw [hki]; exact ⟨fun q => absurd q h3, fun q => absurd q h4⟩
  · have := h k (by omega)
    rw [clo_sn h4]; exact this
theorem LVc_n {M M' : Mem} {S : Spt} {i : Nat} (h : LVc M S i) (e : M' 53 = M 53) (h3 : kd S i ≠ 3) (h4 : kd S i ≠ 4) (h5 : kd S i ≠ 5) : LVc M' S (i + 1) := fun k hk hh => by
  rw [e]
  by_cases hki : k = i
  · rw [hki] at hh; exact absurd hh (by omega)
  · exact h k (by omega) hh
theorem LVc_s {M M' : Mem} {S : Spt} {i : Nat} {v : Int32} (h : LVc M S i) (e : M' 53 = upd (M 53) i v) (hv : v = nI (levS S i)) : LVc M' S (i + 1) := fun k hk hh => by
  rw [e]
  by_cases hki : k = i
  · rw [hki, pk_us]; exact hv
  · rw [pk_un hki]; exact h k (by omega) hh
theorem KDc_s {M M' : Mem} {S : Spt} {i : Nat} {v : Int32} (h : KDc M S i) (e : M' 47 = upd (M 47) i v) (hv : v = nI (kd S i)) : KDc M' S (i + 1) := fun k hk => by
  rw [e]
  by_cases hki : k = i
  · rw [hki, pk_us]; exact hv
  · rw [pk_un hki]; exact h k (by omega)
theorem OQc_n {M M' : Mem} {S : Spt} {i : Nat} (h : OQc M S i) (e : M' 63 = M 63) (h3 : kd S i ≠ 3) (h4 : kd S i ≠ 4) : OQc M' S (i + 1) := fun p o hp => by
  rw [sk_s, if_neg h3, if_neg h4] at hp
  rw [e, rD_s, if_neg h3, if_neg h4]; exact h p o hp
theorem rD_mx (S : Spt) : ∀ i, rD S i ≤ mxD S i
  | 0 => Nat.le_refl 0
  | i + 1 => by
    have e : mxD S (i + 1) = max (mxD S i) (rD S (i + 1)) := rfl
    rw [e]; omega
theorem mxD_n {S : Spt} {i : Nat} (h3 : kd S i ≠ 3) : mxD S (i + 1) = mxD S i := by
  have e : mxD S (i + 1) = max (mxD S i) (rD S (i + 1)) := rfl
  have h1 := rD_mx S i
  rw [e, rD_s, if_neg h3]
  split <;> omega
theorem LTc_n {M M' : Mem} {S : Spt} {i : Nat} (h : LTc M S i) (e : M' 61 = M 61) (h0 : kd S i ≠ 0) : LTc M' S (i + 1) := fun d hd => by
  rw [e, h d hd]; unfold ltA; rw [ctn_no (by simp [h0])]
theorem pf_n {S : Spt} {i q w : Nat} {r : Int32} (h0 : kd S i ≠ 0) (h2 : kd S i ≠ 2) (h5 : kd S i ≠ 5) (h : pfS S i q w r) : pfS S (i + 1) q w r := by
  unfold pfS at *
  split at h
  · next hw =>
    rw [if_pos hw]
    rcases h with h | ⟨b, b1, b2, b3⟩
    · exact Or.inl h
    · exact Or.inr ⟨b, by omega, b2, b3⟩
  · next hw =>
    rw [if_neg hw]
    split at h
    · next hw1 => rw [if_pos hw1, ctn_no (by simp [h0])]; exact h
    · next hw1 => rw [if_neg hw1, ctn_no (by simp [h5])]; exact h
theorem PGc_n {M M' : Mem} {S : Spt} {i : Nat} (h : PGc M S i) (e : M' 59 = M 59) (e10 : M' 40 10 = M 40 10) (h0 : kd S i ≠ 0) (h2 : kd S i ≠ 2) (h5 : kd S i ≠ 5) : PGc M' S (i + 1) := by
  have hc : ctn (kdIs S 2) (i + 1) = ctn (kdIs S 2) i := ctn_no (by simp [h2])
  refine ⟨by rw [e10, hc]; exact h.1, fun q hq w hw => ?_⟩
  rw [hc] at hq
  rw [e]; exact pf_n h0 h2 h5 (h.2 q hq w hw)
/-- a letter or a renewer counts in its paragraph -/
theorem PGc_c {M M' : Mem} {S : Spt} {i w0 : Nat} (h : PGc M S i) (hk : (kd S i = 0 ∧ w0 = 1) ∨ (kd S i = 5 ∧ w0 = 2)) (e : M' 59 = upd (M 59) (3 * ctn (kdIs S 2) i + w0) (M 59 (3 * ctn (kdIs S 2) i + w0) + 1)) (e10 : M' 40 10 = M 40 10) : PGc M' S (i + 1) := by
  have h2 : kd S i ≠ 2 := by omega
  have hc : ctn (kdIs S 2) (i + 1) = ctn (kdIs S 2) i := ctn_no (by simp [h2])
  refine ⟨by rw [e10, hc]; exact h.1, fun q hq w hw => ?_⟩
  rw [hc] at hq
  have hold := h.2 q hq w hw
  rw [e]
  by_cases hix : 3 * q + w = 3 * ctn (kdIs S 2) i + w0
  · have hw0 : w = w0 := by omega
    have hq0 : q = ctn (kdIs S 2) i := by omega
    rw [hix, pk_us, ← hix]
    subst hw0
    unfold pfS at *
    rcases hk with ⟨k0, rfl⟩ | ⟨k5, rfl⟩
    · rw [if_neg (by decide), if_pos rfl] at *
      rw [ctn_yes (by simp [k0, hq0]), hold, nI_1]
    · rw [if_neg (by decide), if_neg (by decide)] at *
      rw [ctn_yes (by simp [k5, hq0]), hold, nI_1]
  · rw [pk_un hix]
    unfold pfS at *
    by_cases hw0 : w = 0
    · rw [if_pos hw0] at *
      rcases hold with h | ⟨b, b1, b2, b3⟩
      · exact Or.inl h
      · exact Or.inr ⟨b, by omega, b2, b3⟩
    · rw [if_neg hw0] at *
      by_cases hw1 : w = 1
      · rw [if_pos hw1] at *
        rw [ctn_no]
        · exact hold
        · simp; intro k0; omega
      · rw [if_neg hw1] at *
        rw [ctn_no]
        · exact hold
        · simp; intro k0; omega
/-- a new paragraph -/
theorem PGc_b {M M' : Mem} {S : Spt} {i : Nat} (h : PGc M S i) (hk : kd S i = 2) (e : ∀ x, M' 59 x = if x = 3 * (ctn (kdIs S 2) i + 1) then nI (rD S i) else if x = 3 * (ctn (kdIs S 2) i + 1) + 1 ∨ x = 3 * (ctn (kdIs S 2) i + 1) + 2 then 0 else M 59 x) (e10 : M' 40 10 = nI (ctn (kdIs S 2) i + 2)) : PGc M' S (i + 1) := by
  have hc : ctn (kdIs S 2) (i + 1) = ctn (kdIs S 2) i + 1 := ctn_yes (by simp [hk])
  refine ⟨by rw [e10, hc], fun q hq w hw => ?_⟩
  rw [hc] at hq
  rw [e]
  by_cases hq1 : q = ctn (kdIs S 2) i + 1
  · have zero : ∀ p : Nat → Bool, ctn (fun k => p k && decide (ctn (kdIs S 2) k = q)) (i + 1) = 0 := fun p => by
      have : ∀ j, j ≤ i + 1 → ctn (fun k => p k && decide (ctn (kdIs S 2) k = q)) j = 0 := by
        intro j
        induction j with
        | zero => intro _; rfl
        | succ j ih =>
          intro hj
          rw [ctn_no]
          · exact ih (by omega)
          · have := ctn_mono (kdIs S 2) (show j ≤ i by omega)
            simp; intro _; omega
      exact this (i + 1) (Nat.le_refl _)
    unfold pfS
    rcases (show w = 0 ∨ w = 1 ∨ w = 2 by omega) with rfl | rfl | rfl
    · rw [if_pos rfl, if_pos (by omega)]
      exact Or.inr ⟨i, by omega, hk, by omega, by rw [rD_s, hk]; simp⟩
    · rw [if_neg (by decide), if_pos rfl, if_neg (by omega), if_pos (by omega), zero (fun k => decide (kd S k = 0))]; rfl
    · rw [if_neg (by decide), if_neg (by decide), if_neg (by omega), if_pos (by omega), zero (fun k => decide (kd S k = 5))]; rfl
  · rw [if_neg (by omega), if_neg (by omega)]
    have hold := h.2 q (by omega) w hw
    unfold pfS at *
    by_cases hw0 : w = 0
    · rw [if_pos hw0] at *
      rcases hold with h | ⟨b, b1, b2, b3⟩
      · exact Or.inl h
      · exact Or.inr ⟨b, by omega, b2, b3⟩
    · rw [if_neg hw0] at *
      by_cases hw1 : w = 1
      · rw [if_pos hw1] at *
        rw [ctn_no (by simp [hk])]; exact hold
      · rw [if_neg hw1] at *
        rw [ctn_no (by simp [hk])]; exact hold

set_option maxHeartbeats 4000000 in
set_option maxRecDepth 100000 in
theorem ct_X3_addWrong {l : Launch} {D : va_G} {cI cO : ClassId} {z tP : Nat} {aK aV : Nat → Nat} (M : Mem) (L : List (Nat × Nat)) (a b : Nat) (x y : Int32) (hW : WRc M L) (hl : L.length < 242) (hx : x = nI a) (hy : y = nI b) : Cm l D cI cO z tP aK aV yX3_addWrong cX3_addWrong 3 none 1 22 [.ref (z + 40), .int x, .int y] SH M (pV (fun M1 => WRc M1 (L ++ [(a, b)]) ∧ (∀ c, c ≠ 40 → c ≠ 55 → M1 c = M c) ∧ ∀ j, j ≠ 6 → M1 40 j = M 40 j)) := by
  refine cm_intro (lv0 := [some (.ref (z + 40)), some (.int x), some (.int y)]) (by decide) rfl (Nat.le_of_ble_eq_true rfl) rfl (fun p e s m below meth c C => ?_)
  refine g_aload0 C dX3_addWrong_0 (n := 1) rfl ?_
  refine kg_X3_36 C sh_40 rfl dX3_addWrong_1 (n := 4) rfl ?_
  refine g_aload0 C dX3_addWrong_4 (n := 5) rfl ?_
  refine kg_X3_99 C sh_40 rfl dX3_addWrong_5 (n := 8) rfl ?_
  refine g_iconst C ic_2 dX3_addWrong_8 (n := 9) rfl ?_
  refine g_imul C dX3_addWrong_9 (n := 10) rfl ?_
  refine g_iload1 C dX3_addWrong_10 (n := 11) rfl ?_
  refine kc_X3_90 C (ct_X4_set SH M 54 484 (2 * L.length) _ x row_54 (by rw [hW.1, Nat.mul_comm]; exact pk_mul _ 2) (by omega)) sh_54 ⟨Nat.le_of_ble_eq_true rfl, Nat.le_of_ble_eq_true rfl⟩ ⟨Nat.zero_le _, Nat.zero_le _⟩ (Nat.le_of_ble_eq_true rfl) dX3_addWrong_11 (n := 14) rfl (fun M2 e2 => ?_)
  refine g_aload0 C dX3_addWrong_14 (n := 15) rfl ?_
  refine kg_X3_36 C sh_40 rfl dX3_addWrong_15 (n := 18) rfl ?_
  refine g_aload0 C dX3_addWrong_18 (n := 19) rfl ?_
  refine kg_X3_99 C sh_40 rfl dX3_addWrong_19 (n := 22) rfl ?_
  refine g_iconst C ic_2 dX3_addWrong_22 (n := 23) rfl ?_
  refine g_imul C dX3_addWrong_23 (n := 24) rfl ?_
  refine g_iconst C ic_1 dX3_addWrong_24 (n := 25) rfl ?_
  refine g_iadd C dX3_addWrong_25 (n := 26) rfl ?_
  refine g_iload2 C dX3_addWrong_26 (n := 27) rfl ?_
  refine kc_X3_90 C (ct_X4_set SH M2 54 484 (2 * L.length + 1) _ y row_54 (e_add (by rw [e2, up2_ne _ _ (by omega), hW.1, Nat.mul_comm]; exact pk_mul _ 2) rfl) (by omega)) sh_54 ⟨Nat.le_of_ble_eq_true rfl, Nat.le_of_ble_eq_true rfl⟩ ⟨Nat.zero_le _, Nat.zero_le _⟩ (Nat.le_of_ble_eq_true rfl) dX3_addWrong_27 (n := 30) rfl (fun M3 e3 => ?_)
  refine g_aload0 C dX3_addWrong_30 (n := 31) rfl ?_
  refine g_dup C rfl dX3_addWrong_31 (n := 32) rfl ?_
  refine kg_X3_99 C sh_40 rfl dX3_addWrong_32 (n := 35) rfl ?_
  refine g_iconst C ic_1 dX3_addWrong_35 (n := 36) rfl ?_
  refine g_iadd C dX3_addWrong_36 (n := 37) rfl ?_
  refine kp_X3_99 C sh_40 rfl dX3_addWrong_37 (n := 40) rfl (fun M4 e4 => ?_)
  refine r_V C dX3_addWrong_40 ?_
  refine ⟨⟨?_, fun j q hq => ?_⟩, fun c c1 c2 => by rw [e4, up2_ne _ _ c1, e3, up2_ne _ _ c2, e2, up2_ne _ _ c2], fun j hj => by rw [e4]; simp [up2, hj]; rw [e3, up2_ne _ _ (by omega), e2, up2_ne _ _ (by omega)]⟩
  · rw [e4, up2_at, e3, up2_ne _ _ (by omega), e2, up2_ne _ _ (by omega), hW.1, nI_1, List.length_append, List.length_singleton]
  · have w1 : M4 55 = upd (upd (M 55) (2 * L.length) x) (2 * L.length + 1) y := by rw [e4, up2_ne _ _ (by omega), e3]; refine (up2_row _ _ _ _).trans ?_; rw [e2]; exact congrArg (fun f => upd f _ _) (up2_row _ _ _ _)
    rw [w1]
    rcases app_at hq with ⟨h1, h2⟩ | ⟨h1, h2⟩
    · rw [pk_un (by omega), pk_un (by omega), pk_un (by omega), pk_un (by omega)]; exact hW.2 j q h2
    · rw [h1, h2, pk_un (by omega), pk_us, pk_us]; exact ⟨hx, hy⟩
set_option maxHeartbeats 4000000 in
set_option maxRecDepth 100000 in
theorem ct_X3_beginParagraph {l : Launch} {D : va_G} {cI cO : ClassId} {z tP : Nat} {aK aV : Nat → Nat} (M : Mem) (d u pc : Nat) (hst : M 40 14 = nI (7 * d + u)) (hd : d ≤ 6) (hu : u < 7) (hpc : M 40 10 = nI pc) (hp : pc ≤ 120) : Cm l D cI cO z tP aK aV yX3_beginParagraph cX3_beginParagraph 2 none 1 22 [.ref (z + 40)] SH M (pV (fun M1 => (∀ x, M1 59 x = if x = 3 * pc then nI d else if x = 3 * pc + 1 ∨ x = 3 * pc + 2 then 0 else M 59 x) ∧ M1 40 10 = nI (pc + 1) ∧ (∀ c, c ≠ 40 → c ≠ 59 → M1 c = M c) ∧ ∀ j, j ≠ 10 → M1 40 j = M 40 j)) := by
  refine cm_intro (lv0 := [some (.ref (z + 40)), none]) (by decide) rfl (Nat.le_of_ble_eq_true rfl) rfl (fun p e s m below meth c C => ?_)
  have hm : M 40 10 * 3 = nI (3 * pc) := by rw [hpc, Nat.mul_comm]; exact pk_mul _ 3
  refine g_aload0 C dX3_beginParagraph_0 (n := 1) rfl ?_
  refine kg_X3_105 C sh_40 rfl dX3_beginParagraph_1 (n := 4) rfl ?_
  refine g_iconst C ic_3 dX3_beginParagraph_4 (n := 5) rfl ?_
  refine g_imul C dX3_beginParagraph_5 (n := 6) rfl ?_
  refine g_istore1 C dX3_beginParagraph_6 (n := 7) rfl ?_
  refine g_aload0 C dX3_beginParagraph_7 (n := 8) rfl ?_
  refine kg_X3_42 C sh_40 rfl dX3_beginParagraph_8 (n := 11) rfl ?_
  refine g_iload1 C dX3_beginParagraph_11 (n := 12) rfl ?_
  refine g_iconst C ic_0 dX3_beginParagraph_12 (n := 13) rfl ?_
  refine g_iadd C dX3_beginParagraph_13 (n := 14) rfl ?_
  refine g_aload0 C dX3_beginParagraph_14 (n := 15) rfl ?_
  refine kg_X3_51 C sh_40 rfl dX3_beginParagraph_15 (n := 18) rfl ?_
  refine kc_X3_87 C (ct_X0_depthOf SH M d u _ hst hd hu) ⟨Nat.le_of_ble_eq_true rfl, Nat.le_of_ble_eq_true rfl⟩ ⟨Nat.zero_le _, Nat.zero_le _⟩ (Nat.le_of_ble_eq_true rfl) dX3_beginParagraph_18 (n := 21) rfl (fun r_18 M_18 h_18 => ?_)
  rw [h_18.1, h_18.2]
  refine kc_X3_90 C (ct_X4_set SH M 58 363 (3 * pc) _ _ row_58 (by rw [hm]; exact nI_add _ 0) (by omega)) sh_58 ⟨Nat.le_of_ble_eq_true rfl, Nat.le_of_ble_eq_true rfl⟩ ⟨Nat.zero_le _, Nat.zero_le _⟩ (Nat.le_of_ble_eq_true rfl) dX3_beginParagraph_21 (n := 24) rfl (fun M2 e2 => ?_)
  refine g_aload0 C dX3_beginParagraph_24 (n := 25) rfl ?_
  refine kg_X3_42 C sh_40 rfl dX3_beginParagraph_25 (n := 28) rfl ?_
  refine g_iload1 C dX3_beginParagraph_28 (n := 29) rfl ?_
  refine g_iconst C ic_1 dX3_beginParagraph_29 (n := 30) rfl ?_
  refine g_iadd C dX3_beginParagraph_30 (n := 31) rfl ?_
  refine g_iconst C ic_0 dX3_beginParagraph_31 (n := 32) rfl ?_
  refine kc_X3_90 C (ct_X4_set SH M2 58 363 (3 * pc + 1) _ _ row_58 (by rw [hm]; exact nI_add _ 1) (by omega)) sh_58 ⟨Nat.le_of_ble_eq_true rfl, Nat.le_of_ble_eq_true rfl⟩ ⟨Nat.zero_le _, Nat.zero_le _⟩ (Nat.le_of_ble_eq_true rfl) dX3_beginParagraph_32 (n := 35) rfl (fun M3 e3 => ?_)
  refine g_aload0 C dX3_beginParagraph_35 (n := 36) rfl ?_
  refine kg_X3_42 C sh_40 rfl dX3_beginParagraph_36 (n := 39) rfl ?_
  refine g_iload1 C dX3_beginParagraph_39 (n := 40) rfl ?_
  refine g_iconst C ic_2 dX3_beginParagraph_40 (n := 41) rfl ?_
  refine g_iadd C dX3_beginParagraph_41 (n := 42) rfl ?_
  refine g_iconst C ic_0 dX3_beginParagraph_42 (n := 43) rfl ?_
  refine kc_X3_90 C (ct_X4_set SH M3 58 363 (3 * pc + 2) _ _ row_58 (by rw [hm]; exact nI_add _ 2) (by omega)) sh_58 ⟨Nat.le_of_ble_eq_true rfl, Nat.le_of_ble_eq_true rfl⟩ ⟨Nat.zero_le _, Nat.zero_le _⟩ (Nat.le_of_ble_eq_true rfl) dX3_beginParagraph_43 (n := 46) rfl (fun M4 e4 => ?_)
  refine g_aload0 C dX3_beginParagraph_46 (n := 47) rfl ?_
  refine g_dup C rfl dX3_beginParagraph_47 (n := 48) rfl ?_
  refine kg_X3_105 C sh_40 rfl dX3_beginParagraph_48 (n := 51) rfl ?_
  refine g_iconst C ic_1 dX3_beginParagraph_51 (n := 52) rfl ?_
  refine g_iadd C dX3_beginParagraph_52 (n := 53) rfl ?_
  refine kp_X3_105 C sh_40 rfl dX3_beginParagraph_53 (n := 56) rfl (fun M5 e5 => ?_)
  refine r_V C dX3_beginParagraph_56 ?_
  have f4 : ∀ c, c ≠ 59 → M4 c = M c := fun c hc => by rw [e4, up2_ne _ _ hc, e3, up2_ne _ _ hc, e2, up2_ne _ _ hc]
  refine ⟨fun x => ?_, by rw [e5, up2_at, f4 40 (by omega), hpc, nI_1], fun c c1 c2 => by rw [e5, up2_ne _ _ c1]; exact f4 c c2, fun j hj => by rw [e5]; simp [up2, hj]; rw [f4 40 (by omega)]⟩
  rw [e5, up2_ne _ _ (by omega), e4, e3, e2]
  simp only [up2]
  by_cases h0 : x = 3 * pc
  · rw [if_pos h0, if_neg (by omega), if_neg (by omega), if_pos ⟨trivial, h0⟩]
  · rw [if_neg h0]
    by_cases h1 : x = 3 * pc + 1
    · rw [if_pos (Or.inl h1), if_neg (by omega), if_pos ⟨trivial, h1⟩]
    · by_cases h2 : x = 3 * pc + 2
      · rw [if_pos (Or.inr h2), if_pos ⟨trivial, h2⟩]
      · rw [if_neg (by omega), if_neg (by omega), if_neg (by omega), if_neg (by omega)]
set_option maxHeartbeats 4000000 in
set_option maxRecDepth 100000 in
theorem ct_X3_addToParagraph {l : Launch} {D : va_G} {cI cO : ClassId} {z tP : Nat} {aK aV : Nat → Nat} (M : Mem) (pc w : Nat) (x : Int32) (hpc : M 40 10 = nI (pc + 1)) (hp : pc ≤ 120) (hx : x = nI w) (hw : w < 3) : Cm l D cI cO z tP aK aV yX3_addToParagraph cX3_addToParagraph 2 none 1 22 [.ref (z + 40), .int x] SH M (pV (fun M1 => M1 = up2 M 59 (3 * pc + w) (M 59 (3 * pc + w) + 1))) := by
  refine cm_intro (lv0 := [some (.ref (z + 40)), some (.int x)]) (by decide) rfl (Nat.le_of_ble_eq_true rfl) rfl (fun p e s m below meth c C => ?_)
  refine g_aload0 C dX3_addToParagraph_0 (n := 1) rfl ?_
  refine kg_X3_42 C sh_40 rfl dX3_addToParagraph_1 (n := 4) rfl ?_
  refine g_aload0 C dX3_addToParagraph_4 (n := 5) rfl ?_
  refine kg_X3_105 C sh_40 rfl dX3_addToParagraph_5 (n := 8) rfl ?_
  refine g_iconst C ic_1 dX3_addToParagraph_8 (n := 9) rfl ?_
  refine g_isub C dX3_addToParagraph_9 (n := 10) rfl ?_
  refine g_iconst C ic_3 dX3_addToParagraph_10 (n := 11) rfl ?_
  refine g_imul C dX3_addToParagraph_11 (n := 12) rfl ?_
  refine g_iload1 C dX3_addToParagraph_12 (n := 13) rfl ?_
  refine g_iadd C dX3_addToParagraph_13 (n := 14) rfl ?_
  refine g_iconst C ic_1 dX3_addToParagraph_14 (n := 15) rfl ?_
  refine kc_X3_146 C (ct_X4_add SH M 58 363 (3 * pc + w) _ _ row_58 (e_add (by rw [e_sub hpc (show (1 : Int32) = nI 1 from rfl) (by omega), Nat.add_sub_cancel, Nat.mul_comm]; exact pk_mul _ 3) hx) (by omega)) sh_58 ⟨Nat.le_of_ble_eq_true rfl, Nat.le_of_ble_eq_true rfl⟩ ⟨Nat.zero_le _, Nat.zero_le _⟩ (Nat.le_of_ble_eq_true rfl) dX3_addToParagraph_15 (n := 18) rfl (fun M_15 h_15 => ?_)
  refine r_V C dX3_addToParagraph_18 ?_
  exact h_15
set_option maxHeartbeats 4000000 in
set_option maxRecDepth 100000 in
theorem ct_X3_addToOpenQuotes {l : Launch} {D : va_G} {cI cO : ClassId} {z tP : Nat} {aK aV : Nat → Nat} (M : Mem) (S : Spt) (i u w : Nat) (x : Int32) (hst : M 40 14 = nI (7 * rD S i + u)) (hu : u < 7) (hO : OQc M S i) (hi : i ≤ 120) (hx : x = nI w) (hw : w < 7) : Cm l D cI cO z tP aK aV yX3_addToOpenQuotes cX3_addToOpenQuotes 4 none 1 22 [.ref (z + 40), .int x] SH M (pV (fun M1 => (∀ q o, isQ S i q o → ∀ w9, w9 < 7 → M1 57 (7 * q + w9) = M 57 (7 * q + w9) + (if w9 = w ∧ clo S i o = none then 1 else 0)) ∧ ∀ c, c ≠ 57 → M1 c = M c)) := by
  refine cm_intro (lv0 := [some (.ref (z + 40)), some (.int x), none, none]) (by decide) rfl (Nat.le_of_ble_eq_true rfl) rfl (fun p e s m below meth c C => ?_)
  have hd6 := rD_le S i
  refine g_aload0 C dX3_addToOpenQuotes_0 (n := 1) rfl ?_
  refine kg_X3_51 C sh_40 rfl dX3_addToOpenQuotes_1 (n := 4) rfl ?_
  refine kc_X3_87 C (ct_X0_depthOf SH M (rD S i) u _ hst hd6 hu) ⟨Nat.le_of_ble_eq_true rfl, Nat.le_of_ble_eq_true rfl⟩ ⟨Nat.zero_le _, Nat.zero_le _⟩ (Nat.le_of_ble_eq_true rfl) dX3_addToOpenQuotes_4 (n := 7) rfl (fun r_4 M_4 h_4 => ?_)
  rw [h_4.1, h_4.2]
  refine g_istore2 C dX3_addToOpenQuotes_7 (n := 8) rfl ?_
  refine g_iconst C ic_1 dX3_addToOpenQuotes_8 (n := 9) rfl ?_
  refine g_istore3 C dX3_addToOpenQuotes_9 (n := 10) rfl ?_
  have L_10 : ∀ (fu : Nat) (v : Nat) (y : Int32) (M1 : Mem), rD S i + 1 - v < fu → (y = nI v) → (1 ≤ v) → (v ≤ rD S i + 1) → (∀ q o, isQ S i q o → ∀ w9, w9 < 7 → M1 57 (7 * q + w9) = M 57 (7 * q + w9) + (if w9 = w ∧ clo S i o = none ∧ rD S o + 1 < v then 1 else 0)) → (∀ c, c ≠ 57 → M1 c = M c) → G p l e ({ frames := 1, cells := 0, slots := 0, locals := 22 }) s m ([.ref (z + 40), .int x] : List Value).toArray below meth c D cI cO z 4 (QM below D cI cO z ([.ref (z + 40), .int x] : List Value).toArray s SH (pV (fun M1 => (∀ q o, isQ S i q o → ∀ w9, w9 < 7 → M1 57 (7 * q + w9) = M 57 (7 * q + w9) + (if w9 = w ∧ clo S i o = none then 1 else 0)) ∧ ∀ c, c ≠ 57 → M1 c = M c))) 0 0 SH M1 10 [some (.ref (z + 40)), some (.int x), some (.int (nI (rD S i))), some (.int y)] [] := by
    intro fu_10
    induction fu_10 with
    | zero => intro v y M1 hfu; exact absurd hfu (Nat.not_lt_zero _)
    | succ fu_10 ih_10 =>
      intro v y M1 hfu_10 hy hv1 hv2 hB hF
      refine g_iload3 C dX3_addToOpenQuotes_10 (n := 11) rfl ?_
      refine g_iload2 C dX3_addToOpenQuotes_11 (n := 12) rfl ?_
      refine g_icmp_gt C dX3_addToOpenQuotes_12 (t := 42) (by decide) (n := 15) rfl (fun c_12 => ?_) (fun c_12 => ?_)
      · have w12 : rD S i < v := (qlt (rfl : nI (rD S i) = _) hy (by omega) (by omega)).mp c_12
        refine r_V C dX3_addToOpenQuotes_42 ?_
        refine ⟨fun q o hq w9 hw9 => ?_, hF⟩
        rw [hB q o hq w9 hw9]
        by_cases hc : w9 = w ∧ clo S i o = none
        · rw [if_pos hc, if_pos]
          refine ⟨hc.1, hc.2, ?_⟩
          obtain ⟨p9, hp9⟩ := (sk_iff S i o).mpr ⟨hq.1, hq.2.1, hc.2⟩
          have h4 := sk_lv S i p9 o hp9
          omega
        · rw [if_neg hc, if_neg (fun h => hc ⟨h.1, h.2.1⟩)]
      · have w12 : ¬ rD S i < v := fun h => c_12 ((qlt (rfl : nI (rD S i) = _) hy (by omega) (by omega)).mpr h)
        obtain ⟨ov, hov, hlv⟩ := sk_at (S := S) (i := i) hv1 (by omega)
        have hso := sk_lv S i _ ov hov
        have hcn := ((sk_iff S i ov).mp ⟨_, hov⟩).2.2
        have hoq : M1 63 v = nI (ctn (kdIs S 3) ov) := by
          rw [hF 63 (by omega)]
          have := hO _ ov hov
          rw [show rD S i - (rD S i - v) = v by omega] at this
          exact this
        have hle := ctn_le (kdIs S 3) ov
        refine g_aload0 C dX3_addToOpenQuotes_15 (n := 16) rfl ?_
        refine kg_X3_39 C sh_40 rfl dX3_addToOpenQuotes_16 (n := 19) rfl ?_
        refine g_aload0 C dX3_addToOpenQuotes_19 (n := 20) rfl ?_
        refine kg_X3_48 C sh_40 rfl dX3_addToOpenQuotes_20 (n := 23) rfl ?_
        refine g_iload3 C dX3_addToOpenQuotes_23 (n := 24) rfl ?_
        refine kc_X3_76 C (ct_X4_at SH M1 62 7 v _ row_62 hy (by omega)) sh_62 ⟨Nat.le_of_ble_eq_true rfl, Nat.le_of_ble_eq_true rfl⟩ ⟨Nat.zero_le _, Nat.zero_le _⟩ (Nat.le_of_ble_eq_true rfl) dX3_addToOpenQuotes_24 (n := 27) rfl (fun r_24 M_24 h_24 => ?_)
        rw [h_24.1, h_24.2]
        refine g_bipush C bp_7 dX3_addToOpenQuotes_27 (n := 29) rfl ?_
        refine g_imul C dX3_addToOpenQuotes_29 (n := 30) rfl ?_
        refine g_iload1 C dX3_addToOpenQuotes_30 (n := 31) rfl ?_
        refine g_iadd C dX3_addToOpenQuotes_31 (n := 32) rfl ?_
        refine g_iconst C ic_1 dX3_addToOpenQuotes_32 (n := 33) rfl ?_
        refine kc_X3_146 C (ct_X4_add SH M1 56 840 (7 * ctn (kdIs S 3) ov + w) _ _ row_56 (e_add (by rw [show M1 (62 + 1) v = nI (ctn (kdIs S 3) ov) from hoq, Nat.mul_comm]; exact pk_mul _ 7) hx) (by omega)) sh_56 ⟨Nat.le_of_ble_eq_true rfl, Nat.le_of_ble_eq_true rfl⟩ ⟨Nat.zero_le _, Nat.zero_le _⟩ (Nat.le_of_ble_eq_true rfl) dX3_addToOpenQuotes_33 (n := 36) rfl (fun M2 e2 => ?_)
        refine g_iinc3 C (inc_1 _) dX3_addToOpenQuotes_36 (n := 39) rfl ?_
        refine g_goto C dX3_addToOpenQuotes_39 (t := 10) (by decide) ?_
        exact ih_10 (v + 1) (y + 1) M2 (by omega) (by rw [hy, nI_1]) (by omega) (by omega) (fun q o hq w9 hw9 => by
          have hbo := hB q o hq w9 hw9
          rw [e2]
          by_cases hix : 7 * q + w9 = 7 * ctn (kdIs S 3) ov + w
          · have hw0 : w9 = w := by omega
            have hq0 : q = ctn (kdIs S 3) ov := by omega
            have hoe : o = ov := ctn_one (q := kdIs S 3) (by simp [hq.2.1]) (by simp [hso.2.1]) (hq.2.2.trans hq0)
            refine (show up2 M1 57 (7 * ctn (kdIs S 3) ov + w) _ 57 (7 * q + w9) = M1 57 (7 * ctn (kdIs S 3) ov + w) + 1 by rw [hix]; exact up2_at _ _ _ _).trans ?_
            rw [← hix, hbo, if_neg (by rw [hoe]; omega), if_pos ⟨hw0, by rw [hoe]; exact hcn, by rw [hoe]; omega⟩, Int32.add_zero]
          · refine (show up2 M1 57 (7 * ctn (kdIs S 3) ov + w) _ 57 (7 * q + w9) = M1 57 (7 * q + w9) by simp [up2]; intro h; exact absurd h hix).trans ?_
            rw [hbo]
            by_cases hc : w9 = w ∧ clo S i o = none ∧ rD S o + 1 < v
            · rw [if_pos hc, if_pos ⟨hc.1, hc.2.1, by omega⟩]
            · rw [if_neg hc, if_neg]
              rintro ⟨h1, h2, h3⟩
              obtain ⟨p9, hp9⟩ := (sk_iff S i o).mpr ⟨hq.1, hq.2.1, h2⟩
              have h4 := sk_lv S i p9 o hp9
              have h8 : ¬ rD S o + 1 < v := fun h => hc ⟨h1, h2, h⟩
              have h5 : rD S o + 1 = v := by omega
              have h6 : p9 = rD S i - v := by omega
              rw [h6, hov] at hp9
              have h7 : ov = o := Option.some.inj hp9
              rw [← h7] at hq
              exact hix (by rw [← hq.2.2, h1])) (fun c hc => by rw [e2, up2_ne _ _ hc]; exact hF c hc)
  exact L_10 (rD S i + 2) 1 1 M (by omega) rfl (by omega) (by omega) (fun q o hq w9 hw9 => by rw [if_neg (by omega)]; exact (Int32.add_zero _).symm) (fun _ _ => rfl)
